/-! ===== Bgpreplay$Entry, Bgpreplay$Registry, Bgpreplay$Relations ===== -/
def isEntry (h : HF) (en pf q b lo og : Nat) : Prop := h en = some (.inr (0, [.ref pf, .int (nI lo), .int (nI og)])) ∧ isPfx h pf q b
def eOk (q b lo og : Nat) : Prop := q < 512 ∧ b ≤ 8 ∧ lo ≤ 8 ∧ og ≤ 30
def eLike (q lo og q2 lo2 og2 : Nat) : Bool := decide (q = q2 ∧ lo = lo2 ∧ og = og2)
/-- an entry allows the route of prefix q2 / b2, origin og2 -/
def ePerm (q b lo og q2 b2 og2 : Nat) : Bool := decide (cov q b q2 b2 = true ∧ og = og2 ∧ b2 ≤ lo)
theorem pAt_in {z : Nat} {N : Nat → Nat} {j : Nat} (hj : j < z) : pAt z N j = nI (N j) := by unfold pAt; rw [if_pos (by omega)]; rfl
theorem pAt_last {z : Nat} {N : Nat → Nat} (hz : 0 < z) : pAt z N (z - 1) = nI (N (z - 1)) := by
  rw [show ((z : Int) - 1) = ((z - 1 : Nat) : Int) by omega]
  exact pAt_in (by omega)
section REG
variable {l : Launch} {g : GG} {A : Nat → Prop} {h : HF}
theorem c_X0_init {p pf : Nat} {x y : Int32} (hp : h p = some (.inr (0, [.null, .int 0, .int 0]))) : MVo l g A h yX0_init cX0_init 4 1 0 0 [.ref p, .ref pf, .int x, .int y] (fun h1 => h1 p = some (.inr (0, [.ref pf, .int x, .int y])) ∧ ∀ b, b ≠ p → h1 b = h b) := by
  refine j_met (by decide +kernel) (Nat.le_of_ble_eq_true rfl) (fun X F hn hQ => ?_)
  first | refine j_aload_n (pc := 0) F dX0_init_0 rfl ?_ | refine j_aload_nq (pc := 0) F dX0_init_0 rfl ?_
  refine j_objInit (pc := 1) F (by omega) lk_X0_1 (Nat.le_of_ble_eq_true rfl) dX0_init_1 ?_
  first | refine j_aload_n (pc := 4) F dX0_init_4 rfl ?_ | refine j_aload_nq (pc := 4) F dX0_init_4 rfl ?_
  first | refine j_aload_n (pc := 5) F dX0_init_5 rfl ?_ | refine j_aload_nq (pc := 5) F dX0_init_5 rfl ?_
  refine j_putF (pc := 6) F fp_X0_7 hn rfl (by first | assumption | exact hUp_s) (by rfl) (by rfl) (Nat.le_of_ble_eq_true rfl) dX0_init_6 ?_
  first | refine j_aload_n (pc := 9) F dX0_init_9 rfl ?_ | refine j_aload_nq (pc := 9) F dX0_init_9 rfl ?_
  refine j_iload_n (pc := 10) F dX0_init_10 rfl ?_
  refine j_putF (pc := 11) F fp_X0_13 hn rfl (by first | assumption | exact hUp_s) (by rfl) (by rfl) (Nat.le_of_ble_eq_true rfl) dX0_init_11 ?_
  first | refine j_aload_n (pc := 14) F dX0_init_14 rfl ?_ | refine j_aload_nq (pc := 14) F dX0_init_14 rfl ?_
  refine j_iload_n (pc := 15) F dX0_init_15 rfl ?_
  refine j_putF (pc := 16) F fp_X0_17 hn rfl (by first | assumption | exact hUp_s) (by rfl) (by rfl) (Nat.le_of_ble_eq_true rfl) dX0_init_16 ?_
  refine j_vret F hQ rfl (by omega) (by omega) dX0_init_19 ⟨?_, fun b q1 => ?_⟩
  · rw [hUp_s]; rfl
  · rw [hUp_n q1, hUp_n q1, hUp_n q1]
theorem c_X0_isLike {en pf q b lo og en2 pf2 q2 b2 lo2 og2 : Nat} (he : isEntry h en pf q b lo og) (ho : eOk q b lo og) (he2 : isEntry h en2 pf2 q2 b2 lo2 og2) (ho2 : eOk q2 b2 lo2 og2) : MI l g A h yX0_isLike cX0_isLike 2 (some .boolean) 0 0 0 [.ref en, .ref en2] (fun r h1 => r = bI (eLike q lo og q2 lo2 og2) ∧ h1 = h) := by
  obtain ⟨e1, e2⟩ := he
  obtain ⟨f1, f2⟩ := he2
  obtain ⟨o1, o2, o3, o4⟩ := ho
  obtain ⟨p1, p2, p3, p4⟩ := ho2
  unfold isPfx at e2 f2
  refine j_met (by decide +kernel) (Nat.le_of_ble_eq_true rfl) (fun X F hn hQ => ?_)
  first | refine j_aload_n (pc := 0) F dX0_isLike_0 rfl ?_ | refine j_aload_nq (pc := 0) F dX0_isLike_0 rfl ?_
  refine j_get (pc := 1) F fg_X0_7 (by first | assumption | exact hUp_s) (by rfl) dX0_isLike_1 ?_
  refine j_getN (pc := 4) F fn_X0_20 (by first | assumption | exact hUp_s) (by rfl) dX0_isLike_4 ?_
  first | refine j_aload_n (pc := 7) F dX0_isLike_7 rfl ?_ | refine j_aload_nq (pc := 7) F dX0_isLike_7 rfl ?_
  refine j_get (pc := 8) F fg_X0_7 (by first | assumption | exact hUp_s) (by rfl) dX0_isLike_8 ?_
  refine j_getN (pc := 11) F fn_X0_20 (by first | assumption | exact hUp_s) (by rfl) dX0_isLike_11 ?_
  first | refine j_icmp_neN (pc := 14) F 43 dX0_isLike_14 (by decide) (by omega) (by omega) (fun c => ?_) (fun c => ?_) | refine j_icmp_neIN (pc := 14) F 43 dX0_isLike_14 (by decide) (by omega) (fun c => ?_) (fun c => ?_) | refine j_icmp_neNI (pc := 14) F 43 dX0_isLike_14 (by decide) (by omega) (fun c => ?_) (fun c => ?_) | refine j_icmp_ne (pc := 14) F 43 dX0_isLike_14 (by decide) (fun c => ?_) (fun c => ?_)
  · refine j_iconst (pc := 43) (v := (nI 0)) F dX0_isLike_43 (by decide) ?_
    exact j_iret F hQ rfl rfl (by omega) (by omega) dX0_isLike_44 ⟨by rw [eLike, decide_eq_false (by omega)]; rfl, rfl⟩
  · first | refine j_aload_n (pc := 17) F dX0_isLike_17 rfl ?_ | refine j_aload_nq (pc := 17) F dX0_isLike_17 rfl ?_
    refine j_get (pc := 18) F fg_X0_13 (by first | assumption | exact hUp_s) (by rfl) dX0_isLike_18 ?_
    first | refine j_aload_n (pc := 21) F dX0_isLike_21 rfl ?_ | refine j_aload_nq (pc := 21) F dX0_isLike_21 rfl ?_
    refine j_get (pc := 22) F fg_X0_13 (by first | assumption | exact hUp_s) (by rfl) dX0_isLike_22 ?_
    first | refine j_icmp_neN (pc := 25) F 43 dX0_isLike_25 (by decide) (by omega) (by omega) (fun c2 => ?_) (fun c2 => ?_) | refine j_icmp_neIN (pc := 25) F 43 dX0_isLike_25 (by decide) (by omega) (fun c2 => ?_) (fun c2 => ?_) | refine j_icmp_neNI (pc := 25) F 43 dX0_isLike_25 (by decide) (by omega) (fun c2 => ?_) (fun c2 => ?_) | refine j_icmp_ne (pc := 25) F 43 dX0_isLike_25 (by decide) (fun c2 => ?_) (fun c2 => ?_)
    · refine j_iconst (pc := 43) (v := (nI 0)) F dX0_isLike_43 (by decide) ?_
      exact j_iret F hQ rfl rfl (by omega) (by omega) dX0_isLike_44 ⟨by rw [eLike, decide_eq_false (by omega)]; rfl, rfl⟩
    · first | refine j_aload_n (pc := 28) F dX0_isLike_28 rfl ?_ | refine j_aload_nq (pc := 28) F dX0_isLike_28 rfl ?_
      refine j_get (pc := 29) F fg_X0_17 (by first | assumption | exact hUp_s) (by rfl) dX0_isLike_29 ?_
      first | refine j_aload_n (pc := 32) F dX0_isLike_32 rfl ?_ | refine j_aload_nq (pc := 32) F dX0_isLike_32 rfl ?_
      refine j_get (pc := 33) F fg_X0_17 (by first | assumption | exact hUp_s) (by rfl) dX0_isLike_33 ?_
      first | refine j_icmp_neN (pc := 36) F 43 dX0_isLike_36 (by decide) (by omega) (by omega) (fun c3 => ?_) (fun c3 => ?_) | refine j_icmp_neIN (pc := 36) F 43 dX0_isLike_36 (by decide) (by omega) (fun c3 => ?_) (fun c3 => ?_) | refine j_icmp_neNI (pc := 36) F 43 dX0_isLike_36 (by decide) (by omega) (fun c3 => ?_) (fun c3 => ?_) | refine j_icmp_ne (pc := 36) F 43 dX0_isLike_36 (by decide) (fun c3 => ?_) (fun c3 => ?_)
      · refine j_iconst (pc := 43) (v := (nI 0)) F dX0_isLike_43 (by decide) ?_
        exact j_iret F hQ rfl rfl (by omega) (by omega) dX0_isLike_44 ⟨by rw [eLike, decide_eq_false (by omega)]; rfl, rfl⟩
      · refine j_iconst (pc := 39) (v := (nI 1)) F dX0_isLike_39 (by decide) ?_
        refine j_goto (pc := 40) F 44 dX0_isLike_40 (by decide) ?_
        exact j_iret F hQ rfl rfl (by omega) (by omega) dX0_isLike_44 ⟨by rw [eLike, decide_eq_true (by omega)]; rfl, rfl⟩
theorem c_X0_concerns {en pf q b lo og r pf2 pa aa pe q2 b2 z s e : Nat} {N : Nat → Nat} (he : isEntry h en pf q b lo og) (ho : eOk q b lo og) (hr : isRoute g h r pf2 pa aa pe q2 b2 z N s e) (hro : rOk pe q2 b2 z s e) : MI l g A h yX0_concerns cX0_concerns 2 (some .boolean) 1 0 0 [.ref en, .ref r] (fun x h1 => x = bI (cov q b q2 b2) ∧ h1 = h) := by
  obtain ⟨e1, e2⟩ := he
  obtain ⟨hr, h2, h3⟩ := hr
  obtain ⟨o1, o2, o3, o4⟩ := ho
  obtain ⟨p1, p2, p3, p4, p5, p6⟩ := hro
  have e2' := e2
  unfold isPfx at e2'
  refine j_met (by decide +kernel) (Nat.le_of_ble_eq_true rfl) (fun X F hn hQ => ?_)
  first | refine j_aload_n (pc := 0) F dX0_concerns_0 rfl ?_ | refine j_aload_nq (pc := 0) F dX0_concerns_0 rfl ?_
  refine j_get (pc := 1) F fg_X0_7 (by first | assumption | exact hUp_s) (by rfl) dX0_concerns_1 ?_
  first | refine j_aload_n (pc := 4) F dX0_concerns_4 rfl ?_ | refine j_aload_nq (pc := 4) F dX0_concerns_4 rfl ?_
  refine j_getN (pc := 5) F fn_X0_25 (by first | assumption | exact hUp_s) (by rfl) dX0_concerns_5 ?_
  refine j_ri (j_runV (pc := 8) F (c_X3_covers e2 h2 o1 p2 o2 p3) m_X3_covers mv_X3_covers lk_X0_28 (by first | assumption | exact hUp_s) rfl ⟨by decide, by decide⟩ (Nat.le_of_ble_eq_true rfl) ⟨by omega, by omega⟩ rfl dX0_concerns_8) (fun r h1 hp => ?_)
  obtain ⟨rfl, rfl⟩ := hp
  exact j_iret F hQ rfl (bI_n _) (by omega) (by omega) dX0_concerns_11 ⟨rfl, rfl⟩
theorem c_X0_permits {en pf q b lo og r pf2 pa aa pe q2 b2 z s e : Nat} {N : Nat → Nat} (he : isEntry h en pf q b lo og) (ho : eOk q b lo og) (hr : isRoute g h r pf2 pa aa pe q2 b2 z N s e) (hro : rOk pe q2 b2 z s e) (hz : 0 < z) (hN : ∀ j, j < z → N j ≤ 30) : MI l g A h yX0_permits cX0_permits 2 (some .boolean) 2 0 0 [.ref en, .ref r] (fun x h1 => x = bI (decide (og = N (z - 1) ∧ b2 ≤ lo)) ∧ h1 = h) := by
  obtain ⟨e1, e2⟩ := he
  obtain ⟨hr, h2, h3⟩ := hr
  obtain ⟨o1, o2, o3, o4⟩ := ho
  obtain ⟨p1, p2, p3, p4, p5, p6⟩ := hro
  have h2' := h2
  unfold isPfx at h2'
  obtain ⟨y1, g1, g2⟩ := id h3
  have hN1 := hN (z - 1) (by omega)
  refine j_met (by decide +kernel) (Nat.le_of_ble_eq_true rfl) (fun X F hn hQ => ?_)
  first | refine j_aload_n (pc := 0) F dX0_permits_0 rfl ?_ | refine j_aload_nq (pc := 0) F dX0_permits_0 rfl ?_
  refine j_get (pc := 1) F fg_X0_17 (by first | assumption | exact hUp_s) (by rfl) dX0_permits_1 ?_
  first | refine j_aload_n (pc := 4) F dX0_permits_4 rfl ?_ | refine j_aload_nq (pc := 4) F dX0_permits_4 rfl ?_
  refine j_getN (pc := 5) F fn_X0_32 (by first | assumption | exact hUp_s) (by rfl) dX0_permits_5 ?_
  refine j_ri (j_runV (pc := 8) F (c_X2_origin h3) m_X2_origin mv_X2_origin lk_X0_36 (by first | assumption | exact hUp_s) rfl ⟨by decide, by decide⟩ (Nat.le_of_ble_eq_true rfl) ⟨by omega, by omega⟩ rfl dX0_permits_8) (fun r h1 hp => ?_)
  obtain ⟨rfl, rfl⟩ := hp
  refine j_int (pAt_last hz) ?_
  first | refine j_icmp_neN (pc := 11) F 32 dX0_permits_11 (by decide) (by omega) (by omega) (fun c2 => ?_) (fun c2 => ?_) | refine j_icmp_neIN (pc := 11) F 32 dX0_permits_11 (by decide) (by omega) (fun c2 => ?_) (fun c2 => ?_) | refine j_icmp_neNI (pc := 11) F 32 dX0_permits_11 (by decide) (by omega) (fun c2 => ?_) (fun c2 => ?_) | refine j_icmp_ne (pc := 11) F 32 dX0_permits_11 (by decide) (fun c2 => ?_) (fun c2 => ?_)
  · refine j_iconst (pc := 32) (v := (nI 0)) F dX0_permits_32 (by decide) ?_
    exact j_iret F hQ rfl rfl (by omega) (by omega) dX0_permits_33 ⟨by rw [decide_eq_false (by omega)]; rfl, rfl⟩
  · first | refine j_aload_n (pc := 14) F dX0_permits_14 rfl ?_ | refine j_aload_nq (pc := 14) F dX0_permits_14 rfl ?_
    refine j_get (pc := 15) F fg_X0_13 (by first | assumption | exact hUp_s) (by rfl) dX0_permits_15 ?_
    first | refine j_aload_n (pc := 18) F dX0_permits_18 rfl ?_ | refine j_aload_nq (pc := 18) F dX0_permits_18 rfl ?_
    refine j_getN (pc := 19) F fn_X0_25 (by first | assumption | exact hUp_s) (by rfl) dX0_permits_19 ?_
    refine j_getN (pc := 22) F fn_X0_41 (by first | assumption | exact hUp_s) (by rfl) dX0_permits_22 ?_
    first | refine j_icmp_ltN (pc := 25) F 32 dX0_permits_25 (by decide) (by omega) (by omega) (fun c3 => ?_) (fun c3 => ?_) | refine j_icmp_ltIN (pc := 25) F 32 dX0_permits_25 (by decide) (by omega) (fun c3 => ?_) (fun c3 => ?_) | refine j_icmp_ltNI (pc := 25) F 32 dX0_permits_25 (by decide) (by omega) (fun c3 => ?_) (fun c3 => ?_) | refine j_icmp_ltI (pc := 25) F 32 dX0_permits_25 (by decide) (fun c3 => ?_) (fun c3 => ?_)
    · refine j_iconst (pc := 32) (v := (nI 0)) F dX0_permits_32 (by decide) ?_
      exact j_iret F hQ rfl rfl (by omega) (by omega) dX0_permits_33 ⟨by rw [decide_eq_false (by omega)]; rfl, rfl⟩
    · refine j_iconst (pc := 28) (v := (nI 1)) F dX0_permits_28 (by decide) ?_
      refine j_goto (pc := 29) F 33 dX0_permits_29 (by decide) ?_
      exact j_iret F hQ rfl rfl (by omega) (by omega) dX0_permits_33 ⟨by rw [decide_eq_true ⟨by omega, by omega⟩]; rfl, rfl⟩
/-- the registry rg, its row ea, of n entries: their addresses, prefixes' addresses, numbers, lengths, longest, origins -/
def isReg (g : GG) (h : HF) (rg ea n : Nat) (ad pf Q B L O : Nat → Nat) : Prop := ∃ r : Nat → Option Nat, h rg = some (.inr (4, [.ref ea, .int (nI n)])) ∧ h ea = some (aE g 20 r) ∧ n ≤ 20 ∧ ∀ i, i < n → r i = some (ad i) ∧ isEntry h (ad i) (pf i) (Q i) (B i) (L i) (O i) ∧ eOk (Q i) (B i) (L i) (O i)
theorem c_X4_init {p : Nat} (hp : h p = some (.inr (4, [.null, .int 0]))) : MVo l g A h yX4_init cX4_init 1 1 1 20 [.ref p] (fun h1 => ∃ a, h a = none ∧ h1 p = some (.inr (4, [.ref a, .int (nI 0)])) ∧ h1 a = some (aE g 20 (fun _ => none)) ∧ ∀ b, b ≠ p → b ≠ a → h1 b = h b) := by
  refine j_met (by decide +kernel) (Nat.le_of_ble_eq_true rfl) (fun X F hn hQ => ?_)
  first | refine j_aload_n (pc := 0) F dX4_init_0 rfl ?_ | refine j_aload_nq (pc := 0) F dX4_init_0 rfl ?_
  refine j_objInit (pc := 1) F (by omega) lk_X4_3 (Nat.le_of_ble_eq_true rfl) dX4_init_1 ?_
  first | refine j_aload_n (pc := 4) F dX4_init_4 rfl ?_ | refine j_aload_nq (pc := 4) F dX4_init_4 rfl ?_
  refine j_bipush (pc := 5) (v := (nI 20)) F dX4_init_5 (by decide) ?_
  refine j_newaE (pc := 7) F (N := 20) lc_X4_9 (by decide) (by decide) (by decide) (by omega) (by omega) dX4_init_7 (fun q hq hA => ?_)
  have hpq : p ≠ q := Ne.symm (ne_of hq hp)
  have e3 : hUp h q (aE g 20 (fun _ => none)) p = some (.inr (4, [.null, .int 0])) := (hUp_n hpq).trans hp
  refine j_putF (pc := 10) F fp_X4_11 hn rfl (by first | assumption | exact hUp_s) (by rfl) (by rfl) (Nat.le_of_ble_eq_true rfl) dX4_init_10 ?_
  first | refine j_aload_n (pc := 13) F dX4_init_13 rfl ?_ | refine j_aload_nq (pc := 13) F dX4_init_13 rfl ?_
  refine j_iconst (pc := 14) (v := (nI 0)) F dX4_init_14 (by decide) ?_
  refine j_put (pc := 15) F fp_X4_17 (by first | assumption | exact hUp_s) (by rfl) (by rfl) (Nat.le_of_ble_eq_true rfl) dX4_init_15 ?_
  refine j_vret F hQ rfl (by omega) (by omega) dX4_init_18 ⟨q, hq, ?_, ?_, fun b q1 q2 => ?_⟩
  · rw [hUp_s]; rfl
  · rw [hUp_n (Ne.symm hpq), hUp_n (Ne.symm hpq), hUp_s]
  · rw [hUp_n q1, hUp_n q1, hUp_n q2]
theorem c_X4_isFull {rg ea n : Nat} {ad pf Q B L O : Nat → Nat} (hr : isReg g h rg ea n ad pf Q B L O) : MI l g A h yX4_isFull cX4_isFull 1 (some .boolean) 0 0 0 [.ref rg] (fun r h1 => r = bI (decide (20 ≤ n)) ∧ h1 = h) := by
  obtain ⟨rr, e1, e2, hn20, he⟩ := hr
  refine j_met (by decide +kernel) (Nat.le_of_ble_eq_true rfl) (fun X F hn hQ => ?_)
  first | refine j_aload_n (pc := 0) F dX4_isFull_0 rfl ?_ | refine j_aload_nq (pc := 0) F dX4_isFull_0 rfl ?_
  refine j_get (pc := 1) F fg_X4_17 (by first | assumption | exact hUp_s) (by rfl) dX4_isFull_1 ?_
  refine j_bipush (pc := 4) (v := (nI 20)) F dX4_isFull_4 (by decide) ?_
  first | refine j_icmp_ltN (pc := 6) F 13 dX4_isFull_6 (by decide) (by omega) (by omega) (fun c => ?_) (fun c => ?_) | refine j_icmp_ltIN (pc := 6) F 13 dX4_isFull_6 (by decide) (by omega) (fun c => ?_) (fun c => ?_) | refine j_icmp_ltNI (pc := 6) F 13 dX4_isFull_6 (by decide) (by omega) (fun c => ?_) (fun c => ?_) | refine j_icmp_ltI (pc := 6) F 13 dX4_isFull_6 (by decide) (fun c => ?_) (fun c => ?_)
  · refine j_iconst (pc := 13) (v := (nI 0)) F dX4_isFull_13 (by decide) ?_
    exact j_iret F hQ rfl rfl (by omega) (by omega) dX4_isFull_14 ⟨by rw [decide_eq_false (by omega)]; rfl, rfl⟩
  · refine j_iconst (pc := 9) (v := (nI 1)) F dX4_isFull_9 (by decide) ?_
    refine j_goto (pc := 10) F 14 dX4_isFull_10 (by decide) ?_
    exact j_iret F hQ rfl rfl (by omega) (by omega) dX4_isFull_14 ⟨by rw [decide_eq_true (by omega)]; rfl, rfl⟩
theorem c_X4_placeOf {rg ea n en pf2 q2 b2 lo2 og2 : Nat} {ad pf Q B L O : Nat → Nat} (hr : isReg g h rg ea n ad pf Q B L O) (he : isEntry h en pf2 q2 b2 lo2 og2) (ho : eOk q2 b2 lo2 og2) : MI l g A h yX4_placeOf cX4_placeOf 4 (some .int) 1 0 0 [.ref rg, .ref en] (fun x h1 => ((∃ i, x = nI i ∧ i < n ∧ eLike (Q i) (L i) (O i) q2 lo2 og2 = true ∧ ∀ j, j < i → eLike (Q j) (L j) (O j) q2 lo2 og2 = false) ∨ (x = -1 ∧ ∀ j, j < n → eLike (Q j) (L j) (O j) q2 lo2 og2 = false)) ∧ h1 = h) := by
  obtain ⟨rr, e1, e2, hn20, hes⟩ := hr
  refine j_met (by decide +kernel) (Nat.le_of_ble_eq_true rfl) (fun X F hn hQ => ?_)
  refine j_iconst (pc := 0) (v := (nI 0)) F dX4_placeOf_0 (by decide) ?_
  refine j_istore_n (pc := 1) F dX4_placeOf_1 (by decide) ?_
  have loop : ∀ m i (lv : List (Nat × Value)), n < i + m → i ≤ n → (∀ j, j < i → eLike (Q j) (L j) (O j) q2 lo2 og2 = false) → lall lv [(0, .ref rg), (1, .ref en), (2, .int (nI i))] → J l X g A 4 0 0 h 2 lv [] := by
    intro m
    induction m with
    | zero => intro i lv q1 q2; omega
    | succ m ih =>
      intro i lv q1 q2 q3 q4
      refine j_lv _ q4 ?_
      refine j_iload_n (pc := 2) F dX4_placeOf_2 rfl ?_
      first | refine j_aload_n (pc := 3) F dX4_placeOf_3 rfl ?_ | refine j_aload_nq (pc := 3) F dX4_placeOf_3 rfl ?_
      refine j_get (pc := 4) F fg_X4_17 (by first | assumption | exact hUp_s) (by rfl) dX4_placeOf_4 ?_
      first | refine j_icmp_geN (pc := 7) F 37 dX4_placeOf_7 (by decide) (by omega) (by omega) (fun c => ?_) (fun c => ?_) | refine j_icmp_geIN (pc := 7) F 37 dX4_placeOf_7 (by decide) (by omega) (fun c => ?_) (fun c => ?_) | refine j_icmp_geNI (pc := 7) F 37 dX4_placeOf_7 (by decide) (by omega) (fun c => ?_) (fun c => ?_) | refine j_icmp_geI (pc := 7) F 37 dX4_placeOf_7 (by decide) (fun c => ?_) (fun c => ?_)
      · refine j_iconst (pc := 37) (v := (-1)) F dX4_placeOf_37 (by decide) ?_
        exact j_iret F hQ rfl rfl (by omega) (by omega) dX4_placeOf_38 ⟨Or.inr ⟨rfl, fun j hj => q3 j (by omega)⟩, rfl⟩
      · obtain ⟨w1, w2, w3⟩ := hes i (by omega)
        have w4 := w2.1
        first | refine j_aload_n (pc := 10) F dX4_placeOf_10 rfl ?_ | refine j_aload_nq (pc := 10) F dX4_placeOf_10 rfl ?_
        refine j_get (pc := 11) F fg_X4_11 (by first | assumption | exact hUp_s) (by rfl) dX4_placeOf_11 ?_
        refine j_iload_n (pc := 14) F dX4_placeOf_14 rfl ?_
        first | refine j_aldRN (pc := 15) F (by first | assumption | exact hUp_s) (by omega) (by decide) dX4_placeOf_15 ?_ | refine j_aldEN (pc := 15) F (by first | assumption | exact hUp_s) (by omega) (by decide) dX4_placeOf_15 ?_ | refine j_aldIIN (pc := 15) F (by first | assumption | exact hUp_s) (by omega) (by decide) dX4_placeOf_15 ?_
        refine j_refS w1 ?_
        first | refine j_astore_n (pc := 16) F dX4_placeOf_16 (by decide) ?_ | refine j_astore_nq (pc := 16) F dX4_placeOf_16 (by decide) ?_ | refine j_astore_nN (pc := 16) F dX4_placeOf_16 (by decide) ?_
        first | refine j_aload_n (pc := 17) F dX4_placeOf_17 rfl ?_ | refine j_aload_nq (pc := 17) F dX4_placeOf_17 rfl ?_
        refine j_ifnull (pc := 18) F dX4_placeOf_18 ?_
        first | refine j_aload_n (pc := 21) F dX4_placeOf_21 rfl ?_ | refine j_aload_nq (pc := 21) F dX4_placeOf_21 rfl ?_
        first | refine j_aload_n (pc := 22) F dX4_placeOf_22 rfl ?_ | refine j_aload_nq (pc := 22) F dX4_placeOf_22 rfl ?_
        refine j_ri (j_runV (pc := 23) F (c_X0_isLike w2 w3 he ho) m_X0_isLike mv_X0_isLike lk_X4_21 (by first | assumption | exact hUp_s) rfl ⟨by decide, by decide⟩ (Nat.le_of_ble_eq_true rfl) ⟨by omega, by omega⟩ rfl dX4_placeOf_23) (fun r h1 hp => ?_)
        obtain ⟨rfl, rfl⟩ := hp
        first | refine j_if_eqB (pc := 26) F 31 dX4_placeOf_26 (by decide) (fun c2 => ?_) (fun c2 => ?_) | refine j_if_eqN (pc := 26) F 31 dX4_placeOf_26 (by decide) (by omega) (fun c2 => ?_) (fun c2 => ?_) | refine j_if_eqI (pc := 26) F 31 dX4_placeOf_26 (by decide) (fun c2 => ?_) (fun c2 => ?_)
        · first | refine j_iincN (pc := 31) F dX4_placeOf_31 rfl (by decide) ?_ | refine j_iincM (pc := 31) F dX4_placeOf_31 rfl (by decide) ?_ | refine j_iinc (pc := 31) F dX4_placeOf_31 rfl rfl (by decide) ?_
          refine j_goto (pc := 34) F 2 dX4_placeOf_34 (by decide) ?_
          refine ih (i + 1) _ (by omega) (by omega) (fun j hj => ?_) ⟨rfl, rfl, rfl, trivial⟩
          rcases Nat.lt_or_ge j i with z1 | z1
          · exact q3 j z1
          · rw [show j = i by omega]; exact c2
        · refine j_iload_n (pc := 29) F dX4_placeOf_29 rfl ?_
          exact j_iret F hQ rfl rfl (by omega) (by omega) dX4_placeOf_30 ⟨Or.inl ⟨i, rfl, by omega, c2, q3⟩, rfl⟩
  exact loop (n + 1) 0 _ (by omega) (by omega) (fun j hj => by omega) ⟨rfl, rfl, rfl, trivial⟩
theorem c_X4_add {rg ea n en : Nat} {ad pf Q B L O : Nat → Nat} {vs : List Value} (hr : isReg g h rg ea n ad pf Q B L O) (hn20 : n < 20) (he : h en = some (.inr (0, vs))) : MVo l g A h yX4_add cX4_add 2 1 0 0 [.ref rg, .ref en] (fun h1 => h1 rg = some (.inr (4, [.ref ea, .int (nI (n + 1))])) ∧ (∃ r, h1 ea = some (aE g 20 r) ∧ (∀ i, i < n → r i = some (ad i)) ∧ r n = some en) ∧ ∀ b, b ≠ rg → b ≠ ea → h1 b = h b) := by
  have hr0 := hr
  obtain ⟨rr, e1, e2, -, hes⟩ := hr
  have hre : rg ≠ ea := ne_of2 e1 e2 (fun z => by cases z)
  refine j_met (by decide +kernel) (Nat.le_of_ble_eq_true rfl) (fun X F hn hQ => ?_)
  first | refine j_aload_n (pc := 0) F dX4_add_0 rfl ?_ | refine j_aload_nq (pc := 0) F dX4_add_0 rfl ?_
  refine j_ri (j_runV (pc := 1) F (c_X4_isFull hr0) m_X4_isFull mv_X4_isFull lk_X4_25 (by first | assumption | exact hUp_s) rfl ⟨by decide, by decide⟩ (Nat.le_of_ble_eq_true rfl) ⟨by omega, by omega⟩ rfl dX4_add_1) (fun r h1 hp => ?_)
  obtain ⟨rfl, rfl⟩ := hp
  first | refine j_if_neB (pc := 4) F 27 dX4_add_4 (by decide) (fun c => ?_) (fun c => ?_) | refine j_if_neN (pc := 4) F 27 dX4_add_4 (by decide) (by omega) (fun c => ?_) (fun c => ?_) | refine j_if_neI (pc := 4) F 27 dX4_add_4 (by decide) (fun c => ?_) (fun c => ?_)
  · simp at c; omega
  · first | refine j_aload_n (pc := 7) F dX4_add_7 rfl ?_ | refine j_aload_nq (pc := 7) F dX4_add_7 rfl ?_
    refine j_get (pc := 8) F fg_X4_11 (by first | assumption | exact hUp_s) (by rfl) dX4_add_8 ?_
    first | refine j_aload_n (pc := 11) F dX4_add_11 rfl ?_ | refine j_aload_nq (pc := 11) F dX4_add_11 rfl ?_
    refine j_get (pc := 12) F fg_X4_17 (by first | assumption | exact hUp_s) (by rfl) dX4_add_12 ?_
    first | refine j_aload_n (pc := 15) F dX4_add_15 rfl ?_ | refine j_aload_nq (pc := 15) F dX4_add_15 rfl ?_
    refine j_astEsN (pc := 16) F e2 he (by omega) (by decide) dX4_add_16 ?_
    have e3 : hUp h1 ea (aE g 20 (va_up rr n (some en))) rg = some (.inr (4, [.ref ea, .int (nI n)])) := (hUp_n hre).trans e1
    first | refine j_aload_n (pc := 17) F dX4_add_17 rfl ?_ | refine j_aload_nq (pc := 17) F dX4_add_17 rfl ?_
    refine j_dup (pc := 18) F dX4_add_18 rfl ?_
    refine j_get (pc := 19) F fg_X4_17 (by first | assumption | exact hUp_s) (by rfl) dX4_add_19 ?_
    refine j_iconst (pc := 22) (v := (nI 1)) F dX4_add_22 (by decide) ?_
    first | refine j_iaddN (pc := 23) F dX4_add_23 ?_ | refine j_iadd (pc := 23) F dX4_add_23 ?_
    refine j_put (pc := 24) F fp_X4_17 (by first | assumption | exact hUp_s) (by rfl) (by rfl) (Nat.le_of_ble_eq_true rfl) dX4_add_24 ?_
    refine j_vret F hQ rfl (by omega) (by omega) dX4_add_27 ⟨?_, ⟨va_up rr n (some en), ?_, fun i hi => ?_, ?_⟩, fun b q1 q2 => ?_⟩
    · rw [hUp_s]; rfl
    · rw [hUp_n (Ne.symm hre), hUp_s]
    · rw [va_up_ne _ _ (by omega)]; exact (hes i hi).1
    · rw [va_up_self]
    · rw [hUp_n q1, hUp_n q2]
theorem c_X4_takeOut {rg ea n i : Nat} {ad pf Q B L O : Nat → Nat} (hr : isReg g h rg ea n ad pf Q B L O) (hi : i < n) : MVo l g A h yX4_takeOut cX4_takeOut 2 0 0 0 [.ref rg, .int (nI i)] (fun h1 => h1 rg = some (.inr (4, [.ref ea, .int (nI (n - 1))])) ∧ (∃ r, h1 ea = some (aE g 20 r) ∧ ∀ j, j < n - 1 → r j = some (if j = i then ad (n - 1) else ad j)) ∧ ∀ b, b ≠ rg → b ≠ ea → h1 b = h b) := by
  obtain ⟨rr, e1, e2, hn20, hes⟩ := hr
  have hre : rg ≠ ea := ne_of2 e1 e2 (fun z => by cases z)
  obtain ⟨v1, ⟨v2, -⟩, -⟩ := hes (n - 1) (by omega)
  have hrv : ad (n - 1) ≠ rg := ne_of2 v2 e1 (fun z => by cases z)
  have hev : ad (n - 1) ≠ ea := ne_of2 v2 e2 (fun z => by cases z)
  refine j_met (by decide +kernel) (Nat.le_of_ble_eq_true rfl) (fun X F hn hQ => ?_)
  refine j_iload_n (pc := 0) F dX4_takeOut_0 rfl ?_
  first | refine j_if_ltN (pc := 1) F 47 dX4_takeOut_1 (by decide) (by omega) (fun c => ?_) (fun c => ?_) | refine j_if_ltI (pc := 1) F 47 dX4_takeOut_1 (by decide) (fun c => ?_) (fun c => ?_)
  · omega
  · refine j_iload_n (pc := 4) F dX4_takeOut_4 rfl ?_
    first | refine j_aload_n (pc := 5) F dX4_takeOut_5 rfl ?_ | refine j_aload_nq (pc := 5) F dX4_takeOut_5 rfl ?_
    refine j_get (pc := 6) F fg_X4_17 (by first | assumption | exact hUp_s) (by rfl) dX4_takeOut_6 ?_
    first | refine j_icmp_geN (pc := 9) F 47 dX4_takeOut_9 (by decide) (by omega) (by omega) (fun c2 => ?_) (fun c2 => ?_) | refine j_icmp_geIN (pc := 9) F 47 dX4_takeOut_9 (by decide) (by omega) (fun c2 => ?_) (fun c2 => ?_) | refine j_icmp_geNI (pc := 9) F 47 dX4_takeOut_9 (by decide) (by omega) (fun c2 => ?_) (fun c2 => ?_) | refine j_icmp_geI (pc := 9) F 47 dX4_takeOut_9 (by decide) (fun c2 => ?_) (fun c2 => ?_)
    · omega
    · first | refine j_aload_n (pc := 12) F dX4_takeOut_12 rfl ?_ | refine j_aload_nq (pc := 12) F dX4_takeOut_12 rfl ?_
      refine j_dup (pc := 13) F dX4_takeOut_13 rfl ?_
      refine j_get (pc := 14) F fg_X4_17 (by first | assumption | exact hUp_s) (by rfl) dX4_takeOut_14 ?_
      refine j_iconst (pc := 17) (v := (nI 1)) F dX4_takeOut_17 (by decide) ?_
      first | refine j_isubN (pc := 18) F dX4_takeOut_18 (by omega) ?_ | refine j_isub (pc := 18) F dX4_takeOut_18 ?_
      refine j_put (pc := 19) F fp_X4_17 (by first | assumption | exact hUp_s) (by rfl) (by rfl) (Nat.le_of_ble_eq_true rfl) dX4_takeOut_19 ?_
      have e3 : hUp h rg (.inr (4, [Value.ref ea, Value.int (nI n)].set 1 (.int (nI (n - 1))))) rg = some (.inr (4, [.ref ea, .int (nI (n - 1))])) := hUp_s
      have e4 : hUp h rg (.inr (4, [Value.ref ea, Value.int (nI n)].set 1 (.int (nI (n - 1))))) ea = some (aE g 20 rr) := (hUp_n (Ne.symm hre)).trans e2
      have e5 : hUp h rg (.inr (4, [Value.ref ea, Value.int (nI n)].set 1 (.int (nI (n - 1))))) (ad (n - 1)) = some (.inr (0, [.ref (pf (n - 1)), .int (nI (L (n - 1))), .int (nI (O (n - 1)))])) := (hUp_n hrv).trans v2
      have e6 : ∀ b, b ≠ rg → hUp h rg (.inr (4, [Value.ref ea, Value.int (nI n)].set 1 (.int (nI (n - 1))))) b = h b := fun b q => hUp_n q
      generalize hUp h rg (.inr (4, [Value.ref ea, Value.int (nI n)].set 1 (.int (nI (n - 1))))) = h2 at e3 e4 e5 e6 ⊢
      first | refine j_aload_n (pc := 22) F dX4_takeOut_22 rfl ?_ | refine j_aload_nq (pc := 22) F dX4_takeOut_22 rfl ?_
      refine j_get (pc := 23) F fg_X4_11 (by first | assumption | exact hUp_s) (by rfl) dX4_takeOut_23 ?_
      refine j_iload_n (pc := 26) F dX4_takeOut_26 rfl ?_
      first | refine j_aload_n (pc := 27) F dX4_takeOut_27 rfl ?_ | refine j_aload_nq (pc := 27) F dX4_takeOut_27 rfl ?_
      refine j_get (pc := 28) F fg_X4_11 (by first | assumption | exact hUp_s) (by rfl) dX4_takeOut_28 ?_
      first | refine j_aload_n (pc := 31) F dX4_takeOut_31 rfl ?_ | refine j_aload_nq (pc := 31) F dX4_takeOut_31 rfl ?_
      refine j_get (pc := 32) F fg_X4_17 (by first | assumption | exact hUp_s) (by rfl) dX4_takeOut_32 ?_
      first | refine j_aldRN (pc := 35) F (by first | assumption | exact hUp_s) (by omega) (by decide) dX4_takeOut_35 ?_ | refine j_aldEN (pc := 35) F (by first | assumption | exact hUp_s) (by omega) (by decide) dX4_takeOut_35 ?_ | refine j_aldIIN (pc := 35) F (by first | assumption | exact hUp_s) (by omega) (by decide) dX4_takeOut_35 ?_
      refine j_refS v1 ?_
      refine j_astEsN (pc := 36) F e4 e5 (by omega) (by decide) dX4_takeOut_36 ?_
      have e7 : hUp h2 ea (aE g 20 (va_up rr i (some (ad (n - 1))))) rg = some (.inr (4, [.ref ea, .int (nI (n - 1))])) := (hUp_n hre).trans e3
      first | refine j_aload_n (pc := 37) F dX4_takeOut_37 rfl ?_ | refine j_aload_nq (pc := 37) F dX4_takeOut_37 rfl ?_
      refine j_get (pc := 38) F fg_X4_11 (by first | assumption | exact hUp_s) (by rfl) dX4_takeOut_38 ?_
      first | refine j_aload_n (pc := 41) F dX4_takeOut_41 rfl ?_ | refine j_aload_nq (pc := 41) F dX4_takeOut_41 rfl ?_
      refine j_get (pc := 42) F fg_X4_17 (by first | assumption | exact hUp_s) (by rfl) dX4_takeOut_42 ?_
      refine j_null (pc := 45) F dX4_takeOut_45 ?_
      refine j_astEnN (pc := 46) F hUp_s (by omega) (by decide) dX4_takeOut_46 ?_
      refine j_vret F hQ rfl (by omega) (by omega) dX4_takeOut_47 ⟨?_, ⟨_, hUp_s, fun j hj => ?_⟩, fun b q1 q2 => ?_⟩
      · rw [hUp_n hre, e7]
      · rw [va_up_ne _ _ (by omega)]
        by_cases hji : j = i
        · subst hji; rw [va_up_self, if_pos rfl]
        · rw [va_up_ne _ _ hji, if_neg hji]; exact (hes j (by omega)).1
      · rw [hUp_n q2, hUp_n q2, e6 b q1]
/-- what a registry of n entries says of a route: 1, 2 or 0 -/
def jud (n : Nat) (Q B L O : Nat → Nat) (q2 b2 og2 : Nat) : Nat := if ∃ i, i < n ∧ ePerm (Q i) (B i) (L i) (O i) q2 b2 og2 = true then 1 else if ∃ i, i < n ∧ cov (Q i) (B i) q2 b2 = true then 2 else 0
theorem c_X4_judge {rg ea n r pf2 pa aa pe q2 b2 z s e : Nat} {N : Nat → Nat} {ad pf Q B L O : Nat → Nat} (hr : isReg g h rg ea n ad pf Q B L O) (ht : isRoute g h r pf2 pa aa pe q2 b2 z N s e) (hro : rOk pe q2 b2 z s e) (hz : 0 < z) (hN : ∀ j, j < z → N j ≤ 30) : MI l g A h yX4_judge cX4_judge 5 (some .int) 3 0 0 [.ref rg, .ref r] (fun x h1 => x = nI (jud n Q B L O q2 b2 (N (z - 1))) ∧ h1 = h) := by
  obtain ⟨rr, e1, e2, hn20, hes⟩ := hr
  refine j_met (by decide +kernel) (Nat.le_of_ble_eq_true rfl) (fun X F hn hQ => ?_)
  refine j_iconst (pc := 0) (v := (nI 0)) F dX4_judge_0 (by decide) ?_
  refine j_istore_n (pc := 1) F dX4_judge_1 (by decide) ?_
  refine j_iconst (pc := 2) (v := (nI 0)) F dX4_judge_2 (by decide) ?_
  refine j_istore_n (pc := 3) F dX4_judge_3 (by decide) ?_
  have loop : ∀ m i (d : Bool) (lv : List (Nat × Value)), n < i + m → i ≤ n → (∀ j, j < i → ePerm (Q j) (B j) (L j) (O j) q2 b2 (N (z - 1)) = false) → (d = true ↔ ∃ j, j < i ∧ cov (Q j) (B j) q2 b2 = true) → lall lv [(0, .ref rg), (1, .ref r), (2, .int (bI d)), (3, .int (nI i))] → J l X g A 5 0 0 h 4 lv [] := by
    intro m
    induction m with
    | zero => intro i d lv q1 q2; omega
    | succ m ih =>
      intro i d lv w1 w2 w3 w4 w5
      refine j_lv _ w5 ?_
      refine j_iload_n (pc := 4) F dX4_judge_4 rfl ?_
      first | refine j_aload_n (pc := 5) F dX4_judge_5 rfl ?_ | refine j_aload_nq (pc := 5) F dX4_judge_5 rfl ?_
      refine j_get (pc := 6) F fg_X4_17 (by first | assumption | exact hUp_s) (by rfl) dX4_judge_6 ?_
      first | refine j_icmp_geN (pc := 9) F 56 dX4_judge_9 (by decide) (by omega) (by omega) (fun c => ?_) (fun c => ?_) | refine j_icmp_geIN (pc := 9) F 56 dX4_judge_9 (by decide) (by omega) (fun c => ?_) (fun c => ?_) | refine j_icmp_geNI (pc := 9) F 56 dX4_judge_9 (by decide) (by omega) (fun c => ?_) (fun c => ?_) | refine j_icmp_geI (pc := 9) F 56 dX4_judge_9 (by decide) (fun c => ?_) (fun c => ?_)
      · have hin : i = n := by omega
        subst hin
        have hno : ¬ ∃ j, j < i ∧ ePerm (Q j) (B j) (L j) (O j) q2 b2 (N (z - 1)) = true := fun ⟨j, y1, y2⟩ => by rw [w3 j y1] at y2; cases y2
        refine j_iload_n (pc := 56) F dX4_judge_56 rfl ?_
        first | refine j_if_eqB (pc := 57) F 64 dX4_judge_57 (by decide) (fun c2 => ?_) (fun c2 => ?_) | refine j_if_eqN (pc := 57) F 64 dX4_judge_57 (by decide) (by omega) (fun c2 => ?_) (fun c2 => ?_) | refine j_if_eqI (pc := 57) F 64 dX4_judge_57 (by decide) (fun c2 => ?_) (fun c2 => ?_)
        · refine j_iconst (pc := 64) (v := (nI 0)) F dX4_judge_64 (by decide) ?_
          refine j_iret F hQ rfl rfl (by omega) (by omega) dX4_judge_65 ⟨?_, rfl⟩
          rw [jud, if_neg hno, if_neg (fun y => by have := w4.mpr y; rw [c2] at this; cases this)]
        · refine j_iconst (pc := 60) (v := (nI 2)) F dX4_judge_60 (by decide) ?_
          refine j_goto (pc := 61) F 65 dX4_judge_61 (by decide) ?_
          refine j_iret F hQ rfl rfl (by omega) (by omega) dX4_judge_65 ⟨?_, rfl⟩
          rw [jud, if_neg hno, if_pos (w4.mp c2)]
      · obtain ⟨y1, y2, y3⟩ := hes i (by omega)
        have y4 := y2.1
        first | refine j_aload_n (pc := 12) F dX4_judge_12 rfl ?_ | refine j_aload_nq (pc := 12) F dX4_judge_12 rfl ?_
        refine j_get (pc := 13) F fg_X4_11 (by first | assumption | exact hUp_s) (by rfl) dX4_judge_13 ?_
        refine j_iload_n (pc := 16) F dX4_judge_16 rfl ?_
        first | refine j_aldRN (pc := 17) F (by first | assumption | exact hUp_s) (by omega) (by decide) dX4_judge_17 ?_ | refine j_aldEN (pc := 17) F (by first | assumption | exact hUp_s) (by omega) (by decide) dX4_judge_17 ?_ | refine j_aldIIN (pc := 17) F (by first | assumption | exact hUp_s) (by omega) (by decide) dX4_judge_17 ?_
        refine j_refS y1 ?_
        first | refine j_astore (pc := 18) F dX4_judge_18 (by decide) ?_ | refine j_astoreq (pc := 18) F dX4_judge_18 (by decide) ?_ | refine j_astoreN (pc := 18) F dX4_judge_18 (by decide) ?_
        first | refine j_aload (pc := 20) F dX4_judge_20 rfl ?_ | refine j_aloadq (pc := 20) F dX4_judge_20 rfl ?_
        refine j_ifnull (pc := 22) F dX4_judge_22 ?_
        first | refine j_aload (pc := 25) F dX4_judge_25 rfl ?_ | refine j_aloadq (pc := 25) F dX4_judge_25 rfl ?_
        first | refine j_aload_n (pc := 27) F dX4_judge_27 rfl ?_ | refine j_aload_nq (pc := 27) F dX4_judge_27 rfl ?_
        refine j_ri (j_runV (pc := 28) F (c_X0_concerns y2 y3 ht hro) m_X0_concerns mv_X0_concerns lk_X4_29 (by first | assumption | exact hUp_s) rfl ⟨by decide, by decide⟩ (Nat.le_of_ble_eq_true rfl) ⟨by omega, by omega⟩ rfl dX4_judge_28) (fun r h1 hp => ?_)
        obtain ⟨rfl, rfl⟩ := hp
        have w3n : ePerm (Q i) (B i) (L i) (O i) q2 b2 (N (z - 1)) = false → ∀ j, j < i + 1 → ePerm (Q j) (B j) (L j) (O j) q2 b2 (N (z - 1)) = false := fun hf j hj => by
          rcases Nat.lt_or_ge j i with z1 | z1
          · exact w3 j z1
          · rw [show j = i by omega]; exact hf
        first | refine j_if_neB (pc := 31) F 37 dX4_judge_31 (by decide) (fun c3 => ?_) (fun c3 => ?_) | refine j_if_neN (pc := 31) F 37 dX4_judge_31 (by decide) (by omega) (fun c3 => ?_) (fun c3 => ?_) | refine j_if_neI (pc := 31) F 37 dX4_judge_31 (by decide) (fun c3 => ?_) (fun c3 => ?_)
        · first | refine j_aload (pc := 37) F dX4_judge_37 rfl ?_ | refine j_aloadq (pc := 37) F dX4_judge_37 rfl ?_
          first | refine j_aload_n (pc := 39) F dX4_judge_39 rfl ?_ | refine j_aload_nq (pc := 39) F dX4_judge_39 rfl ?_
          refine j_ri (j_runV (pc := 40) F (c_X0_permits y2 y3 ht hro hz hN) m_X0_permits mv_X0_permits lk_X4_33 (by first | assumption | exact hUp_s) rfl ⟨by decide, by decide⟩ (Nat.le_of_ble_eq_true rfl) ⟨by omega, by omega⟩ rfl dX4_judge_40) (fun r h6 hp => ?_)
          obtain ⟨rfl, rfl⟩ := hp
          first | refine j_if_eqB (pc := 43) F 48 dX4_judge_43 (by decide) (fun c2 => ?_) (fun c2 => ?_) | refine j_if_eqN (pc := 43) F 48 dX4_judge_43 (by decide) (by omega) (fun c2 => ?_) (fun c2 => ?_) | refine j_if_eqI (pc := 43) F 48 dX4_judge_43 (by decide) (fun c2 => ?_) (fun c2 => ?_)
          · refine j_iconst (pc := 48) (v := (nI 1)) F dX4_judge_48 (by decide) ?_
            refine j_istore_n (pc := 49) F dX4_judge_49 (by decide) ?_
            first | refine j_iincN (pc := 50) F dX4_judge_50 rfl (by decide) ?_ | refine j_iincM (pc := 50) F dX4_judge_50 rfl (by decide) ?_ | refine j_iinc (pc := 50) F dX4_judge_50 rfl rfl (by decide) ?_
            refine j_goto (pc := 53) F 4 dX4_judge_53 (by decide) ?_
            exact ih (i + 1) true _ (by omega) (by omega) (w3n (by rw [ePerm]; exact decide_eq_false (fun y => of_decide_eq_false c2 y.2))) ⟨fun _ => ⟨i, by omega, c3⟩, fun _ => rfl⟩ ⟨rfl, rfl, rfl, rfl, trivial⟩
          · refine j_iconst (pc := 46) (v := (nI 1)) F dX4_judge_46 (by decide) ?_
            refine j_iret F hQ rfl rfl (by omega) (by omega) dX4_judge_47 ⟨?_, rfl⟩
            rw [jud, if_pos ⟨i, by omega, by rw [ePerm]; exact decide_eq_true ⟨c3, of_decide_eq_true c2⟩⟩]
        · refine j_goto (pc := 34) F 50 dX4_judge_34 (by decide) ?_
          first | refine j_iincN (pc := 50) F dX4_judge_50 rfl (by decide) ?_ | refine j_iincM (pc := 50) F dX4_judge_50 rfl (by decide) ?_ | refine j_iinc (pc := 50) F dX4_judge_50 rfl rfl (by decide) ?_
          refine j_goto (pc := 53) F 4 dX4_judge_53 (by decide) ?_
          refine ih (i + 1) d _ (by omega) (by omega) (w3n (by rw [ePerm]; exact decide_eq_false (fun y => by rw [c3] at y; cases y.1))) ?_ ⟨rfl, rfl, rfl, rfl, trivial⟩
          rw [w4]
          constructor
          · rintro ⟨j, j1, j2⟩
            exact ⟨j, by omega, j2⟩
          · rintro ⟨j, j1, j2⟩
            refine ⟨j, ?_, j2⟩
            rcases Nat.lt_or_ge j i with z1 | z1
            · exact z1
            · rw [show j = i by omega, c3] at j2; cases j2
  exact loop (n + 1) 0 false _ (by omega) (by omega) (fun j hj => by omega) ⟨(fun y => by cases y), (by rintro ⟨j, j1, -⟩; omega)⟩ ⟨rfl, rfl, rfl, rfl, trivial⟩
end REG
