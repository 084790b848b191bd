/-! ===== Bgpreplay$Prefix, Bgpreplay$Route ===== -/
def isPfx (h : HF) (pf q b : Nat) : Prop := h pf = some (.inr (3, [.int (nI q), .int (nI b)]))
def isRoute (g : GG) (h : HF) (r pf pa aa pe q b z : Nat) (N : Nat → Nat) (s e : Nat) : Prop := h r = some (.inr (6, [.int (nI pe), .ref pf, .ref pa, .int (nI s), .int (nI e)])) ∧ isPfx h pf q b ∧ isPath g h pa aa z N
/-- what a route's numbers keep to -/
def rOk (pe q b z s e : Nat) : Prop := pe < 6 ∧ q < 512 ∧ b ≤ 8 ∧ z ≤ 8 ∧ s ≤ 300 ∧ e ≤ 300
def better (z pe z2 pe2 : Nat) : Bool := decide (z < z2 ∨ (z = z2 ∧ pe < pe2))
def foundBf (b z pe b2 z2 pe2 : Nat) : Bool := decide (b2 < b ∨ (b = b2 ∧ (z < z2 ∨ (z = z2 ∧ pe < pe2))))
def cov (q b q2 b2 : Nat) : Bool := decide (b ≤ b2 ∧ q2 / 2 ^ (b2 - b) = q)
theorem sh_ok : ∀ d, d < 32 → ((nI d &&& 31).toBitVec.smod 32).toNat = d := by decide +kernel
theorem bI_t : bI true = nI 1 := rfl
theorem bI_f : bI false = nI 0 := rfl
section ROUTE
variable {l : Launch} {g : GG} {A : Nat → Prop} {h : HF}
theorem c_X3_init {p : Nat} {x y : Int32} (hp : h p = some (.inr (3, [.int 0, .int 0]))) : MVo l g A h yX3_init cX3_init 3 1 0 0 [.ref p, .int x, .int y] (fun h1 => h1 p = some (.inr (3, [.int (pnum x y), .int y])) ∧ ∀ b, b ≠ p → h1 b = h b) := by
  refine j_met (by decide +kernel) (Nat.le_of_ble_eq_true rfl) (fun X F hn hQ => ?_)
  first | refine j_aload_n (pc := 0) F dX3_init_0 rfl ?_ | refine j_aload_nq (pc := 0) F dX3_init_0 rfl ?_
  refine j_objInit (pc := 1) F (by omega) lk_X3_1 (Nat.le_of_ble_eq_true rfl) dX3_init_1 ?_
  first | refine j_aload_n (pc := 4) F dX3_init_4 rfl ?_ | refine j_aload_nq (pc := 4) F dX3_init_4 rfl ?_
  refine j_iload_n (pc := 5) F dX3_init_5 rfl ?_
  refine j_iload_n (pc := 6) F dX3_init_6 rfl ?_
  refine j_ri (j_runSN (pc := 7) F (c_X8_prefixNumber x y) m_X8_prefixNumber ms_X8_prefixNumber ln_X3_7 ⟨by decide, by decide⟩ (Nat.le_of_ble_eq_true rfl) ⟨by omega, by omega⟩ rfl dX3_init_7) (fun r h1 hp1 => ?_)
  obtain ⟨rfl, rfl⟩ := hp1
  refine j_putF (pc := 10) F fp_X3_13 hn rfl (by first | assumption | exact hUp_s) (by rfl) (by rfl) (Nat.le_of_ble_eq_true rfl) dX3_init_10 ?_
  first | refine j_aload_n (pc := 13) F dX3_init_13 rfl ?_ | refine j_aload_nq (pc := 13) F dX3_init_13 rfl ?_
  refine j_iload_n (pc := 14) F dX3_init_14 rfl ?_
  refine j_putF (pc := 15) F fp_X3_19 hn rfl (by first | assumption | exact hUp_s) (by rfl) (by rfl) (Nat.le_of_ble_eq_true rfl) dX3_init_15 ?_
  refine j_vret F hQ rfl (by omega) (by omega) dX3_init_18 ⟨?_, fun b q1 => ?_⟩
  · rw [hUp_s]; rfl
  · rw [hUp_n q1, hUp_n q1]
theorem c_X3_has {p q b : Nat} {x : Int32} (hp : isPfx h p q b) : MI l g A h yX3_has cX3_has 2 (some .boolean) 1 0 0 [.ref p, .int x] (fun r h1 => r = bI (decide (pnum x (nI b) = nI q)) ∧ h1 = h) := by
  unfold isPfx at hp
  refine j_met (by decide +kernel) (Nat.le_of_ble_eq_true rfl) (fun X F hn hQ => ?_)
  refine j_iload_n (pc := 0) F dX3_has_0 rfl ?_
  first | refine j_aload_n (pc := 1) F dX3_has_1 rfl ?_ | refine j_aload_nq (pc := 1) F dX3_has_1 rfl ?_
  refine j_get (pc := 2) F fg_X3_19 (by first | assumption | exact hUp_s) (by rfl) dX3_has_2 ?_
  refine j_ri (j_runSN (pc := 5) F (c_X8_prefixNumber x (nI b)) m_X8_prefixNumber ms_X8_prefixNumber ln_X3_7 ⟨by decide, by decide⟩ (Nat.le_of_ble_eq_true rfl) ⟨by omega, by omega⟩ rfl dX3_has_5) (fun r h1 hp1 => ?_)
  obtain ⟨rfl, rfl⟩ := hp1
  first | refine j_aload_n (pc := 8) F dX3_has_8 rfl ?_ | refine j_aload_nq (pc := 8) F dX3_has_8 rfl ?_
  refine j_get (pc := 9) F fg_X3_13 (by first | assumption | exact hUp_s) (by rfl) dX3_has_9 ?_
  refine j_icmp_ne (pc := 12) F 19 dX3_has_12 (by decide) (fun c => ?_) (fun c => ?_)
  · refine j_iconst (pc := 19) (v := (nI 0)) F dX3_has_19 (by decide) ?_
    exact j_iret F hQ rfl rfl (by omega) (by omega) dX3_has_20 ⟨by rw [decide_eq_false c]; rfl, rfl⟩
  · refine j_iconst (pc := 15) (v := (nI 1)) F dX3_has_15 (by decide) ?_
    refine j_goto (pc := 16) F 20 dX3_has_16 (by decide) ?_
    exact j_iret F hQ rfl rfl (by omega) (by omega) dX3_has_20 ⟨by rw [decide_eq_true c]; rfl, rfl⟩
theorem c_X3_covers {p q b p2 q2 b2 : Nat} (hp : isPfx h p q b) (hp2 : isPfx h p2 q2 b2) (hq : q < 512) (hq2 : q2 < 512) (hb : b ≤ 8) (hb2 : b2 ≤ 8) : MI l g A h yX3_covers cX3_covers 2 (some .boolean) 0 0 0 [.ref p, .ref p2] (fun r h1 => r = bI (cov q b q2 b2) ∧ h1 = h) := by
  unfold isPfx at hp hp2
  refine j_met (by decide +kernel) (Nat.le_of_ble_eq_true rfl) (fun X F hn hQ => ?_)
  first | refine j_aload_n (pc := 0) F dX3_covers_0 rfl ?_ | refine j_aload_nq (pc := 0) F dX3_covers_0 rfl ?_
  refine j_get (pc := 1) F fg_X3_19 (by first | assumption | exact hUp_s) (by rfl) dX3_covers_1 ?_
  first | refine j_aload_n (pc := 4) F dX3_covers_4 rfl ?_ | refine j_aload_nq (pc := 4) F dX3_covers_4 rfl ?_
  refine j_get (pc := 5) F fg_X3_19 (by first | assumption | exact hUp_s) (by rfl) dX3_covers_5 ?_
  first | refine j_icmp_gtN (pc := 8) F 36 dX3_covers_8 (by decide) (by omega) (by omega) (fun c => ?_) (fun c => ?_) | refine j_icmp_gtIN (pc := 8) F 36 dX3_covers_8 (by decide) (by omega) (fun c => ?_) (fun c => ?_) | refine j_icmp_gtNI (pc := 8) F 36 dX3_covers_8 (by decide) (by omega) (fun c => ?_) (fun c => ?_) | refine j_icmp_gtI (pc := 8) F 36 dX3_covers_8 (by decide) (fun c => ?_) (fun c => ?_)
  · refine j_iconst (pc := 36) (v := (nI 0)) F dX3_covers_36 (by decide) ?_
    exact j_iret F hQ rfl rfl (by omega) (by omega) dX3_covers_37 ⟨by rw [cov, decide_eq_false (by omega)]; rfl, rfl⟩
  · first | refine j_aload_n (pc := 11) F dX3_covers_11 rfl ?_ | refine j_aload_nq (pc := 11) F dX3_covers_11 rfl ?_
    refine j_get (pc := 12) F fg_X3_13 (by first | assumption | exact hUp_s) (by rfl) dX3_covers_12 ?_
    first | refine j_aload_n (pc := 15) F dX3_covers_15 rfl ?_ | refine j_aload_nq (pc := 15) F dX3_covers_15 rfl ?_
    refine j_get (pc := 16) F fg_X3_19 (by first | assumption | exact hUp_s) (by rfl) dX3_covers_16 ?_
    first | refine j_aload_n (pc := 19) F dX3_covers_19 rfl ?_ | refine j_aload_nq (pc := 19) F dX3_covers_19 rfl ?_
    refine j_get (pc := 20) F fg_X3_19 (by first | assumption | exact hUp_s) (by rfl) dX3_covers_20 ?_
    first | refine j_isubN (pc := 23) F dX3_covers_23 (by omega) ?_ | refine j_isub (pc := 23) F dX3_covers_23 ?_
    refine j_ishr (pc := 24) F dX3_covers_24 ?_
    refine j_int (pk_shrN (by omega) _ (b2 - b) (sh_ok _ (by omega))) ?_
    have hd : q2 / 2 ^ (b2 - b) ≤ q2 := Nat.div_le_self _ _
    first | refine j_aload_n (pc := 25) F dX3_covers_25 rfl ?_ | refine j_aload_nq (pc := 25) F dX3_covers_25 rfl ?_
    refine j_get (pc := 26) F fg_X3_13 (by first | assumption | exact hUp_s) (by rfl) dX3_covers_26 ?_
    first | refine j_icmp_neN (pc := 29) F 36 dX3_covers_29 (by decide) (by omega) (by omega) (fun c2 => ?_) (fun c2 => ?_) | refine j_icmp_neIN (pc := 29) F 36 dX3_covers_29 (by decide) (by omega) (fun c2 => ?_) (fun c2 => ?_) | refine j_icmp_neNI (pc := 29) F 36 dX3_covers_29 (by decide) (by omega) (fun c2 => ?_) (fun c2 => ?_) | refine j_icmp_ne (pc := 29) F 36 dX3_covers_29 (by decide) (fun c2 => ?_) (fun c2 => ?_)
    · refine j_iconst (pc := 36) (v := (nI 0)) F dX3_covers_36 (by decide) ?_
      exact j_iret F hQ rfl rfl (by omega) (by omega) dX3_covers_37 ⟨by rw [cov, decide_eq_false (by omega)]; rfl, rfl⟩
    · refine j_iconst (pc := 32) (v := (nI 1)) F dX3_covers_32 (by decide) ?_
      refine j_goto (pc := 33) F 37 dX3_covers_33 (by decide) ?_
      exact j_iret F hQ rfl rfl (by omega) (by omega) dX3_covers_37 ⟨by rw [cov, decide_eq_true (by omega)]; rfl, rfl⟩
theorem c_X6_init {p pf pa : Nat} {x y : Int32} (hp : h p = some (.inr (6, [.int 0, .null, .null, .int 0, .int 0]))) : MVo l g A h yX6_init cX6_init 5 1 0 0 [.ref p, .int x, .ref pf, .ref pa, .int y] (fun h1 => h1 p = some (.inr (6, [.int x, .ref pf, .ref pa, .int y, .int (nI 300)])) ∧ ∀ b, b ≠ p → h1 b = h b) := by
  refine j_met (by decide +kernel) (Nat.le_of_ble_eq_true rfl) (fun X F hn hQ => ?_)
  first | refine j_aload_n (pc := 0) F dX6_init_0 rfl ?_ | refine j_aload_nq (pc := 0) F dX6_init_0 rfl ?_
  refine j_objInit (pc := 1) F (by omega) lk_X6_3 (Nat.le_of_ble_eq_true rfl) dX6_init_1 ?_
  first | refine j_aload_n (pc := 4) F dX6_init_4 rfl ?_ | refine j_aload_nq (pc := 4) F dX6_init_4 rfl ?_
  refine j_sipush (pc := 5) (v := (nI 300)) F dX6_init_5 (by decide) ?_
  refine j_put (pc := 8) F fp_X6_9 (by first | assumption | exact hUp_s) (by rfl) (by rfl) (Nat.le_of_ble_eq_true rfl) dX6_init_8 ?_
  first | refine j_aload_n (pc := 11) F dX6_init_11 rfl ?_ | refine j_aload_nq (pc := 11) F dX6_init_11 rfl ?_
  refine j_iload_n (pc := 12) F dX6_init_12 rfl ?_
  refine j_putF (pc := 13) F fp_X6_15 hn rfl (by first | assumption | exact hUp_s) (by rfl) (by rfl) (Nat.le_of_ble_eq_true rfl) dX6_init_13 ?_
  first | refine j_aload_n (pc := 16) F dX6_init_16 rfl ?_ | refine j_aload_nq (pc := 16) F dX6_init_16 rfl ?_
  first | refine j_aload_n (pc := 17) F dX6_init_17 rfl ?_ | refine j_aload_nq (pc := 17) F dX6_init_17 rfl ?_
  refine j_putF (pc := 18) F fp_X6_18 hn rfl (by first | assumption | exact hUp_s) (by rfl) (by rfl) (Nat.le_of_ble_eq_true rfl) dX6_init_18 ?_
  first | refine j_aload_n (pc := 21) F dX6_init_21 rfl ?_ | refine j_aload_nq (pc := 21) F dX6_init_21 rfl ?_
  first | refine j_aload_n (pc := 22) F dX6_init_22 rfl ?_ | refine j_aload_nq (pc := 22) F dX6_init_22 rfl ?_
  refine j_putF (pc := 23) F fp_X6_22 hn rfl (by first | assumption | exact hUp_s) (by rfl) (by rfl) (Nat.le_of_ble_eq_true rfl) dX6_init_23 ?_
  first | refine j_aload_n (pc := 26) F dX6_init_26 rfl ?_ | refine j_aload_nq (pc := 26) F dX6_init_26 rfl ?_
  refine j_iload (pc := 27) F dX6_init_27 rfl ?_
  refine j_putF (pc := 29) F fp_X6_26 hn rfl (by first | assumption | exact hUp_s) (by rfl) (by rfl) (Nat.le_of_ble_eq_true rfl) dX6_init_29 ?_
  refine j_vret F hQ rfl (by omega) (by omega) dX6_init_32 ⟨?_, fun b q1 => ?_⟩
  · rw [hUp_s]; rfl
  · rw [hUp_n q1, hUp_n q1, hUp_n q1, hUp_n q1, hUp_n q1]
theorem c_X6_standsAfter {r pf pa aa pe q b z s e n : Nat} {N : Nat → Nat} (hr : isRoute g h r pf pa aa pe q b z N s e) (ho : rOk pe q b z s e) (hn : n ≤ 300) : MI l g A h yX6_standsAfter cX6_standsAfter 2 (some .boolean) 0 0 0 [.ref r, .int (nI n)] (fun x h1 => x = bI (decide (s < n ∧ n ≤ e)) ∧ h1 = h) := by
  obtain ⟨hr, h2, h3⟩ := hr
  obtain ⟨o1, o2, o3, o4, o5, o6⟩ := ho
  refine j_met (by decide +kernel) (Nat.le_of_ble_eq_true rfl) (fun X F hn hQ => ?_)
  first | refine j_aload_n (pc := 0) F dX6_standsAfter_0 rfl ?_ | refine j_aload_nq (pc := 0) F dX6_standsAfter_0 rfl ?_
  refine j_get (pc := 1) F fg_X6_26 (by first | assumption | exact hUp_s) (by rfl) dX6_standsAfter_1 ?_
  refine j_iload_n (pc := 4) F dX6_standsAfter_4 rfl ?_
  first | refine j_icmp_geN (pc := 5) F 20 dX6_standsAfter_5 (by decide) (by omega) (by omega) (fun c => ?_) (fun c => ?_) | refine j_icmp_geIN (pc := 5) F 20 dX6_standsAfter_5 (by decide) (by omega) (fun c => ?_) (fun c => ?_) | refine j_icmp_geNI (pc := 5) F 20 dX6_standsAfter_5 (by decide) (by omega) (fun c => ?_) (fun c => ?_) | refine j_icmp_geI (pc := 5) F 20 dX6_standsAfter_5 (by decide) (fun c => ?_) (fun c => ?_)
  · refine j_iconst (pc := 20) (v := (nI 0)) F dX6_standsAfter_20 (by decide) ?_
    exact j_iret F hQ rfl rfl (by omega) (by omega) dX6_standsAfter_21 ⟨by rw [decide_eq_false (by omega)]; rfl, rfl⟩
  · refine j_iload_n (pc := 8) F dX6_standsAfter_8 rfl ?_
    first | refine j_aload_n (pc := 9) F dX6_standsAfter_9 rfl ?_ | refine j_aload_nq (pc := 9) F dX6_standsAfter_9 rfl ?_
    refine j_get (pc := 10) F fg_X6_9 (by first | assumption | exact hUp_s) (by rfl) dX6_standsAfter_10 ?_
    first | refine j_icmp_gtN (pc := 13) F 20 dX6_standsAfter_13 (by decide) (by omega) (by omega) (fun c2 => ?_) (fun c2 => ?_) | refine j_icmp_gtIN (pc := 13) F 20 dX6_standsAfter_13 (by decide) (by omega) (fun c2 => ?_) (fun c2 => ?_) | refine j_icmp_gtNI (pc := 13) F 20 dX6_standsAfter_13 (by decide) (by omega) (fun c2 => ?_) (fun c2 => ?_) | refine j_icmp_gtI (pc := 13) F 20 dX6_standsAfter_13 (by decide) (fun c2 => ?_) (fun c2 => ?_)
    · refine j_iconst (pc := 20) (v := (nI 0)) F dX6_standsAfter_20 (by decide) ?_
      exact j_iret F hQ rfl rfl (by omega) (by omega) dX6_standsAfter_21 ⟨by rw [decide_eq_false (by omega)]; rfl, rfl⟩
    · refine j_iconst (pc := 16) (v := (nI 1)) F dX6_standsAfter_16 (by decide) ?_
      refine j_goto (pc := 17) F 21 dX6_standsAfter_17 (by decide) ?_
      exact j_iret F hQ rfl rfl (by omega) (by omega) dX6_standsAfter_21 ⟨by rw [decide_eq_true (by omega)]; rfl, rfl⟩
theorem c_X6_isBetterThanN {r : Nat} : MI l g A h yX6_isBetterThan cX6_isBetterThan 2 (some .boolean) 1 0 0 [.ref r, .null] (fun x h1 => x = bI true ∧ h1 = h) := by
  refine j_met (by decide +kernel) (Nat.le_of_ble_eq_true rfl) (fun X F hn hQ => ?_)
  refine j_aload_nN (pc := 0) F dX6_isBetterThan_0 rfl ?_
  refine j_ifnonnullN (pc := 1) F dX6_isBetterThan_1 ?_
  refine j_iconst (pc := 4) (v := (nI 1)) F dX6_isBetterThan_4 (by decide) ?_
  exact j_iret F hQ rfl rfl (by omega) (by omega) dX6_isBetterThan_5 ⟨rfl, rfl⟩
theorem c_X6_isBetterThan {r pf pa aa pe q b z s e r2 pf2 pa2 aa2 pe2 q2 b2 z2 s2 e2 : Nat} {N N2 : Nat → Nat} (hr : isRoute g h r pf pa aa pe q b z N s e) (ho : rOk pe q b z s e) (hr2 : isRoute g h r2 pf2 pa2 aa2 pe2 q2 b2 z2 N2 s2 e2) (ho2 : rOk pe2 q2 b2 z2 s2 e2) : MI l g A h yX6_isBetterThan cX6_isBetterThan 2 (some .boolean) 1 0 0 [.ref r, .ref r2] (fun x h1 => x = bI (better z pe z2 pe2) ∧ h1 = h) := by
  obtain ⟨hr, h2, h3⟩ := hr
  obtain ⟨o1, o2, o3, o4, o5, o6⟩ := ho
  obtain ⟨hr2, h4, h5⟩ := hr2
  obtain ⟨p1, p2, p3, p4, p5, p6⟩ := ho2
  refine j_met (by decide +kernel) (Nat.le_of_ble_eq_true rfl) (fun X F hn hQ => ?_)
  first | refine j_aload_n (pc := 0) F dX6_isBetterThan_0 rfl ?_ | refine j_aload_nq (pc := 0) F dX6_isBetterThan_0 rfl ?_
  refine j_ifnonnull (pc := 1) F 6 dX6_isBetterThan_1 (by decide) ?_
  first | refine j_aload_n (pc := 6) F dX6_isBetterThan_6 rfl ?_ | refine j_aload_nq (pc := 6) F dX6_isBetterThan_6 rfl ?_
  refine j_get (pc := 7) F fg_X6_22 (by first | assumption | exact hUp_s) (by rfl) dX6_isBetterThan_7 ?_
  obtain ⟨y1, g1, g2⟩ := id h3
  obtain ⟨y2, g3, g4⟩ := id h5
  refine j_ri (j_runV (pc := 10) F (c_X2_size h3) m_X2_size mv_X2_size lk_X6_29 (by first | assumption | exact hUp_s) rfl ⟨by decide, by decide⟩ (Nat.le_of_ble_eq_true rfl) ⟨by omega, by omega⟩ rfl dX6_isBetterThan_10) (fun r h1 hp => ?_)
  obtain ⟨rfl, rfl⟩ := hp
  first | refine j_aload_n (pc := 13) F dX6_isBetterThan_13 rfl ?_ | refine j_aload_nq (pc := 13) F dX6_isBetterThan_13 rfl ?_
  refine j_get (pc := 14) F fg_X6_22 (by first | assumption | exact hUp_s) (by rfl) dX6_isBetterThan_14 ?_
  refine j_ri (j_runV (pc := 17) F (c_X2_size h5) m_X2_size mv_X2_size lk_X6_29 (by first | assumption | exact hUp_s) rfl ⟨by decide, by decide⟩ (Nat.le_of_ble_eq_true rfl) ⟨by omega, by omega⟩ rfl dX6_isBetterThan_17) (fun r h6 hp => ?_)
  obtain ⟨rfl, rfl⟩ := hp
  first | refine j_icmp_eqN (pc := 20) F 46 dX6_isBetterThan_20 (by decide) (by omega) (by omega) (fun c => ?_) (fun c => ?_) | refine j_icmp_eqIN (pc := 20) F 46 dX6_isBetterThan_20 (by decide) (by omega) (fun c => ?_) (fun c => ?_) | refine j_icmp_eqNI (pc := 20) F 46 dX6_isBetterThan_20 (by decide) (by omega) (fun c => ?_) (fun c => ?_) | refine j_icmp_eq (pc := 20) F 46 dX6_isBetterThan_20 (by decide) (fun c => ?_) (fun c => ?_)
  · first | refine j_aload_n (pc := 46) F dX6_isBetterThan_46 rfl ?_ | refine j_aload_nq (pc := 46) F dX6_isBetterThan_46 rfl ?_
    refine j_get (pc := 47) F fg_X6_15 (by first | assumption | exact hUp_s) (by rfl) dX6_isBetterThan_47 ?_
    first | refine j_aload_n (pc := 50) F dX6_isBetterThan_50 rfl ?_ | refine j_aload_nq (pc := 50) F dX6_isBetterThan_50 rfl ?_
    refine j_get (pc := 51) F fg_X6_15 (by first | assumption | exact hUp_s) (by rfl) dX6_isBetterThan_51 ?_
    first | refine j_icmp_geN (pc := 54) F 61 dX6_isBetterThan_54 (by decide) (by omega) (by omega) (fun c2 => ?_) (fun c2 => ?_) | refine j_icmp_geIN (pc := 54) F 61 dX6_isBetterThan_54 (by decide) (by omega) (fun c2 => ?_) (fun c2 => ?_) | refine j_icmp_geNI (pc := 54) F 61 dX6_isBetterThan_54 (by decide) (by omega) (fun c2 => ?_) (fun c2 => ?_) | refine j_icmp_geI (pc := 54) F 61 dX6_isBetterThan_54 (by decide) (fun c2 => ?_) (fun c2 => ?_)
    · refine j_iconst (pc := 61) (v := (nI 0)) F dX6_isBetterThan_61 (by decide) ?_
      exact j_iret F hQ rfl rfl (by omega) (by omega) dX6_isBetterThan_62 ⟨by rw [better, decide_eq_false (by omega)]; rfl, rfl⟩
    · refine j_iconst (pc := 57) (v := (nI 1)) F dX6_isBetterThan_57 (by decide) ?_
      refine j_goto (pc := 58) F 62 dX6_isBetterThan_58 (by decide) ?_
      exact j_iret F hQ rfl rfl (by omega) (by omega) dX6_isBetterThan_62 ⟨by rw [better, decide_eq_true (by omega)]; rfl, rfl⟩
  · first | refine j_aload_n (pc := 23) F dX6_isBetterThan_23 rfl ?_ | refine j_aload_nq (pc := 23) F dX6_isBetterThan_23 rfl ?_
    refine j_get (pc := 24) F fg_X6_22 (by first | assumption | exact hUp_s) (by rfl) dX6_isBetterThan_24 ?_
    refine j_ri (j_runV (pc := 27) F (c_X2_size h3) m_X2_size mv_X2_size lk_X6_29 (by first | assumption | exact hUp_s) rfl ⟨by decide, by decide⟩ (Nat.le_of_ble_eq_true rfl) ⟨by omega, by omega⟩ rfl dX6_isBetterThan_27) (fun r h7 hp => ?_)
    obtain ⟨rfl, rfl⟩ := hp
    first | refine j_aload_n (pc := 30) F dX6_isBetterThan_30 rfl ?_ | refine j_aload_nq (pc := 30) F dX6_isBetterThan_30 rfl ?_
    refine j_get (pc := 31) F fg_X6_22 (by first | assumption | exact hUp_s) (by rfl) dX6_isBetterThan_31 ?_
    refine j_ri (j_runV (pc := 34) F (c_X2_size h5) m_X2_size mv_X2_size lk_X6_29 (by first | assumption | exact hUp_s) rfl ⟨by decide, by decide⟩ (Nat.le_of_ble_eq_true rfl) ⟨by omega, by omega⟩ rfl dX6_isBetterThan_34) (fun r h8 hp => ?_)
    obtain ⟨rfl, rfl⟩ := hp
    first | refine j_icmp_geN (pc := 37) F 44 dX6_isBetterThan_37 (by decide) (by omega) (by omega) (fun c2 => ?_) (fun c2 => ?_) | refine j_icmp_geIN (pc := 37) F 44 dX6_isBetterThan_37 (by decide) (by omega) (fun c2 => ?_) (fun c2 => ?_) | refine j_icmp_geNI (pc := 37) F 44 dX6_isBetterThan_37 (by decide) (by omega) (fun c2 => ?_) (fun c2 => ?_) | refine j_icmp_geI (pc := 37) F 44 dX6_isBetterThan_37 (by decide) (fun c2 => ?_) (fun c2 => ?_)
    · refine j_iconst (pc := 44) (v := (nI 0)) F dX6_isBetterThan_44 (by decide) ?_
      exact j_iret F hQ rfl rfl (by omega) (by omega) dX6_isBetterThan_45 ⟨by rw [better, decide_eq_false (by omega)]; rfl, rfl⟩
    · refine j_iconst (pc := 40) (v := (nI 1)) F dX6_isBetterThan_40 (by decide) ?_
      refine j_goto (pc := 41) F 45 dX6_isBetterThan_41 (by decide) ?_
      exact j_iret F hQ rfl rfl (by omega) (by omega) dX6_isBetterThan_45 ⟨by rw [better, decide_eq_true (by omega)]; rfl, rfl⟩
theorem c_X6_isFoundBeforeN {r : Nat} : MI l g A h yX6_isFoundBefore cX6_isFoundBefore 2 (some .boolean) 2 0 0 [.ref r, .null] (fun x h1 => x = bI true ∧ h1 = h) := by
  refine j_met (by decide +kernel) (Nat.le_of_ble_eq_true rfl) (fun X F hn hQ => ?_)
  refine j_aload_nN (pc := 0) F dX6_isFoundBefore_0 rfl ?_
  refine j_ifnonnullN (pc := 1) F dX6_isFoundBefore_1 ?_
  refine j_iconst (pc := 4) (v := (nI 1)) F dX6_isFoundBefore_4 (by decide) ?_
  exact j_iret F hQ rfl rfl (by omega) (by omega) dX6_isFoundBefore_5 ⟨rfl, rfl⟩
theorem c_X6_isFoundBefore {r pf pa aa pe q b z s e r2 pf2 pa2 aa2 pe2 q2 b2 z2 s2 e2 : Nat} {N N2 : Nat → Nat} (hr : isRoute g h r pf pa aa pe q b z N s e) (ho : rOk pe q b z s e) (hr2 : isRoute g h r2 pf2 pa2 aa2 pe2 q2 b2 z2 N2 s2 e2) (ho2 : rOk pe2 q2 b2 z2 s2 e2) : MI l g A h yX6_isFoundBefore cX6_isFoundBefore 2 (some .boolean) 2 0 0 [.ref r, .ref r2] (fun x h1 => x = bI (foundBf b z pe b2 z2 pe2) ∧ h1 = h) := by
  have hr0 := hr
  have ho0 := ho
  have hr20 := hr2
  have ho20 := ho2
  obtain ⟨hr, h2, h3⟩ := hr
  obtain ⟨o1, o2, o3, o4, o5, o6⟩ := ho
  obtain ⟨hr2, h4, h5⟩ := hr2
  obtain ⟨p1, p2, p3, p4, p5, p6⟩ := ho2
  unfold isPfx at h2 h4
  refine j_met (by decide +kernel) (Nat.le_of_ble_eq_true rfl) (fun X F hn hQ => ?_)
  first | refine j_aload_n (pc := 0) F dX6_isFoundBefore_0 rfl ?_ | refine j_aload_nq (pc := 0) F dX6_isFoundBefore_0 rfl ?_
  refine j_ifnonnull (pc := 1) F 6 dX6_isFoundBefore_1 (by decide) ?_
  first | refine j_aload_n (pc := 6) F dX6_isFoundBefore_6 rfl ?_ | refine j_aload_nq (pc := 6) F dX6_isFoundBefore_6 rfl ?_
  refine j_get (pc := 7) F fg_X6_18 (by first | assumption | exact hUp_s) (by rfl) dX6_isFoundBefore_7 ?_
  refine j_getN (pc := 10) F fn_X6_35 (by first | assumption | exact hUp_s) (by rfl) dX6_isFoundBefore_10 ?_
  first | refine j_aload_n (pc := 13) F dX6_isFoundBefore_13 rfl ?_ | refine j_aload_nq (pc := 13) F dX6_isFoundBefore_13 rfl ?_
  refine j_get (pc := 14) F fg_X6_18 (by first | assumption | exact hUp_s) (by rfl) dX6_isFoundBefore_14 ?_
  refine j_getN (pc := 17) F fn_X6_35 (by first | assumption | exact hUp_s) (by rfl) dX6_isFoundBefore_17 ?_
  first | refine j_icmp_eqN (pc := 20) F 46 dX6_isFoundBefore_20 (by decide) (by omega) (by omega) (fun c => ?_) (fun c => ?_) | refine j_icmp_eqIN (pc := 20) F 46 dX6_isFoundBefore_20 (by decide) (by omega) (fun c => ?_) (fun c => ?_) | refine j_icmp_eqNI (pc := 20) F 46 dX6_isFoundBefore_20 (by decide) (by omega) (fun c => ?_) (fun c => ?_) | refine j_icmp_eq (pc := 20) F 46 dX6_isFoundBefore_20 (by decide) (fun c => ?_) (fun c => ?_)
  · subst c
    first | refine j_aload_n (pc := 46) F dX6_isFoundBefore_46 rfl ?_ | refine j_aload_nq (pc := 46) F dX6_isFoundBefore_46 rfl ?_
    first | refine j_aload_n (pc := 47) F dX6_isFoundBefore_47 rfl ?_ | refine j_aload_nq (pc := 47) F dX6_isFoundBefore_47 rfl ?_
    refine j_ri (j_runV (pc := 48) F (c_X6_isBetterThan hr0 ho0 hr20 ho20) m_X6_isBetterThan mv_X6_isBetterThan lk_X6_40 (by first | assumption | exact hUp_s) rfl ⟨by decide, by decide⟩ (Nat.le_of_ble_eq_true rfl) ⟨by omega, by omega⟩ rfl dX6_isFoundBefore_48) (fun r h1 hp => ?_)
    obtain ⟨rfl, rfl⟩ := hp
    refine j_iret F hQ rfl (bI_n _) (by omega) (by omega) dX6_isFoundBefore_51 ⟨?_, rfl⟩
    rw [foundBf, better]
    congr 1
    simp
  · first | refine j_aload_n (pc := 23) F dX6_isFoundBefore_23 rfl ?_ | refine j_aload_nq (pc := 23) F dX6_isFoundBefore_23 rfl ?_
    refine j_get (pc := 24) F fg_X6_18 (by first | assumption | exact hUp_s) (by rfl) dX6_isFoundBefore_24 ?_
    refine j_getN (pc := 27) F fn_X6_35 (by first | assumption | exact hUp_s) (by rfl) dX6_isFoundBefore_27 ?_
    first | refine j_aload_n (pc := 30) F dX6_isFoundBefore_30 rfl ?_ | refine j_aload_nq (pc := 30) F dX6_isFoundBefore_30 rfl ?_
    refine j_get (pc := 31) F fg_X6_18 (by first | assumption | exact hUp_s) (by rfl) dX6_isFoundBefore_31 ?_
    refine j_getN (pc := 34) F fn_X6_35 (by first | assumption | exact hUp_s) (by rfl) dX6_isFoundBefore_34 ?_
    first | refine j_icmp_leN (pc := 37) F 44 dX6_isFoundBefore_37 (by decide) (by omega) (by omega) (fun c2 => ?_) (fun c2 => ?_) | refine j_icmp_leIN (pc := 37) F 44 dX6_isFoundBefore_37 (by decide) (by omega) (fun c2 => ?_) (fun c2 => ?_) | refine j_icmp_leNI (pc := 37) F 44 dX6_isFoundBefore_37 (by decide) (by omega) (fun c2 => ?_) (fun c2 => ?_) | refine j_icmp_leI (pc := 37) F 44 dX6_isFoundBefore_37 (by decide) (fun c2 => ?_) (fun c2 => ?_)
    · refine j_iconst (pc := 44) (v := (nI 0)) F dX6_isFoundBefore_44 (by decide) ?_
      exact j_iret F hQ rfl rfl (by omega) (by omega) dX6_isFoundBefore_45 ⟨by rw [foundBf, decide_eq_false (by omega)]; rfl, rfl⟩
    · refine j_iconst (pc := 40) (v := (nI 1)) F dX6_isFoundBefore_40 (by decide) ?_
      refine j_goto (pc := 41) F 45 dX6_isFoundBefore_41 (by decide) ?_
      exact j_iret F hQ rfl rfl (by omega) (by omega) dX6_isFoundBefore_45 ⟨by rw [foundBf, decide_eq_true (by omega)]; rfl, rfl⟩
theorem c_X6_isLike {r pf pa aa pe q b z s e r2 pf2 pa2 aa2 pe2 q2 b2 z2 s2 e2 : Nat} {N N2 : Nat → Nat} (hr : isRoute g h r pf pa aa pe q b z N s e) (ho : rOk pe q b z s e) (hN : ∀ j, j < z → N j < 2 ^ 31) (hr2 : isRoute g h r2 pf2 pa2 aa2 pe2 q2 b2 z2 N2 s2 e2) (ho2 : rOk pe2 q2 b2 z2 s2 e2) (hN2 : ∀ j, j < z2 → N2 j < 2 ^ 31) : MI l g A h yX6_isLike cX6_isLike 2 (some .boolean) 2 0 0 [.ref r, .ref r2] (fun x h1 => x = bI (decide (pe = pe2) && pLike z N z2 N2) ∧ h1 = h) := by
  obtain ⟨hr, h2, h3⟩ := hr
  obtain ⟨o1, o2, o3, o4, o5, o6⟩ := ho
  obtain ⟨hr2, h4, h5⟩ := hr2
  obtain ⟨p1, p2, p3, p4, p5, p6⟩ := ho2
  obtain ⟨y1, g1, g2⟩ := id h3
  refine j_met (by decide +kernel) (Nat.le_of_ble_eq_true rfl) (fun X F hn hQ => ?_)
  first | refine j_aload_n (pc := 0) F dX6_isLike_0 rfl ?_ | refine j_aload_nq (pc := 0) F dX6_isLike_0 rfl ?_
  refine j_get (pc := 1) F fg_X6_15 (by first | assumption | exact hUp_s) (by rfl) dX6_isLike_1 ?_
  first | refine j_aload_n (pc := 4) F dX6_isLike_4 rfl ?_ | refine j_aload_nq (pc := 4) F dX6_isLike_4 rfl ?_
  refine j_get (pc := 5) F fg_X6_15 (by first | assumption | exact hUp_s) (by rfl) dX6_isLike_5 ?_
  first | refine j_icmp_neN (pc := 8) F 29 dX6_isLike_8 (by decide) (by omega) (by omega) (fun c => ?_) (fun c => ?_) | refine j_icmp_neIN (pc := 8) F 29 dX6_isLike_8 (by decide) (by omega) (fun c => ?_) (fun c => ?_) | refine j_icmp_neNI (pc := 8) F 29 dX6_isLike_8 (by decide) (by omega) (fun c => ?_) (fun c => ?_) | refine j_icmp_ne (pc := 8) F 29 dX6_isLike_8 (by decide) (fun c => ?_) (fun c => ?_)
  · refine j_iconst (pc := 29) (v := (nI 0)) F dX6_isLike_29 (by decide) ?_
    exact j_iret F hQ rfl rfl (by omega) (by omega) dX6_isLike_30 ⟨by rw [decide_eq_false (by omega)]; rfl, rfl⟩
  · first | refine j_aload_n (pc := 11) F dX6_isLike_11 rfl ?_ | refine j_aload_nq (pc := 11) F dX6_isLike_11 rfl ?_
    refine j_get (pc := 12) F fg_X6_22 (by first | assumption | exact hUp_s) (by rfl) dX6_isLike_12 ?_
    first | refine j_aload_n (pc := 15) F dX6_isLike_15 rfl ?_ | refine j_aload_nq (pc := 15) F dX6_isLike_15 rfl ?_
    refine j_get (pc := 16) F fg_X6_22 (by first | assumption | exact hUp_s) (by rfl) dX6_isLike_16 ?_
    refine j_ri (j_runV (pc := 19) F (c_X2_isLike h3 h5 hN hN2) m_X2_isLike mv_X2_isLike lk_X6_44 (by first | assumption | exact hUp_s) rfl ⟨by decide, by decide⟩ (Nat.le_of_ble_eq_true rfl) ⟨by omega, by omega⟩ rfl dX6_isLike_19) (fun r h1 hp => ?_)
    obtain ⟨rfl, rfl⟩ := hp
    first | refine j_if_eqB (pc := 22) F 29 dX6_isLike_22 (by decide) (fun c2 => ?_) (fun c2 => ?_) | refine j_if_eqN (pc := 22) F 29 dX6_isLike_22 (by decide) (by omega) (fun c2 => ?_) (fun c2 => ?_) | refine j_if_eqI (pc := 22) F 29 dX6_isLike_22 (by decide) (fun c2 => ?_) (fun c2 => ?_)
    · refine j_iconst (pc := 29) (v := (nI 0)) F dX6_isLike_29 (by decide) ?_
      exact j_iret F hQ rfl rfl (by omega) (by omega) dX6_isLike_30 ⟨by rw [c2, Bool.and_false]; rfl, rfl⟩
    · refine j_iconst (pc := 25) (v := (nI 1)) F dX6_isLike_25 (by decide) ?_
      refine j_goto (pc := 26) F 30 dX6_isLike_26 (by decide) ?_
      exact j_iret F hQ rfl rfl (by omega) (by omega) dX6_isLike_30 ⟨by rw [c2, decide_eq_true c]; rfl, rfl⟩
end ROUTE
