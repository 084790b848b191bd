/-! ===== Bgpreplay$Path: its size, and a row of networks ===== -/
theorem ne_of {h : HF} {a b : Nat} {x : va_E} (ha : h a = none) (hb : h b = some x) : a ≠ b := fun e => by subst e; rw [ha] at hb; cases hb
theorem ne_of2 {h : HF} {a b : Nat} {x y : va_E} (ha : h a = some x) (hb : h b = some y) (n : x ≠ y) : a ≠ b := fun e => by subst e; rw [ha] at hb; exact n (Option.some.inj hb)
/-- the path object p, its row at a, of z networks N -/
def isPath (g : GG) (h : HF) (p a z : Nat) (N : Nat → Nat) : Prop := ∃ r : Nat → Int32, h p = some (.inr (2, [.ref a, .int (nI z)])) ∧ h a = some (aI g 8 r) ∧ z ≤ 8 ∧ ∀ j, j < z → r j = nI (N j)
/-- the network at a place, -1 if there is none -/
def pAt (z : Nat) (N : Nat → Nat) (i : Int) : Int32 := if 0 ≤ i ∧ i < z then nI (N i.toNat) else -1
/-- a network is in the path, and isn't the last one -/
def pLeft (z : Nat) (N : Nat → Nat) (k : Int32) : Bool := decide (pAt z N (z - 1) ≠ k ∧ ∃ j, j < z ∧ nI (N j) = k)
theorem pAt_i {z i : Nat} {N : Nat → Nat} (hz : z ≤ 8) (hi : i < z) : pAt z N (nI i).toInt = nI (N i) := by
  rw [nI_toInt (by omega)]
  unfold pAt
  rw [if_pos (by omega)]
  rfl
section PATH
variable {l : Launch} {g : GG} {A : Nat → Prop} {h : HF}
theorem c_X2_size {p a z : Nat} {N : Nat → Nat} (hp : isPath g h p a z N) : MI l g A h yX2_size cX2_size 1 (some .int) 0 0 0 [.ref p] (fun r h1 => r = nI z ∧ h1 = h) := by
  obtain ⟨rr, e1, e2, hz, hN⟩ := hp
  refine j_met (by decide +kernel) (Nat.le_of_ble_eq_true rfl) (fun X F hn hQ => ?_)
  first | refine j_aload_n (pc := 0) F dX2_size_0 rfl ?_ | refine j_aload_nq (pc := 0) F dX2_size_0 rfl ?_
  refine j_get (pc := 1) F fg_X2_15 (by first | assumption | exact hUp_s) (by rfl) dX2_size_1 ?_
  exact j_iret F hQ rfl rfl (by omega) (by omega) dX2_size_4 ⟨rfl, rfl⟩
theorem c_X2_isFull {p a z : Nat} {N : Nat → Nat} (hp : isPath g h p a z N) : MI l g A h yX2_isFull cX2_isFull 1 (some .boolean) 0 0 0 [.ref p] (fun r h1 => r = bI (decide (8 ≤ z)) ∧ h1 = h) := by
  obtain ⟨rr, e1, e2, hz, hN⟩ := hp
  refine j_met (by decide +kernel) (Nat.le_of_ble_eq_true rfl) (fun X F hn hQ => ?_)
  first | refine j_aload_n (pc := 0) F dX2_isFull_0 rfl ?_ | refine j_aload_nq (pc := 0) F dX2_isFull_0 rfl ?_
  refine j_get (pc := 1) F fg_X2_15 (by first | assumption | exact hUp_s) (by rfl) dX2_isFull_1 ?_
  refine j_bipush (pc := 4) (v := (nI 8)) F dX2_isFull_4 (by decide) ?_
  first | refine j_icmp_ltN (pc := 6) F 13 dX2_isFull_6 (by decide) (by omega) (by omega) (fun c => ?_) (fun c => ?_) | refine j_icmp_ltIN (pc := 6) F 13 dX2_isFull_6 (by decide) (by omega) (fun c => ?_) (fun c => ?_) | refine j_icmp_ltNI (pc := 6) F 13 dX2_isFull_6 (by decide) (by omega) (fun c => ?_) (fun c => ?_) | refine j_icmp_ltI (pc := 6) F 13 dX2_isFull_6 (by decide) (fun c => ?_) (fun c => ?_)
  · refine j_iconst (pc := 13) (v := (nI 0)) F dX2_isFull_13 (by decide) ?_
    exact j_iret F hQ rfl rfl (by omega) (by omega) dX2_isFull_14 ⟨by rw [decide_eq_false (by omega)]; rfl, rfl⟩
  · refine j_iconst (pc := 9) (v := (nI 1)) F dX2_isFull_9 (by decide) ?_
    refine j_goto (pc := 10) F 14 dX2_isFull_10 (by decide) ?_
    exact j_iret F hQ rfl rfl (by omega) (by omega) dX2_isFull_14 ⟨by rw [decide_eq_true (by omega)]; rfl, rfl⟩
theorem c_X2_networkAt {p a z : Nat} {N : Nat → Nat} {x : Int32} (hp : isPath g h p a z N) : MI l g A h yX2_networkAt cX2_networkAt 2 (some .int) 0 0 0 [.ref p, .int x] (fun r h1 => r = pAt z N x.toInt ∧ h1 = h) := by
  obtain ⟨rr, e1, e2, hz, hN⟩ := hp
  refine j_met (by decide +kernel) (Nat.le_of_ble_eq_true rfl) (fun X F hn hQ => ?_)
  refine j_iload_n (pc := 0) F dX2_networkAt_0 rfl ?_
  first | refine j_if_ltN (pc := 1) F 12 dX2_networkAt_1 (by decide) (by omega) (fun c => ?_) (fun c => ?_) | refine j_if_ltI (pc := 1) F 12 dX2_networkAt_1 (by decide) (fun c => ?_) (fun c => ?_)
  · refine j_iconst (pc := 12) (v := (-1)) F dX2_networkAt_12 (by decide) ?_
    refine j_goto (pc := 13) F 22 dX2_networkAt_13 (by decide) ?_
    exact j_iret F hQ rfl rfl (by omega) (by omega) dX2_networkAt_22 ⟨by unfold pAt; rw [if_neg (by omega)], rfl⟩
  · refine j_iload_n (pc := 4) F dX2_networkAt_4 rfl ?_
    first | refine j_aload_n (pc := 5) F dX2_networkAt_5 rfl ?_ | refine j_aload_nq (pc := 5) F dX2_networkAt_5 rfl ?_
    refine j_get (pc := 6) F fg_X2_15 (by first | assumption | exact hUp_s) (by rfl) dX2_networkAt_6 ?_
    first | refine j_icmp_ltN (pc := 9) F 16 dX2_networkAt_9 (by decide) (by omega) (by omega) (fun c2 => ?_) (fun c2 => ?_) | refine j_icmp_ltIN (pc := 9) F 16 dX2_networkAt_9 (by decide) (by omega) (fun c2 => ?_) (fun c2 => ?_) | refine j_icmp_ltNI (pc := 9) F 16 dX2_networkAt_9 (by decide) (by omega) (fun c2 => ?_) (fun c2 => ?_) | refine j_icmp_ltI (pc := 9) F 16 dX2_networkAt_9 (by decide) (fun c2 => ?_) (fun c2 => ?_)
    · obtain ⟨j, hj, rfl, ej⟩ := q_nat c
      first | refine j_aload_n (pc := 16) F dX2_networkAt_16 rfl ?_ | refine j_aload_nq (pc := 16) F dX2_networkAt_16 rfl ?_
      refine j_get (pc := 17) F fg_X2_9 (by first | assumption | exact hUp_s) (by rfl) dX2_networkAt_17 ?_
      refine j_iload_n (pc := 20) F dX2_networkAt_20 rfl ?_
      refine j_ialdN (pc := 21) F (by first | assumption | exact hUp_s) (by omega) (by decide) dX2_networkAt_21 ?_
      exact j_iret F hQ rfl rfl (by omega) (by omega) dX2_networkAt_22 ⟨by unfold pAt; rw [if_pos (by omega), hN _ (by omega), ej]; rfl, rfl⟩
    · refine j_iconst (pc := 12) (v := (-1)) F dX2_networkAt_12 (by decide) ?_
      refine j_goto (pc := 13) F 22 dX2_networkAt_13 (by decide) ?_
      exact j_iret F hQ rfl rfl (by omega) (by omega) dX2_networkAt_22 ⟨by unfold pAt; rw [if_neg (by omega)], rfl⟩
theorem c_X2_origin {p a z : Nat} {N : Nat → Nat} (hp : isPath g h p a z N) : MI l g A h yX2_origin cX2_origin 1 (some .int) 1 0 0 [.ref p] (fun r h1 => r = pAt z N (z - 1) ∧ h1 = h) := by
  have hp0 := hp
  obtain ⟨rr, e1, e2, hz, hN⟩ := hp
  refine j_met (by decide +kernel) (Nat.le_of_ble_eq_true rfl) (fun X F hn hQ => ?_)
  first | refine j_aload_n (pc := 0) F dX2_origin_0 rfl ?_ | refine j_aload_nq (pc := 0) F dX2_origin_0 rfl ?_
  first | refine j_aload_n (pc := 1) F dX2_origin_1 rfl ?_ | refine j_aload_nq (pc := 1) F dX2_origin_1 rfl ?_
  refine j_get (pc := 2) F fg_X2_15 (by first | assumption | exact hUp_s) (by rfl) dX2_origin_2 ?_
  refine j_iconst (pc := 5) (v := (nI 1)) F dX2_origin_5 (by decide) ?_
  refine j_isub (pc := 6) F dX2_origin_6 ?_
  refine j_ri (j_runV (pc := 7) F (c_X2_networkAt hp0) m_X2_networkAt mv_X2_networkAt lk_X2_19 (by first | assumption | exact hUp_s) rfl ⟨by decide, by decide⟩ (Nat.le_of_ble_eq_true rfl) ⟨by omega, by omega⟩ rfl dX2_origin_7) (fun r h1 hp => ?_)
  obtain ⟨rfl, rfl⟩ := hp
  exact j_iret F hQ rfl rfl (by omega) (by omega) dX2_origin_10 ⟨by rw [pk_sub_toInt (by omega) (by omega)]; rfl, rfl⟩
theorem c_X2_hasLeft {p a z : Nat} {N : Nat → Nat} {x : Int32} (hp : isPath g h p a z N) : MI l g A h yX2_hasLeft cX2_hasLeft 3 (some .boolean) 2 0 0 [.ref p, .int x] (fun r h1 => r = bI (pLeft z N x) ∧ h1 = h) := by
  have hp0 := hp
  obtain ⟨rr, e1, e2, hz, hN⟩ := hp
  refine j_met (by decide +kernel) (Nat.le_of_ble_eq_true rfl) (fun X F hn hQ => ?_)
  first | refine j_aload_n (pc := 0) F dX2_hasLeft_0 rfl ?_ | refine j_aload_nq (pc := 0) F dX2_hasLeft_0 rfl ?_
  refine j_ri (j_runV (pc := 1) F (c_X2_origin hp0) m_X2_origin mv_X2_origin lk_X2_23 (by first | assumption | exact hUp_s) rfl ⟨by decide, by decide⟩ (Nat.le_of_ble_eq_true rfl) ⟨by omega, by omega⟩ rfl dX2_hasLeft_1) (fun r h1 hp => ?_)
  obtain ⟨rfl, rfl⟩ := hp
  refine j_iload_n (pc := 4) F dX2_hasLeft_4 rfl ?_
  refine j_icmp_ne (pc := 5) F 10 dX2_hasLeft_5 (by decide) (fun c => ?_) (fun c => ?_)
  · refine j_iconst (pc := 10) (v := (nI 0)) F dX2_hasLeft_10 (by decide) ?_
    refine j_istore_n (pc := 11) F dX2_hasLeft_11 (by decide) ?_
    have loop : ∀ m i, z < i + m → i ≤ z → (∀ j, j < i → nI (N j) ≠ x) → J l X g A 3 (0 + 0) (0 + 0) h1 12 [(0, .ref p), (1, .int x), (2, .int (nI i))] [] := by
      intro m
      induction m with
      | zero => intro i q1 q2; omega
      | succ m ih =>
        intro i q1 q2 q3
        refine j_iload_n (pc := 12) F dX2_hasLeft_12 rfl ?_
        first | refine j_aload_n (pc := 13) F dX2_hasLeft_13 rfl ?_ | refine j_aload_nq (pc := 13) F dX2_hasLeft_13 rfl ?_
        refine j_get (pc := 14) F fg_X2_15 (by first | assumption | exact hUp_s) (by rfl) dX2_hasLeft_14 ?_
        first | refine j_icmp_geN (pc := 17) F 37 dX2_hasLeft_17 (by decide) (by omega) (by omega) (fun c3 => ?_) (fun c3 => ?_) | refine j_icmp_geIN (pc := 17) F 37 dX2_hasLeft_17 (by decide) (by omega) (fun c3 => ?_) (fun c3 => ?_) | refine j_icmp_geNI (pc := 17) F 37 dX2_hasLeft_17 (by decide) (by omega) (fun c3 => ?_) (fun c3 => ?_) | refine j_icmp_geI (pc := 17) F 37 dX2_hasLeft_17 (by decide) (fun c3 => ?_) (fun c3 => ?_)
        · refine j_iconst (pc := 37) (v := (nI 0)) F dX2_hasLeft_37 (by decide) ?_
          refine j_iret F hQ rfl rfl (by omega) (by omega) dX2_hasLeft_38 ⟨?_, rfl⟩
          rw [pLeft, decide_eq_false]
          · rfl
          · rintro ⟨-, j, z1, z2⟩
            exact q3 j (by omega) z2
        · first | refine j_aload_n (pc := 20) F dX2_hasLeft_20 rfl ?_ | refine j_aload_nq (pc := 20) F dX2_hasLeft_20 rfl ?_
          refine j_iload_n (pc := 21) F dX2_hasLeft_21 rfl ?_
          refine j_ri (j_runV (pc := 22) F (c_X2_networkAt hp0) m_X2_networkAt mv_X2_networkAt lk_X2_19 (by first | assumption | exact hUp_s) rfl ⟨by decide, by decide⟩ (Nat.le_of_ble_eq_true rfl) ⟨by omega, by omega⟩ rfl dX2_hasLeft_22) (fun r h2 hp2 => ?_)
          obtain ⟨rfl, rfl⟩ := hp2
          refine j_int (pAt_i hz (by omega)) ?_
          refine j_iload_n (pc := 25) F dX2_hasLeft_25 rfl ?_
          refine j_icmp_ne (pc := 26) F 31 dX2_hasLeft_26 (by decide) (fun c4 => ?_) (fun c4 => ?_)
          · first | refine j_iincN (pc := 31) F dX2_hasLeft_31 rfl (by decide) ?_ | refine j_iincM (pc := 31) F dX2_hasLeft_31 rfl (by decide) ?_ | refine j_iinc (pc := 31) F dX2_hasLeft_31 rfl rfl (by decide) ?_
            refine j_goto (pc := 34) F 12 dX2_hasLeft_34 (by decide) ?_
            refine j_lv [(0, .ref p), (1, .int x), (2, .int (nI (i + 1)))] ⟨rfl, rfl, rfl, trivial⟩ ?_
            refine ih (i + 1) (by omega) (by omega) (fun j hj => ?_)
            rcases Nat.lt_or_ge j i with z1 | z1
            · exact q3 j z1
            · rw [show j = i by omega]; exact c4
          · refine j_iconst (pc := 29) (v := (nI 1)) F dX2_hasLeft_29 (by decide) ?_
            refine j_iret F hQ rfl rfl (by omega) (by omega) dX2_hasLeft_30 ⟨?_, rfl⟩
            rw [pLeft, decide_eq_true]
            · rfl
            · exact ⟨c, i, by omega, c4⟩
    refine j_lv [(0, .ref p), (1, .int x), (2, .int (nI 0))] ⟨rfl, rfl, rfl, trivial⟩ ?_
    exact loop (z + 1) 0 (by omega) (by omega) (fun j hj => by omega)
  · refine j_iconst (pc := 8) (v := (nI 0)) F dX2_hasLeft_8 (by decide) ?_
    refine j_iret F hQ rfl rfl (by omega) (by omega) dX2_hasLeft_9 ⟨?_, rfl⟩
    rw [pLeft, decide_eq_false]
    · rfl
    · rintro ⟨z1, -⟩
      exact z1 c
theorem c_X2_add {p a z v : Nat} {N : Nat → Nat} (hz8 : z < 8) (hp : isPath g h p a z N) : MVo l g A h yX2_add cX2_add 2 1 0 0 [.ref p, .int (nI v)] (fun h1 => isPath g h1 p a (z + 1) (fun j => if j = z then v else N j) ∧ ∀ b, b ≠ p → b ≠ a → h1 b = h b) := by
  have hp0 := hp
  obtain ⟨rr, e1, e2, hz, hN⟩ := hp
  have hpa : p ≠ a := ne_of2 e1 e2 (fun z => by cases z)
  refine j_met (by decide +kernel) (Nat.le_of_ble_eq_true rfl) (fun X F hn hQ => ?_)
  first | refine j_aload_n (pc := 0) F dX2_add_0 rfl ?_ | refine j_aload_nq (pc := 0) F dX2_add_0 rfl ?_
  refine j_ri (j_runV (pc := 1) F (c_X2_isFull hp0) m_X2_isFull mv_X2_isFull lk_X2_27 (by first | assumption | exact hUp_s) rfl ⟨by decide, by decide⟩ (Nat.le_of_ble_eq_true rfl) ⟨by omega, by omega⟩ rfl dX2_add_1) (fun r h1 hp => ?_)
  obtain ⟨rfl, rfl⟩ := hp
  first | refine j_if_neB (pc := 4) F 27 dX2_add_4 (by decide) (fun c => ?_) (fun c => ?_) | refine j_if_neN (pc := 4) F 27 dX2_add_4 (by decide) (by omega) (fun c => ?_) (fun c => ?_) | refine j_if_neI (pc := 4) F 27 dX2_add_4 (by decide) (fun c => ?_) (fun c => ?_)
  · simp at c; omega
  · first | refine j_aload_n (pc := 7) F dX2_add_7 rfl ?_ | refine j_aload_nq (pc := 7) F dX2_add_7 rfl ?_
    refine j_get (pc := 8) F fg_X2_9 (by first | assumption | exact hUp_s) (by rfl) dX2_add_8 ?_
    first | refine j_aload_n (pc := 11) F dX2_add_11 rfl ?_ | refine j_aload_nq (pc := 11) F dX2_add_11 rfl ?_
    refine j_get (pc := 12) F fg_X2_15 (by first | assumption | exact hUp_s) (by rfl) dX2_add_12 ?_
    refine j_iload_n (pc := 15) F dX2_add_15 rfl ?_
    refine j_iastN (pc := 16) F (by first | assumption | exact hUp_s) (by omega) (by decide) dX2_add_16 ?_
    have e3 : hUp h1 a (aI g 8 (upd rr z (nI v))) p = some (.inr (2, [.ref a, .int (nI z)])) := (hUp_n hpa).trans e1
    first | refine j_aload_n (pc := 17) F dX2_add_17 rfl ?_ | refine j_aload_nq (pc := 17) F dX2_add_17 rfl ?_
    refine j_dup (pc := 18) F dX2_add_18 rfl ?_
    refine j_get (pc := 19) F fg_X2_15 (by first | assumption | exact hUp_s) (by rfl) dX2_add_19 ?_
    refine j_iconst (pc := 22) (v := (nI 1)) F dX2_add_22 (by decide) ?_
    first | refine j_iaddN (pc := 23) F dX2_add_23 ?_ | refine j_iadd (pc := 23) F dX2_add_23 ?_
    refine j_put (pc := 24) F fp_X2_15 (by first | assumption | exact hUp_s) (by rfl) (by rfl) (Nat.le_of_ble_eq_true rfl) dX2_add_24 ?_
    refine j_vret F hQ rfl (by omega) (by omega) dX2_add_27 ⟨⟨upd rr z (nI v), ?_, ?_, by omega, fun j hj => ?_⟩, fun b q1 q2 => ?_⟩
    · rw [hUp_s]; rfl
    · rw [hUp_n (Ne.symm hpa), hUp_s]
    · by_cases hjz : j = z
      · subst hjz; rw [pk_us]; simp
      · rw [pk_un hjz, hN j (by omega)]; simp [hjz]
    · rw [hUp_n q1, hUp_n q2]
theorem c_X2_clear {p a z : Nat} {N : Nat → Nat} (hp : isPath g h p a z N) : MVo l g A h yX2_clear cX2_clear 1 0 0 0 [.ref p] (fun h1 => isPath g h1 p a 0 N ∧ ∀ b, b ≠ p → h1 b = h b) := by
  obtain ⟨rr, e1, e2, hz, hN⟩ := hp
  have hpa : p ≠ a := ne_of2 e1 e2 (fun z => by cases z)
  refine j_met (by decide +kernel) (Nat.le_of_ble_eq_true rfl) (fun X F hn hQ => ?_)
  first | refine j_aload_n (pc := 0) F dX2_clear_0 rfl ?_ | refine j_aload_nq (pc := 0) F dX2_clear_0 rfl ?_
  refine j_iconst (pc := 1) (v := (nI 0)) F dX2_clear_1 (by decide) ?_
  refine j_put (pc := 2) F fp_X2_15 (by first | assumption | exact hUp_s) (by rfl) (by rfl) (Nat.le_of_ble_eq_true rfl) dX2_clear_2 ?_
  refine j_vret F hQ rfl (by omega) (by omega) dX2_clear_5 ⟨⟨rr, ?_, ?_, by omega, fun j hj => by omega⟩, fun b q1 => ?_⟩
  · rw [hUp_s]; rfl
  · rw [hUp_n (Ne.symm hpa), e2]
  · rw [hUp_n q1]
theorem c_X2_init {p : Nat} (hp : h p = some (.inr (2, [.null, .int 0]))) : MVo l g A h yX2_init cX2_init 1 1 1 8 [.ref p] (fun h1 => ∃ a, h a = none ∧ isPath g h1 p a 0 (fun _ => 0) ∧ ∀ b, b ≠ p → b ≠ a → h1 b = h b) := by
  refine j_met (by decide +kernel) (Nat.le_of_ble_eq_true rfl) (fun X F hn hQ => ?_)
  first | refine j_aload_n (pc := 0) F dX2_init_0 rfl ?_ | refine j_aload_nq (pc := 0) F dX2_init_0 rfl ?_
  refine j_objInit (pc := 1) F (by omega) lk_X2_3 (Nat.le_of_ble_eq_true rfl) dX2_init_1 ?_
  first | refine j_aload_n (pc := 4) F dX2_init_4 rfl ?_ | refine j_aload_nq (pc := 4) F dX2_init_4 rfl ?_
  refine j_bipush (pc := 5) (v := (nI 8)) F dX2_init_5 (by decide) ?_
  refine j_newaI (pc := 7) F (N := 8) (by decide) (by decide) (by decide) (by omega) (by omega) dX2_init_7 (fun q hq hA => ?_)
  have hpq : p ≠ q := Ne.symm (ne_of hq hp)
  have e3 : hUp h q (aI g 8 (fun _ => 0)) p = some (.inr (2, [.null, .int 0])) := (hUp_n hpq).trans hp
  refine j_putF (pc := 9) F fp_X2_9 hn rfl (by first | assumption | exact hUp_s) (by rfl) (by rfl) (Nat.le_of_ble_eq_true rfl) dX2_init_9 ?_
  first | refine j_aload_n (pc := 12) F dX2_init_12 rfl ?_ | refine j_aload_nq (pc := 12) F dX2_init_12 rfl ?_
  refine j_iconst (pc := 13) (v := (nI 0)) F dX2_init_13 (by decide) ?_
  refine j_put (pc := 14) F fp_X2_15 (by first | assumption | exact hUp_s) (by rfl) (by rfl) (Nat.le_of_ble_eq_true rfl) dX2_init_14 ?_
  refine j_vret F hQ rfl (by omega) (by omega) dX2_init_17 ⟨q, hq, ⟨fun _ => 0, ?_, ?_, by omega, fun j hj => by omega⟩, fun b q1 q2 => ?_⟩
  · rw [hUp_s]; rfl
  · rw [hUp_n (Ne.symm hpq), hUp_n (Ne.symm hpq), hUp_s]
  · rw [hUp_n q1, hUp_n q1, hUp_n q2]
theorem c_X2_copy {p a z : Nat} {N : Nat → Nat} (hp : isPath g h p a z N) : MQo l g A h yX2_copy cX2_copy 3 (some (.object "Bgpreplay$Path")) 2 2 10 [.ref p] (fun r h1 => ∃ q b, r = some q ∧ h q = none ∧ h b = none ∧ isPath g h1 q b z N ∧ ∀ x, x ≠ q → x ≠ b → h1 x = h x) := by
  obtain ⟨rr, e1, e2, hz, hN⟩ := hp
  refine j_met (by decide +kernel) (Nat.le_of_ble_eq_true rfl) (fun X F hn hQ => ?_)
  refine j_new (pc := 0) F (ci := 2) (fs := [.null, .int 0]) tyX2_ok fw_X2 lc_X2_10 iw_X2 nw_X2 rfl (fun j hj => by rcases (show j = 0 ∨ j = 1 by omega) with rfl | rfl <;> rfl) (by omega) (by omega) dX2_copy_0 (fun q hq hA => ?_)
  refine j_dup (pc := 3) F dX2_copy_3 rfl ?_
  have e3 : hUp h q (.inr (2, [.null, .int 0])) q = some (.inr (2, [.null, .int 0])) := hUp_s
  refine j_rv (j_runI (pc := 4) F (c_X2_init e3) m_X2_init rfl mi_X2_init lk_X2_31 ⟨by decide, by decide⟩ (Nat.le_of_ble_eq_true rfl) ⟨by omega, by omega⟩ rfl dX2_copy_4) (fun h1 hp => ?_)
  obtain ⟨b, hb, hp, hfr⟩ := hp
  have hbq : b ≠ q := ne_of hb e3
  have hb0 : h b = none := by rw [hUp_n hbq] at hb; exact hb
  have fr : ∀ x, x ≠ q → x ≠ b → h1 x = h x := fun x q1 q2 => by rw [hfr x q1 q2, hUp_n q1]
  have hpq : p ≠ q := Ne.symm (ne_of hq e1)
  have hpb : p ≠ b := Ne.symm (ne_of hb0 e1)
  have haq : a ≠ q := Ne.symm (ne_of hq e2)
  have hab : a ≠ b := Ne.symm (ne_of hb0 e2)
  first | refine j_astore_n (pc := 7) F dX2_copy_7 (by decide) ?_ | refine j_astore_nq (pc := 7) F dX2_copy_7 (by decide) ?_ | refine j_astore_nN (pc := 7) F dX2_copy_7 (by decide) ?_
  refine j_iconst (pc := 8) (v := (nI 0)) F dX2_copy_8 (by decide) ?_
  refine j_istore_n (pc := 9) F dX2_copy_9 (by decide) ?_
  have loop : ∀ m i (h2 : HF) (M : Nat → Nat), z < i + m → i ≤ z → isPath g h2 q b i M → (∀ j, j < i → M j = N j) → (∀ x, x ≠ q → x ≠ b → h2 x = h x) → J l X g A 3 (0 + 1 + 1) (0 + 2 + 8) h2 10 [(0, .ref p), (1, .ref q), (2, .int (nI i))] [] := by
    intro m
    induction m with
    | zero => intro i h2 M q1 q2; omega
    | succ m ih =>
      intro i h2 M q1 q2 q3 q4 q5
      have e1' : h2 p = some (.inr (2, [.ref a, .int (nI z)])) := (q5 p hpq hpb).trans e1
      have e2' : h2 a = some (aI g 8 rr) := (q5 a haq hab).trans e2
      have q3' := q3
      obtain ⟨r2, g1, g2, -, g4⟩ := q3'
      refine j_iload_n (pc := 10) F dX2_copy_10 rfl ?_
      first | refine j_aload_n (pc := 11) F dX2_copy_11 rfl ?_ | refine j_aload_nq (pc := 11) F dX2_copy_11 rfl ?_
      refine j_get (pc := 12) F fg_X2_15 (by first | assumption | exact hUp_s) (by rfl) dX2_copy_12 ?_
      first | refine j_icmp_geN (pc := 15) F 33 dX2_copy_15 (by decide) (by omega) (by omega) (fun c => ?_) (fun c => ?_) | refine j_icmp_geIN (pc := 15) F 33 dX2_copy_15 (by decide) (by omega) (fun c => ?_) (fun c => ?_) | refine j_icmp_geNI (pc := 15) F 33 dX2_copy_15 (by decide) (by omega) (fun c => ?_) (fun c => ?_) | refine j_icmp_geI (pc := 15) F 33 dX2_copy_15 (by decide) (fun c => ?_) (fun c => ?_)
      · first | refine j_aload_n (pc := 33) F dX2_copy_33 rfl ?_ | refine j_aload_nq (pc := 33) F dX2_copy_33 rfl ?_
        refine j_aret F hQ rfl (by omega) (by omega) dX2_copy_34 (r := some q) ⟨q, b, rfl, hq, hb0, ?_, q5⟩
        have : i = z := by omega
        subst this
        exact ⟨r2, g1, g2, hz, fun j hj => by rw [g4 j hj, q4 j hj]⟩
      · first | refine j_aload_n (pc := 18) F dX2_copy_18 rfl ?_ | refine j_aload_nq (pc := 18) F dX2_copy_18 rfl ?_
        first | refine j_aload_n (pc := 19) F dX2_copy_19 rfl ?_ | refine j_aload_nq (pc := 19) F dX2_copy_19 rfl ?_
        refine j_iload_n (pc := 20) F dX2_copy_20 rfl ?_
        have q6 : isPath g h2 p a z N := ⟨rr, e1', e2', hz, hN⟩
        refine j_ri (j_runV (pc := 21) F (c_X2_networkAt q6) m_X2_networkAt mv_X2_networkAt lk_X2_19 (by first | assumption | exact hUp_s) rfl ⟨by decide, by decide⟩ (Nat.le_of_ble_eq_true rfl) ⟨by omega, by omega⟩ rfl dX2_copy_21) (fun r h4 hp4 => ?_)
        obtain ⟨rfl, rfl⟩ := hp4
        refine j_int (pAt_i hz (by omega)) ?_
        refine j_rv (j_runV (pc := 24) F (c_X2_add (by omega) q3) m_X2_add mv_X2_add lk_X2_32 (by first | assumption | exact hUp_s) rfl ⟨by decide, by decide⟩ (Nat.le_of_ble_eq_true rfl) ⟨by omega, by omega⟩ rfl dX2_copy_24) (fun h3 hp3 => ?_)
        obtain ⟨hp3, hfr3⟩ := hp3
        first | refine j_iincN (pc := 27) F dX2_copy_27 rfl (by decide) ?_ | refine j_iincM (pc := 27) F dX2_copy_27 rfl (by decide) ?_ | refine j_iinc (pc := 27) F dX2_copy_27 rfl rfl (by decide) ?_
        refine j_goto (pc := 30) F 10 dX2_copy_30 (by decide) ?_
        refine j_lv [(0, .ref p), (1, .ref q), (2, .int (nI (i + 1)))] ⟨rfl, rfl, rfl, trivial⟩ ?_
        refine ih (i + 1) h3 _ (by omega) (by omega) hp3 (fun j hj => ?_) (fun x z1 z2 => by rw [hfr3 x z1 z2, q5 x z1 z2])
        by_cases hji : j = i
        · subst hji; simp
        · simp only [hji, if_false]; exact q4 j (by omega)
  refine j_lv [(0, .ref p), (1, .ref q), (2, .int (nI 0))] ⟨rfl, rfl, rfl, trivial⟩ ?_
  exact loop (z + 1) 0 h1 _ (by omega) (by omega) hp (fun j hj => by omega) fr
/-- two paths are alike -/
def pLike (z : Nat) (N : Nat → Nat) (z2 : Nat) (N2 : Nat → Nat) : Bool := decide (z = z2 ∧ ∀ j, j < z → N j = N2 j)
theorem c_X2_isLike {p a z p2 a2 z2 : Nat} {N N2 : Nat → Nat} (hp : isPath g h p a z N) (hp2 : isPath g h p2 a2 z2 N2) (hb : ∀ j, j < z → N j < 2 ^ 31) (hb2 : ∀ j, j < z2 → N2 j < 2 ^ 31) : MI l g A h yX2_isLike cX2_isLike 3 (some .boolean) 1 0 0 [.ref p, .ref p2] (fun r h1 => r = bI (pLike z N z2 N2) ∧ h1 = h) := by
  have hp0 := hp
  have hp20 := hp2
  obtain ⟨rr, e1, e2, hz, hN⟩ := hp
  obtain ⟨r2, f1, f2, hz2, hN2⟩ := hp2
  refine j_met (by decide +kernel) (Nat.le_of_ble_eq_true rfl) (fun X F hn hQ => ?_)
  first | refine j_aload_n (pc := 0) F dX2_isLike_0 rfl ?_ | refine j_aload_nq (pc := 0) F dX2_isLike_0 rfl ?_
  refine j_get (pc := 1) F fg_X2_15 (by first | assumption | exact hUp_s) (by rfl) dX2_isLike_1 ?_
  first | refine j_aload_n (pc := 4) F dX2_isLike_4 rfl ?_ | refine j_aload_nq (pc := 4) F dX2_isLike_4 rfl ?_
  refine j_get (pc := 5) F fg_X2_15 (by first | assumption | exact hUp_s) (by rfl) dX2_isLike_5 ?_
  first | refine j_icmp_eqN (pc := 8) F 13 dX2_isLike_8 (by decide) (by omega) (by omega) (fun c => ?_) (fun c => ?_) | refine j_icmp_eqIN (pc := 8) F 13 dX2_isLike_8 (by decide) (by omega) (fun c => ?_) (fun c => ?_) | refine j_icmp_eqNI (pc := 8) F 13 dX2_isLike_8 (by decide) (by omega) (fun c => ?_) (fun c => ?_) | refine j_icmp_eq (pc := 8) F 13 dX2_isLike_8 (by decide) (fun c => ?_) (fun c => ?_)
  · subst c
    refine j_iconst (pc := 13) (v := (nI 0)) F dX2_isLike_13 (by decide) ?_
    refine j_istore_n (pc := 14) F dX2_isLike_14 (by decide) ?_
    have loop : ∀ m i, z < i + m → i ≤ z → (∀ j, j < i → N j = N2 j) → J l X g A 3 0 0 h 15 [(0, .ref p), (1, .ref p2), (2, .int (nI i))] [] := by
      intro m
      induction m with
      | zero => intro i q1 q2; omega
      | succ m ih =>
        intro i q1 q2 q3
        refine j_iload_n (pc := 15) F dX2_isLike_15 rfl ?_
        first | refine j_aload_n (pc := 16) F dX2_isLike_16 rfl ?_ | refine j_aload_nq (pc := 16) F dX2_isLike_16 rfl ?_
        refine j_get (pc := 17) F fg_X2_15 (by first | assumption | exact hUp_s) (by rfl) dX2_isLike_17 ?_
        first | refine j_icmp_geN (pc := 20) F 44 dX2_isLike_20 (by decide) (by omega) (by omega) (fun c3 => ?_) (fun c3 => ?_) | refine j_icmp_geIN (pc := 20) F 44 dX2_isLike_20 (by decide) (by omega) (fun c3 => ?_) (fun c3 => ?_) | refine j_icmp_geNI (pc := 20) F 44 dX2_isLike_20 (by decide) (by omega) (fun c3 => ?_) (fun c3 => ?_) | refine j_icmp_geI (pc := 20) F 44 dX2_isLike_20 (by decide) (fun c3 => ?_) (fun c3 => ?_)
        · refine j_iconst (pc := 44) (v := (nI 1)) F dX2_isLike_44 (by decide) ?_
          refine j_iret F hQ rfl rfl (by omega) (by omega) dX2_isLike_45 ⟨?_, rfl⟩
          rw [pLike, decide_eq_true]
          · rfl
          · exact ⟨rfl, fun j hj => q3 j (by omega)⟩
        · first | refine j_aload_n (pc := 23) F dX2_isLike_23 rfl ?_ | refine j_aload_nq (pc := 23) F dX2_isLike_23 rfl ?_
          refine j_iload_n (pc := 24) F dX2_isLike_24 rfl ?_
          refine j_ri (j_runV (pc := 25) F (c_X2_networkAt hp0) m_X2_networkAt mv_X2_networkAt lk_X2_19 (by first | assumption | exact hUp_s) rfl ⟨by decide, by decide⟩ (Nat.le_of_ble_eq_true rfl) ⟨by omega, by omega⟩ rfl dX2_isLike_25) (fun r h3 hp3 => ?_)
          obtain ⟨rfl, rfl⟩ := hp3
          refine j_int (pAt_i hz (by omega)) ?_
          first | refine j_aload_n (pc := 28) F dX2_isLike_28 rfl ?_ | refine j_aload_nq (pc := 28) F dX2_isLike_28 rfl ?_
          refine j_iload_n (pc := 29) F dX2_isLike_29 rfl ?_
          refine j_ri (j_runV (pc := 30) F (c_X2_networkAt hp20) m_X2_networkAt mv_X2_networkAt lk_X2_19 (by first | assumption | exact hUp_s) rfl ⟨by decide, by decide⟩ (Nat.le_of_ble_eq_true rfl) ⟨by omega, by omega⟩ rfl dX2_isLike_30) (fun r h4 hp4 => ?_)
          obtain ⟨rfl, rfl⟩ := hp4
          refine j_int (pAt_i hz2 (by omega)) ?_
          have b1 := hb i (by omega)
          have b2 := hb2 i (by omega)
          first | refine j_icmp_eqN (pc := 33) F 38 dX2_isLike_33 (by decide) (by omega) (by omega) (fun c4 => ?_) (fun c4 => ?_) | refine j_icmp_eqIN (pc := 33) F 38 dX2_isLike_33 (by decide) (by omega) (fun c4 => ?_) (fun c4 => ?_) | refine j_icmp_eqNI (pc := 33) F 38 dX2_isLike_33 (by decide) (by omega) (fun c4 => ?_) (fun c4 => ?_) | refine j_icmp_eq (pc := 33) F 38 dX2_isLike_33 (by decide) (fun c4 => ?_) (fun c4 => ?_)
          · first | refine j_iincN (pc := 38) F dX2_isLike_38 rfl (by decide) ?_ | refine j_iincM (pc := 38) F dX2_isLike_38 rfl (by decide) ?_ | refine j_iinc (pc := 38) F dX2_isLike_38 rfl rfl (by decide) ?_
            refine j_goto (pc := 41) F 15 dX2_isLike_41 (by decide) ?_
            refine j_lv [(0, .ref p), (1, .ref p2), (2, .int (nI (i + 1)))] ⟨rfl, rfl, rfl, trivial⟩ ?_
            refine ih (i + 1) (by omega) (by omega) (fun j hj => ?_)
            rcases Nat.lt_or_ge j i with z1 | z1
            · exact q3 j z1
            · rw [show j = i by omega]; exact c4
          · refine j_iconst (pc := 36) (v := (nI 0)) F dX2_isLike_36 (by decide) ?_
            refine j_iret F hQ rfl rfl (by omega) (by omega) dX2_isLike_37 ⟨?_, rfl⟩
            rw [pLike, decide_eq_false]
            · rfl
            · rintro ⟨-, z1⟩
              exact c4 (z1 i (by omega))
    refine j_lv [(0, .ref p), (1, .ref p2), (2, .int (nI 0))] ⟨rfl, rfl, rfl, trivial⟩ ?_
    exact loop (z + 1) 0 (by omega) (by omega) (fun j hj => by omega)
  · refine j_iconst (pc := 11) (v := (nI 0)) F dX2_isLike_11 (by decide) ?_
    refine j_iret F hQ rfl rfl (by omega) (by omega) dX2_isLike_12 ⟨?_, rfl⟩
    rw [pLike, decide_eq_false]
    · rfl
    · rintro ⟨z1, -⟩
      exact c z1
end PATH
