/-! ===== BgpreplayModel: its static methods ===== -/
theorem po_ok : ∀ b, b < 9 → ∀ a, a < 256 → ((nI 1 <<< (nI b &&& 31)) ||| (nI a >>> ((nI 8 - nI b) &&& 31))) = nI (pnN a b) := by decide +kernel
section MS
variable {l : Launch} {g : GG} {A : Nat → Prop} {h : HF}
theorem c_X9_in (x a b : Int32) : MI l g A h yX9_in cX9_in 3 (some .boolean) 0 0 0 [.int x, .int a, .int b] (fun r h1 => r = bI (decide (a.toInt ≤ x.toInt ∧ x.toInt ≤ b.toInt)) ∧ h1 = h) := by
  refine j_met (by decide +kernel) (Nat.le_of_ble_eq_true rfl) (fun X F hn hQ => ?_)
  refine j_iload_n (pc := 0) F dX9_in_0 rfl ?_
  refine j_iload_n (pc := 1) F dX9_in_1 rfl ?_
  refine j_icmp_ltI (pc := 2) F 14 dX9_in_2 (by decide) (fun c => ?_) (fun c => ?_)
  · refine j_iconst (pc := 14) (v := (nI 0)) F dX9_in_14 (by decide) ?_
    exact j_iret F hQ rfl rfl (by omega) (by omega) dX9_in_15 ⟨by rw [decide_eq_false (by omega)]; rfl, rfl⟩
  · refine j_iload_n (pc := 5) F dX9_in_5 rfl ?_
    refine j_iload_n (pc := 6) F dX9_in_6 rfl ?_
    refine j_icmp_gtI (pc := 7) F 14 dX9_in_7 (by decide) (fun c2 => ?_) (fun c2 => ?_)
    · refine j_iconst (pc := 14) (v := (nI 0)) F dX9_in_14 (by decide) ?_
      exact j_iret F hQ rfl rfl (by omega) (by omega) dX9_in_15 ⟨by rw [decide_eq_false (by omega)]; rfl, rfl⟩
    · refine j_iconst (pc := 10) (v := (nI 1)) F dX9_in_10 (by decide) ?_
      refine j_goto (pc := 11) F 15 dX9_in_11 (by decide) ?_
      exact j_iret F hQ rfl rfl (by omega) (by omega) dX9_in_15 ⟨by rw [decide_eq_true (by omega)]; rfl, rfl⟩
theorem inN {x : Int32} {a b : Nat} (ha : a < 2 ^ 31) (hb : b < 2 ^ 31) : decide ((nI a).toInt ≤ x.toInt ∧ x.toInt ≤ (nI b).toInt) = decide ((a : Int) ≤ x.toInt ∧ x.toInt ≤ b) := by rw [nI_toInt ha, nI_toInt hb]
theorem c_X9_isPeer (x : Int32) : MI l g A h yX9_isPeer cX9_isPeer 1 (some .boolean) 1 0 0 [.int x] (fun r h1 => r = bI (okPeer x) ∧ h1 = h) := by
  refine j_met (by decide +kernel) (Nat.le_of_ble_eq_true rfl) (fun X F hn hQ => ?_)
  refine j_iload_n (pc := 0) F dX9_isPeer_0 rfl ?_
  refine j_iconst (pc := 1) (v := (nI 0)) F dX9_isPeer_1 (by decide) ?_
  refine j_iconst (pc := 2) (v := (nI 5)) F dX9_isPeer_2 (by decide) ?_
  refine j_ri (j_runS (pc := 3) F (c_X9_in _ _ _) m_X9_in ms_X9_in lk_X9_51 ⟨by decide, by decide⟩ (Nat.le_of_ble_eq_true rfl) ⟨by omega, by omega⟩ rfl dX9_isPeer_3) (fun r h1 hp => ?_)
  obtain ⟨rfl, rfl⟩ := hp
  refine j_iret F hQ rfl (bI_n _) (by omega) (by omega) dX9_isPeer_6 ⟨congrArg bI ?_, rfl⟩
  rw [inN (by decide) (by decide), okPeer]
  exact decide_eq_decide.mpr (by omega)
theorem c_X9_isPrefix (x y : Int32) : MI l g A h yX9_isPrefix cX9_isPrefix 2 (some .boolean) 1 0 0 [.int x, .int y] (fun r h1 => r = bI (okPfx x y) ∧ h1 = h) := by
  refine j_met (by decide +kernel) (Nat.le_of_ble_eq_true rfl) (fun X F hn hQ => ?_)
  refine j_iload_n (pc := 0) F dX9_isPrefix_0 rfl ?_
  refine j_iconst (pc := 1) (v := (nI 0)) F dX9_isPrefix_1 (by decide) ?_
  refine j_sipush (pc := 2) (v := (nI 255)) F dX9_isPrefix_2 (by decide) ?_
  refine j_ri (j_runS (pc := 5) F (c_X9_in _ _ _) m_X9_in ms_X9_in lk_X9_51 ⟨by decide, by decide⟩ (Nat.le_of_ble_eq_true rfl) ⟨by omega, by omega⟩ rfl dX9_isPrefix_5) (fun r h1 hp => ?_)
  obtain ⟨rfl, rfl⟩ := hp
  refine j_int (congrArg bI (inN (by decide) (by decide))) ?_
  first | refine j_if_eqB (pc := 8) F 38 dX9_isPrefix_8 (by decide) (fun c => ?_) (fun c => ?_) | refine j_if_eqN (pc := 8) F 38 dX9_isPrefix_8 (by decide) (by omega) (fun c => ?_) (fun c => ?_) | refine j_if_eqI (pc := 8) F 38 dX9_isPrefix_8 (by decide) (fun c => ?_) (fun c => ?_)
  · have c := of_decide_eq_false c
    refine j_iconst (pc := 38) (v := (nI 0)) F dX9_isPrefix_38 (by decide) ?_
    exact j_iret F hQ rfl rfl (by omega) (by omega) dX9_isPrefix_39 ⟨by rw [okPfx, decide_eq_false (fun z => c (by omega))]; rfl, rfl⟩
  · have c := of_decide_eq_true c
    refine j_iload_n (pc := 11) F dX9_isPrefix_11 rfl ?_
    refine j_iconst (pc := 12) (v := (nI 0)) F dX9_isPrefix_12 (by decide) ?_
    refine j_bipush (pc := 13) (v := (nI 8)) F dX9_isPrefix_13 (by decide) ?_
    refine j_ri (j_runS (pc := 15) F (c_X9_in _ _ _) m_X9_in ms_X9_in lk_X9_51 ⟨by decide, by decide⟩ (Nat.le_of_ble_eq_true rfl) ⟨by omega, by omega⟩ rfl dX9_isPrefix_15) (fun r h1 hp => ?_)
    obtain ⟨rfl, rfl⟩ := hp
    refine j_int (congrArg bI (inN (by decide) (by decide))) ?_
    first | refine j_if_eqB (pc := 18) F 38 dX9_isPrefix_18 (by decide) (fun c2 => ?_) (fun c2 => ?_) | refine j_if_eqN (pc := 18) F 38 dX9_isPrefix_18 (by decide) (by omega) (fun c2 => ?_) (fun c2 => ?_) | refine j_if_eqI (pc := 18) F 38 dX9_isPrefix_18 (by decide) (fun c2 => ?_) (fun c2 => ?_)
    · have c2 := of_decide_eq_false c2
      refine j_iconst (pc := 38) (v := (nI 0)) F dX9_isPrefix_38 (by decide) ?_
      exact j_iret F hQ rfl rfl (by omega) (by omega) dX9_isPrefix_39 ⟨by rw [okPfx, decide_eq_false (fun z => c2 (by omega))]; rfl, rfl⟩
    · have c2 := of_decide_eq_true c2
      refine j_iload_n (pc := 21) F dX9_isPrefix_21 rfl ?_
      refine j_iconst (pc := 22) (v := (nI 1)) F dX9_isPrefix_22 (by decide) ?_
      refine j_bipush (pc := 23) (v := (nI 8)) F dX9_isPrefix_23 (by decide) ?_
      refine j_iload_n (pc := 25) F dX9_isPrefix_25 rfl ?_
      refine j_isub (pc := 26) F dX9_isPrefix_26 ?_
      refine j_ishl (pc := 27) F dX9_isPrefix_27 ?_
      refine j_iconst (pc := 28) (v := (nI 1)) F dX9_isPrefix_28 (by decide) ?_
      refine j_isub (pc := 29) F dX9_isPrefix_29 ?_
      refine j_iand (pc := 30) F dX9_isPrefix_30 ?_
      refine j_if_ne (pc := 31) F 38 dX9_isPrefix_31 (by decide) (fun c3 => ?_) (fun c3 => ?_)
      · refine j_iconst (pc := 38) (v := (nI 0)) F dX9_isPrefix_38 (by decide) ?_
        exact j_iret F hQ rfl rfl (by omega) (by omega) dX9_isPrefix_39 ⟨by rw [okPfx, decide_eq_false (fun z => c3 z.2.2)]; rfl, rfl⟩
      · refine j_iconst (pc := 34) (v := (nI 1)) F dX9_isPrefix_34 (by decide) ?_
        refine j_goto (pc := 35) F 39 dX9_isPrefix_35 (by decide) ?_
        exact j_iret F hQ rfl rfl (by omega) (by omega) dX9_isPrefix_39 ⟨by rw [okPfx, decide_eq_true ⟨by omega, by omega, c3⟩]; rfl, rfl⟩
theorem c_X9_prefixOf {a b : Nat} (ha : a < 256) (hb : b ≤ 8) : MI l g A h yX9_prefixOf cX9_prefixOf 2 (some .int) 0 0 0 [.int (nI a), .int (nI b)] (fun r h1 => r = nI (pnN a b) ∧ h1 = h) := by
  refine j_met (by decide +kernel) (Nat.le_of_ble_eq_true rfl) (fun X F hn hQ => ?_)
  refine j_iconst (pc := 0) (v := (nI 1)) F dX9_prefixOf_0 (by decide) ?_
  refine j_iload_n (pc := 1) F dX9_prefixOf_1 rfl ?_
  refine j_ishl (pc := 2) F dX9_prefixOf_2 ?_
  refine j_iload_n (pc := 3) F dX9_prefixOf_3 rfl ?_
  refine j_bipush (pc := 4) (v := (nI 8)) F dX9_prefixOf_4 (by decide) ?_
  refine j_iload_n (pc := 6) F dX9_prefixOf_6 rfl ?_
  refine j_isub (pc := 7) F dX9_prefixOf_7 ?_
  refine j_ishr (pc := 8) F dX9_prefixOf_8 ?_
  refine j_ior (pc := 9) F dX9_prefixOf_9 ?_
  exact j_iret F hQ rfl rfl (by omega) (by omega) dX9_prefixOf_10 ⟨po_ok b (by omega) a ha, rfl⟩
theorem c_X9_prefixOfX {a b : Int32} (hk : okPfx a b = true) : MI l g A h yX9_prefixOf cX9_prefixOf 2 (some .int) 0 0 0 [.int a, .int b] (fun r h1 => r = nI (pqN a b) ∧ h1 = h) := by
  obtain ⟨m1, m2, m3, m4, m5, m6⟩ := okPfx.n hk
  have m7 : pN b ≤ 8 := by rw [m6]; exact log2_le m4.2
  have hc := c_X9_prefixOf (l := l) (g := g) (A := A) (h := h) m5 m7
  have m8 : b = nI (pN b) := by rw [m6]; exact m2
  rw [← m1, ← m8] at hc
  exact hc
theorem c_X9_placeOf {k p q : Nat} : MI l g A h yX9_placeOf cX9_placeOf 3 (some .int) 0 0 0 [.int (nI k), .int (nI p), .int (nI q)] (fun r h1 => r = nI (3072 * k + 512 * p + q) ∧ h1 = h) := by
  refine j_met (by decide +kernel) (Nat.le_of_ble_eq_true rfl) (fun X F hn hQ => ?_)
  refine j_sipush (pc := 0) (v := (nI 3072)) F dX9_placeOf_0 (by decide) ?_
  refine j_iload_n (pc := 3) F dX9_placeOf_3 rfl ?_
  first | refine j_imulN (pc := 4) F dX9_placeOf_4 ?_ | refine j_imul (pc := 4) F dX9_placeOf_4 ?_
  refine j_sipush (pc := 5) (v := (nI 512)) F dX9_placeOf_5 (by decide) ?_
  refine j_iload_n (pc := 8) F dX9_placeOf_8 rfl ?_
  first | refine j_imulN (pc := 9) F dX9_placeOf_9 ?_ | refine j_imul (pc := 9) F dX9_placeOf_9 ?_
  first | refine j_iaddN (pc := 10) F dX9_placeOf_10 ?_ | refine j_iadd (pc := 10) F dX9_placeOf_10 ?_
  refine j_iload_n (pc := 11) F dX9_placeOf_11 rfl ?_
  first | refine j_iaddN (pc := 12) F dX9_placeOf_12 ?_ | refine j_iadd (pc := 12) F dX9_placeOf_12 ?_
  exact j_iret F hQ rfl rfl (by omega) (by omega) dX9_placeOf_13 ⟨rfl, rfl⟩
theorem c_X9_lengthOf {q : Nat} (hq : 1 ≤ q ∧ q < 512) : MI l g A h yX9_lengthOf cX9_lengthOf 2 (some .int) 0 0 0 [.int (nI q)] (fun r h1 => r = nI (Nat.log2 q) ∧ h1 = h) := by
  have hl := log2_le hq.2
  refine j_met (by decide +kernel) (Nat.le_of_ble_eq_true rfl) (fun X F hn hQ => ?_)
  refine j_iconst (pc := 0) (v := (nI 0)) F dX9_lengthOf_0 (by decide) ?_
  refine j_istore_n (pc := 1) F dX9_lengthOf_1 (by decide) ?_
  have loop : ∀ m i (lv : List (Nat × Value)), Nat.log2 q < i + m → i ≤ Nat.log2 q → lall lv [(0, .int (nI q)), (1, .int (nI i))] → J l X g A 2 0 0 h 2 lv [] := by
    intro m
    induction m with
    | zero => intro i lv q1 q2; omega
    | succ m ih =>
      intro i lv q1 q2 q3
      refine j_lv _ q3 ?_
      refine j_iload_n (pc := 2) F dX9_lengthOf_2 rfl ?_
      refine j_iload_n (pc := 3) F dX9_lengthOf_3 rfl ?_
      refine j_ishr (pc := 4) F dX9_lengthOf_4 ?_
      refine j_int (pk_shrN (by omega) _ i (sh_ok _ (by omega))) ?_
      have hd : q / 2 ^ i ≤ q := Nat.div_le_self _ _
      refine j_iconst (pc := 5) (v := (nI 1)) F dX9_lengthOf_5 (by decide) ?_
      first | refine j_icmp_leN (pc := 6) F 15 dX9_lengthOf_6 (by decide) (by omega) (by omega) (fun c => ?_) (fun c => ?_) | refine j_icmp_leIN (pc := 6) F 15 dX9_lengthOf_6 (by decide) (by omega) (fun c => ?_) (fun c => ?_) | refine j_icmp_leNI (pc := 6) F 15 dX9_lengthOf_6 (by decide) (by omega) (fun c => ?_) (fun c => ?_) | refine j_icmp_leI (pc := 6) F 15 dX9_lengthOf_6 (by decide) (fun c => ?_) (fun c => ?_)
      · have : i = Nat.log2 q := by
          apply Nat.le_antisymm q2
          have h1 : q < 2 ^ (i + 1) := by
            rw [Nat.pow_succ]
            have := Nat.lt_mul_div_succ q (show 0 < 2 ^ i from Nat.pow_pos (by decide))
            have h2 : 2 ^ i * (q / 2 ^ i + 1) ≤ 2 ^ i * 2 := Nat.mul_le_mul_left _ (by omega)
            omega
          have := (Nat.log2_lt (by omega)).mpr h1
          omega
        subst this
        refine j_iload_n (pc := 15) F dX9_lengthOf_15 rfl ?_
        exact j_iret F hQ rfl rfl (by omega) (by omega) dX9_lengthOf_16 ⟨rfl, rfl⟩
      · have : i < Nat.log2 q := by
          have h1 : 2 ^ (i + 1) ≤ q := by
            rw [Nat.pow_succ]
            have := Nat.mul_div_le q (2 ^ i)
            have h2 : 2 ^ i * 2 ≤ 2 ^ i * (q / 2 ^ i) := Nat.mul_le_mul_left _ (by omega)
            omega
          have := (Nat.le_log2 (show q ≠ 0 by omega)).mpr h1
          omega
        first | refine j_iincN (pc := 9) F dX9_lengthOf_9 rfl (by decide) ?_ | refine j_iincM (pc := 9) F dX9_lengthOf_9 rfl (by decide) ?_ | refine j_iinc (pc := 9) F dX9_lengthOf_9 rfl rfl (by decide) ?_
        refine j_goto (pc := 12) F 2 dX9_lengthOf_12 (by decide) ?_
        exact ih (i + 1) _ (by omega) (by omega) ⟨rfl, rfl, trivial⟩
  exact loop (Nat.log2 q + 1) 0 _ (by omega) (Nat.zero_le _) ⟨rfl, rfl, trivial⟩
theorem c_X9_covers {q q2 : Nat} (hq : 1 ≤ q ∧ q < 512) (hq2 : 1 ≤ q2 ∧ q2 < 512) : MI l g A h yX9_covers cX9_covers 3 (some .boolean) 1 0 0 [.int (nI q), .int (nI q2)] (fun r h1 => r = bI (cov q (Nat.log2 q) q2 (Nat.log2 q2)) ∧ h1 = h) := by
  have hl := log2_le hq.2
  have hl2 := log2_le hq2.2
  refine j_met (by decide +kernel) (Nat.le_of_ble_eq_true rfl) (fun X F hn hQ => ?_)
  refine j_iload_n (pc := 0) F dX9_covers_0 rfl ?_
  refine j_ri (j_runS (pc := 1) F (c_X9_lengthOf hq2) m_X9_lengthOf ms_X9_lengthOf lk_X9_102 ⟨by decide, by decide⟩ (Nat.le_of_ble_eq_true rfl) ⟨by omega, by omega⟩ rfl dX9_covers_1) (fun r h1 hp => ?_)
  obtain ⟨rfl, rfl⟩ := hp
  refine j_iload_n (pc := 4) F dX9_covers_4 rfl ?_
  refine j_ri (j_runS (pc := 5) F (c_X9_lengthOf hq) m_X9_lengthOf ms_X9_lengthOf lk_X9_102 ⟨by decide, by decide⟩ (Nat.le_of_ble_eq_true rfl) ⟨by omega, by omega⟩ rfl dX9_covers_5) (fun r h1 hp => ?_)
  obtain ⟨rfl, rfl⟩ := hp
  by_cases c : Nat.log2 q ≤ Nat.log2 q2
  · first | refine j_isubN (pc := 8) F dX9_covers_8 (by omega) ?_ | refine j_isub (pc := 8) F dX9_covers_8 ?_
    refine j_istore_n (pc := 9) F dX9_covers_9 (by decide) ?_
    refine j_iload_n (pc := 10) F dX9_covers_10 rfl ?_
    first | refine j_if_ltN (pc := 11) F 25 dX9_covers_11 (by decide) (by omega) (fun c2 => ?_) (fun c2 => ?_) | refine j_if_ltI (pc := 11) F 25 dX9_covers_11 (by decide) (fun c2 => ?_) (fun c2 => ?_)
    · omega
    · refine j_iload_n (pc := 14) F dX9_covers_14 rfl ?_
      refine j_iload_n (pc := 15) F dX9_covers_15 rfl ?_
      refine j_ishr (pc := 16) F dX9_covers_16 ?_
      refine j_int (pk_shrN (by omega) _ (Nat.log2 q2 - Nat.log2 q) (sh_ok _ (by omega))) ?_
      have hd : q2 / 2 ^ (Nat.log2 q2 - Nat.log2 q) ≤ q2 := Nat.div_le_self _ _
      refine j_iload_n (pc := 17) F dX9_covers_17 rfl ?_
      first | refine j_icmp_neN (pc := 18) F 25 dX9_covers_18 (by decide) (by omega) (by omega) (fun c3 => ?_) (fun c3 => ?_) | refine j_icmp_neIN (pc := 18) F 25 dX9_covers_18 (by decide) (by omega) (fun c3 => ?_) (fun c3 => ?_) | refine j_icmp_neNI (pc := 18) F 25 dX9_covers_18 (by decide) (by omega) (fun c3 => ?_) (fun c3 => ?_) | refine j_icmp_ne (pc := 18) F 25 dX9_covers_18 (by decide) (fun c3 => ?_) (fun c3 => ?_)
      · refine j_iconst (pc := 25) (v := (nI 0)) F dX9_covers_25 (by decide) ?_
        exact j_iret F hQ rfl rfl (by omega) (by omega) dX9_covers_26 ⟨by rw [cov, decide_eq_false (by omega)]; rfl, rfl⟩
      · refine j_iconst (pc := 21) (v := (nI 1)) F dX9_covers_21 (by decide) ?_
        refine j_goto (pc := 22) F 26 dX9_covers_22 (by decide) ?_
        exact j_iret F hQ rfl rfl (by omega) (by omega) dX9_covers_26 ⟨by rw [cov, decide_eq_true (by omega)]; rfl, rfl⟩
  · refine j_isub (pc := 8) F dX9_covers_8 ?_
    have e : (nI (Nat.log2 q2) - nI (Nat.log2 q)).toInt < 0 := by
      have : ∀ a, a < 9 → ∀ b, b < 9 → a < b → (nI a - nI b).toInt < 0 := by decide +kernel
      exact this _ (by omega) _ (by omega) (by omega)
    refine j_istore_n (pc := 9) F dX9_covers_9 (by decide) ?_
    refine j_iload_n (pc := 10) F dX9_covers_10 rfl ?_
    first | refine j_if_ltN (pc := 11) F 25 dX9_covers_11 (by decide) (by omega) (fun c2 => ?_) (fun c2 => ?_) | refine j_if_ltI (pc := 11) F 25 dX9_covers_11 (by decide) (fun c2 => ?_) (fun c2 => ?_)
    · refine j_iconst (pc := 25) (v := (nI 0)) F dX9_covers_25 (by decide) ?_
      exact j_iret F hQ rfl rfl (by omega) (by omega) dX9_covers_26 ⟨by rw [cov, decide_eq_false (fun z => c z.1)]; rfl, rfl⟩
    · omega
end MS
