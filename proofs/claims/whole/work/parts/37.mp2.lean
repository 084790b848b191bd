theorem wf.Z {s : SG} (w : wf s) : ∀ u, u < sm s → (sD s).2.2.1 u < 2 ^ 31 := fun u hu => by have := (w.2.2.1.2.2.2 u hu).2.2.1; omega
theorem fndp_lt {D : UD} {n a k : Nat} (ha : a < 256) (hk : k ≤ 9) : fndp D n a k = 0 ∨ (1 ≤ fndp D n a k ∧ fndp D n a k < 512) := by
  rcases fndp_at (D := D) (n := n) (a := a) (k := k) with ⟨h1, -⟩ | ⟨i, h1, h2, -⟩
  · exact Or.inl h1
  · rw [h2]; exact Or.inr (pnN_in ha (by omega))
/-- how many origins -/
def dcnt (O : Nat → Nat) (c : Nat → Option Nat) : Nat → Nat
  | 0 => 0
  | n + 1 => match c n with
    | none => dcnt O c n
    | some u => if (obits O c n).testBit (O u) = true then dcnt O c n else dcnt O c n + 1
theorem cnt_sh {f : Nat → Bool} (h : f 0 = false) : ∀ n, cnt f (n + 1) = cnt (fun j => f (j + 1)) n
  | 0 => by simp [cnt, h]
  | n + 1 => by rw [cnt, cnt_sh h n]; rfl
theorem two_and {n j : Nat} : n &&& 2 ^ j = if n.testBit j = true then 2 ^ j else 0 := by
  apply Nat.eq_of_testBit_eq
  intro i
  rw [Nat.testBit_and, Nat.testBit_two_pow]
  by_cases c : j = i
  · subst c
    cases e : n.testBit j <;> simp [Nat.testBit_two_pow]
  · cases e : n.testBit j <;> simp [c, Nat.testBit_two_pow]
section MP2
variable {l : Launch} {g : GG} {A : Nat → Prop} {h h1 : HF} {y : Nat} {s s' : SG} {th th' : Nat} {a : Nat → Nat} {CC CC' : CT}
theorem c_X9_found {k n b : Nat} (hk : k < 3) (hb : b < 256) (w : wf s) (hn3 : n ≤ sm s) (hC : ∀ p q, p < 6 → q < 512 → CC k p q = tb (sD s) n p q) (z : isMx g h y s th a CC) : MI l g A h yX9_found cX9_found 4 (some .int) 2 0 0 [.ref y, .int (nI k), .int (nI b)] (fun r h1 => r = nI (fndp (sD s) n b 9) ∧ h1 = h) := by
  have e0 := z.cl
  refine j_met (by decide +kernel) (Nat.le_of_ble_eq_true rfl) (fun X F hn hQ => ?_)
  refine j_bipush (pc := 0) (v := (nI 8)) F dX9_found_0 (by decide) ?_
  refine j_istore_n (pc := 2) F dX9_found_2 (by decide) ?_
  have loop : ∀ i (lv : List (Nat × Value)), i ≤ 9 → fndp (sD s) n b 9 = fndp (sD s) n b i → lall lv [(0, .ref y), (1, .int (nI k)), (2, .int (nI b)), (3, .int (nI i - 1))] → J l X g A 4 0 0 h 3 lv [] := by
    intro i
    induction i with
    | zero =>
      intro lv q1 q2 q3
      refine j_lv _ q3 ?_
      refine j_iload_n (pc := 3) F dX9_found_3 rfl ?_
      first | refine j_if_ltN (pc := 4) F 33 dX9_found_4 (by decide) (by omega) (fun c => ?_) (fun c => ?_) | refine j_if_ltI (pc := 4) F 33 dX9_found_4 (by decide) (fun c => ?_) (fun c => ?_)
      · refine j_iconst (pc := 33) (v := (nI 0)) F dX9_found_33 (by decide) ?_
        exact j_iret F hQ rfl rfl (by omega) (by omega) dX9_found_34 ⟨by rw [q2]; rfl, rfl⟩
      · exfalso
        have e : (nI 0 - 1).toInt = -1 := by decide
        omega
    | succ i ih =>
      intro lv q1 q2 q3
      have e1 : nI (i + 1) - 1 = nI i := pk_sub (show 1 ≤ i + 1 by omega)
      rw [e1] at q3
      refine j_lv _ q3 ?_
      have hpl := pnN_in hb (show i ≤ 8 by omega)
      refine j_iload_n (pc := 3) F dX9_found_3 rfl ?_
      first | refine j_if_ltN (pc := 4) F 33 dX9_found_4 (by decide) (by omega) (fun c => ?_) (fun c => ?_) | refine j_if_ltI (pc := 4) F 33 dX9_found_4 (by decide) (fun c => ?_) (fun c => ?_)
      · omega
      · first | refine j_aload_n (pc := 7) F dX9_found_7 rfl ?_ | refine j_aload_nq (pc := 7) F dX9_found_7 rfl ?_
        refine j_iload_n (pc := 8) F dX9_found_8 rfl ?_
        refine j_iload_n (pc := 9) F dX9_found_9 rfl ?_
        refine j_iload_n (pc := 10) F dX9_found_10 rfl ?_
        refine j_ri (j_runS (pc := 11) F (c_X9_prefixOf hb (show i ≤ 8 by omega)) m_X9_prefixOf ms_X9_prefixOf lk_X9_66 ⟨by decide, by decide⟩ (Nat.le_of_ble_eq_true rfl) ⟨by omega, by omega⟩ rfl dX9_found_11) (fun r h3 hp => ?_)
        obtain ⟨rfl, rfl⟩ := hp
        refine j_ri (j_runV (pc := 14) F (c_X9_best hk hpl.2 hn3 w.2.2.1.1 w.Z (fun p hp => hC p _ hp hpl.2) z) m_X9_best mv_X9_best lk_X9_70 (by first | assumption | exact hUp_s) rfl ⟨by decide, by decide⟩ (Nat.le_of_ble_eq_true rfl) ⟨by omega, by omega⟩ rfl dX9_found_14) (fun r h4 hp => ?_)
        obtain ⟨rfl, rfl⟩ := hp
        cases hb2 : bstT (sD s) n (pnN b i) with
        | none =>
          refine j_iconst (pc := 17) (v := (-1)) F dX9_found_17 (by decide) ?_
          refine j_icmp_eq (pc := 18) F 27 dX9_found_18 (by decide) (fun c2 => ?_) (fun c2 => ?_)
          · refine j_iinc (pc := 27) F dX9_found_27 rfl (show nI i + Int32.ofInt (-1) = nI i - 1 from ?_) (by decide) ?_
            · rw [Int32.sub_eq_add_neg]; rfl
            refine j_goto (pc := 30) F 3 dX9_found_30 (by decide) ?_
            refine ih _ (by omega) ?_ ⟨rfl, rfl, rfl, rfl, trivial⟩
            rw [q2, fndp, if_neg (by rw [hb2]; simp)]
          · exact absurd rfl c2
        | some u =>
          obtain ⟨p, hp, hu⟩ := bst_in hb2
          have := (tb_lt hu).1
          have := w.2.2.1.1
          refine j_iconst (pc := 17) (v := (-1)) F dX9_found_17 (by decide) ?_
          refine j_icmp_eq (pc := 18) F 27 dX9_found_18 (by decide) (fun c2 => ?_) (fun c2 => ?_)
          · exact absurd c2 (oI_m1 (by omega))
          · refine j_iload_n (pc := 21) F dX9_found_21 rfl ?_
            refine j_iload_n (pc := 22) F dX9_found_22 rfl ?_
            refine j_ri (j_runS (pc := 23) F (c_X9_prefixOf hb (show i ≤ 8 by omega)) m_X9_prefixOf ms_X9_prefixOf lk_X9_66 ⟨by decide, by decide⟩ (Nat.le_of_ble_eq_true rfl) ⟨by omega, by omega⟩ rfl dX9_found_23) (fun r h5 hp => ?_)
            obtain ⟨rfl, rfl⟩ := hp
            exact j_iret F hQ rfl rfl (by omega) (by omega) dX9_found_26 ⟨by rw [q2, fndp, if_pos (by rw [hb2]; rfl)], rfl⟩
  exact loop 9 _ (Nat.le_refl _) rfl ⟨rfl, rfl, rfl, rfl, trivial⟩
theorem c_X9_lengthFound {k n b : Nat} (hk : k < 3) (hb : b < 256) (w : wf s) (hn3 : n ≤ sm s) (hC : ∀ p q, p < 6 → q < 512 → CC k p q = tb (sD s) n p q) (z : isMx g h y s th a CC) : MI l g A h yX9_lengthFound cX9_lengthFound 4 (some .int) 3 0 0 [.ref y, .int (nI k), .int (nI b)] (fun r h1 => r = lenF (fndp (sD s) n b 9) ∧ h1 = h) := by
  have e0 := z.cl
  refine j_met (by decide +kernel) (Nat.le_of_ble_eq_true rfl) (fun X F hn hQ => ?_)
  first | refine j_aload_n (pc := 0) F dX9_lengthFound_0 rfl ?_ | refine j_aload_nq (pc := 0) F dX9_lengthFound_0 rfl ?_
  refine j_iload_n (pc := 1) F dX9_lengthFound_1 rfl ?_
  refine j_iload_n (pc := 2) F dX9_lengthFound_2 rfl ?_
  refine j_ri (j_runV (pc := 3) F (c_X9_found hk hb w hn3 hC z) m_X9_found mv_X9_found lk_X9_99 (by first | assumption | exact hUp_s) rfl ⟨by decide, by decide⟩ (Nat.le_of_ble_eq_true rfl) ⟨by omega, by omega⟩ rfl dX9_lengthFound_3) (fun r h1 hp => ?_)
  obtain ⟨rfl, rfl⟩ := hp
  have hl := fndp_lt (D := sD s) (n := n) hb (Nat.le_refl 9)
  refine j_istore_n (pc := 6) F dX9_lengthFound_6 (by decide) ?_
  refine j_iload_n (pc := 7) F dX9_lengthFound_7 rfl ?_
  first | refine j_if_neB (pc := 8) F 15 dX9_lengthFound_8 (by decide) (fun c => ?_) (fun c => ?_) | refine j_if_neN (pc := 8) F 15 dX9_lengthFound_8 (by decide) (by omega) (fun c => ?_) (fun c => ?_) | refine j_if_neI (pc := 8) F 15 dX9_lengthFound_8 (by decide) (fun c => ?_) (fun c => ?_)
  · refine j_iload_n (pc := 15) F dX9_lengthFound_15 rfl ?_
    refine j_ri (j_runS (pc := 16) F (c_X9_lengthOf (show 1 ≤ fndp (sD s) n b 9 ∧ fndp (sD s) n b 9 < 512 by omega)) m_X9_lengthOf ms_X9_lengthOf lk_X9_102 ⟨by decide, by decide⟩ (Nat.le_of_ble_eq_true rfl) ⟨by omega, by omega⟩ rfl dX9_lengthFound_16) (fun r h3 hp => ?_)
    obtain ⟨rfl, rfl⟩ := hp
    exact j_iret F hQ rfl rfl (by omega) (by omega) dX9_lengthFound_19 ⟨by rw [lenF, if_neg c], rfl⟩
  · refine j_iconst (pc := 11) (v := (-1)) F dX9_lengthFound_11 (by decide) ?_
    refine j_goto (pc := 12) F 19 dX9_lengthFound_12 (by decide) ?_
    exact j_iret F hQ rfl rfl (by omega) (by omega) dX9_lengthFound_19 ⟨by rw [lenF, if_pos c], rfl⟩
theorem c_X9_routesOf {p n : Nat} (hp6 : p < 6) (hn3 : n ≤ 300) (hC : ∀ q, q < 512 → CC 0 p q = tb (sD s) n p q) (z : isMx g h y s th a CC) : MI l g A h yX9_routesOf cX9_routesOf 4 (some .int) 1 0 0 [.ref y, .int (nI p)] (fun r h1 => r = nI (cntP (tb (sD s) n) p) ∧ h1 = h) := by
  have e0 := z.cl
  obtain ⟨f9, q9, p9⟩ := z.a9
  refine j_met (by decide +kernel) (Nat.le_of_ble_eq_true rfl) (fun X F hn hQ => ?_)
  refine j_iconst (pc := 0) (v := (nI 0)) F dX9_routesOf_0 (by decide) ?_
  refine j_istore_n (pc := 1) F dX9_routesOf_1 (by decide) ?_
  refine j_iconst (pc := 2) (v := (nI 1)) F dX9_routesOf_2 (by decide) ?_
  refine j_istore_n (pc := 3) F dX9_routesOf_3 (by decide) ?_
  have loop : ∀ m i (lv : List (Nat × Value)), 512 < i + m → 1 ≤ i → i ≤ 512 → lall lv [(0, .ref y), (1, .int (nI p)), (2, .int (nI (cnt (fun q => (tb (sD s) n p q).isSome) i))), (3, .int (nI i))] → J l X g A 4 0 0 h 4 lv [] := by
    intro m
    induction m with
    | zero => intro i lv w1 w2 w2'; omega
    | succ m ih =>
      intro i lv w1 w2 w2' w3
      refine j_lv _ w3 ?_
      refine j_iload_n (pc := 4) F dX9_routesOf_4 rfl ?_
      refine j_sipush (pc := 5) (v := (nI 512)) F dX9_routesOf_5 (by decide) ?_
      first | refine j_icmp_geN (pc := 8) F 40 dX9_routesOf_8 (by decide) (by omega) (by omega) (fun c => ?_) (fun c => ?_) | refine j_icmp_geIN (pc := 8) F 40 dX9_routesOf_8 (by decide) (by omega) (fun c => ?_) (fun c => ?_) | refine j_icmp_geNI (pc := 8) F 40 dX9_routesOf_8 (by decide) (by omega) (fun c => ?_) (fun c => ?_) | refine j_icmp_geI (pc := 8) F 40 dX9_routesOf_8 (by decide) (fun c => ?_) (fun c => ?_)
      · have : i = 512 := by omega
        subst this
        refine j_iload_n (pc := 40) F dX9_routesOf_40 rfl ?_
        exact j_iret F hQ rfl rfl (by omega) (by omega) dX9_routesOf_41 ⟨rfl, rfl⟩
      · refine j_iload_n (pc := 11) F dX9_routesOf_11 rfl ?_
        first | refine j_aload_n (pc := 12) F dX9_routesOf_12 rfl ?_ | refine j_aload_nq (pc := 12) F dX9_routesOf_12 rfl ?_
        refine j_get (pc := 13) F fg_X9_28 (by first | assumption | exact hUp_s) (by rfl) dX9_routesOf_13 ?_
        refine j_iconst (pc := 16) (v := (nI 0)) F dX9_routesOf_16 (by decide) ?_
        refine j_iload_n (pc := 17) F dX9_routesOf_17 rfl ?_
        refine j_iload_n (pc := 18) F dX9_routesOf_18 rfl ?_
        refine j_ri (j_runS (pc := 19) F (c_X9_placeOf) m_X9_placeOf ms_X9_placeOf lk_X9_55 ⟨by decide, by decide⟩ (Nat.le_of_ble_eq_true rfl) ⟨by omega, by omega⟩ rfl dX9_routesOf_19) (fun r h3 hp => ?_)
        obtain ⟨rfl, rfl⟩ := hp
        refine j_ialdN (pc := 22) F (by first | assumption | exact hUp_s) (by omega) (by decide) dX9_routesOf_22 ?_
        refine j_int ((p9 0 p i (by omega) hp6 (by omega)).trans (congrArg oI (hC i (by omega)))) ?_
        cases hc : tb (sD s) n p i with
        | none =>
          refine j_iconst (pc := 23) (v := (-1)) F dX9_routesOf_23 (by decide) ?_
          refine j_icmp_ne (pc := 24) F 31 dX9_routesOf_24 (by decide) (fun c2 => ?_) (fun c2 => ?_)
          · exact absurd rfl c2
          · refine j_iconst (pc := 27) (v := (nI 0)) F dX9_routesOf_27 (by decide) ?_
            refine j_goto (pc := 28) F 32 dX9_routesOf_28 (by decide) ?_
            first | refine j_iaddN (pc := 32) F dX9_routesOf_32 ?_ | refine j_iadd (pc := 32) F dX9_routesOf_32 ?_
            refine j_istore_n (pc := 33) F dX9_routesOf_33 (by decide) ?_
            first | refine j_iincN (pc := 34) F dX9_routesOf_34 rfl (by decide) ?_ | refine j_iincM (pc := 34) F dX9_routesOf_34 rfl (by decide) ?_ | refine j_iinc (pc := 34) F dX9_routesOf_34 rfl rfl (by decide) ?_
            refine j_goto (pc := 37) F 4 dX9_routesOf_37 (by decide) ?_
            refine ih (i + 1) _ (by omega) (by omega) (by omega) ⟨rfl, rfl, ?_, rfl, trivial⟩
            rw [show cnt (fun q => (tb (sD s) n p q).isSome) (i + 1) = cnt (fun q => (tb (sD s) n p q).isSome) i + 0 by rw [cnt, if_neg (by rw [hc]; simp)]]
            rfl
        | some u =>
          have hu := (tb_lt hc).1
          refine j_iconst (pc := 23) (v := (-1)) F dX9_routesOf_23 (by decide) ?_
          refine j_icmp_ne (pc := 24) F 31 dX9_routesOf_24 (by decide) (fun c2 => ?_) (fun c2 => ?_)
          · refine j_iconst (pc := 31) (v := (nI 1)) F dX9_routesOf_31 (by decide) ?_
            first | refine j_iaddN (pc := 32) F dX9_routesOf_32 ?_ | refine j_iadd (pc := 32) F dX9_routesOf_32 ?_
            refine j_istore_n (pc := 33) F dX9_routesOf_33 (by decide) ?_
            first | refine j_iincN (pc := 34) F dX9_routesOf_34 rfl (by decide) ?_ | refine j_iincM (pc := 34) F dX9_routesOf_34 rfl (by decide) ?_ | refine j_iinc (pc := 34) F dX9_routesOf_34 rfl rfl (by decide) ?_
            refine j_goto (pc := 37) F 4 dX9_routesOf_37 (by decide) ?_
            refine ih (i + 1) _ (by omega) (by omega) (by omega) ⟨rfl, rfl, ?_, rfl, trivial⟩
            rw [show cnt (fun q => (tb (sD s) n p q).isSome) (i + 1) = cnt (fun q => (tb (sD s) n p q).isSome) i + 1 by rw [cnt, if_pos (by rw [hc]; rfl)]]
            rfl
          · exact absurd c2 (oI_m1 (by omega))
  refine loop 512 1 _ (by omega) (by omega) (by omega) ⟨rfl, rfl, ?_, rfl, trivial⟩
  rw [show cnt (fun q => (tb (sD s) n p q).isSome) 1 = 0 by simp [cnt, tb_0]]
  rfl
theorem c_X9_originsOf {q : Nat} (hq : q < 512) (w : wf s) (hC : ∀ p, p < 6 → CC 0 p q = tb (sD s) (sm s) p q) (z : isMx g h y s th a CC) : MI l g A h yX9_originsOf cX9_originsOf 7 (some .int) 1 0 0 [.ref y, .int (nI q)] (fun r h1 => r = nI (dcnt (ogn (sD s)) (fun p => tb (sD s) (sm s) p q) 6) ∧ h1 = h) := by
  have e0 := z.cl
  have hm := w.2.2.1.1
  obtain ⟨f9, q9, p9⟩ := z.a9
  have og : ∀ p u, tb (sD s) (sm s) p q = some u → ogn (sD s) u ≤ 30 := fun p u hu => by
    obtain ⟨h1, -, -, h4⟩ := tb_lt hu
    exact ((w.2.2.1.2.2.2 u h1).2.2.2.2 _ (by have := h4.2; omega)).2
  refine j_met (by decide +kernel) (Nat.le_of_ble_eq_true rfl) (fun X F hn hQ => ?_)
  refine j_iconst (pc := 0) (v := (nI 0)) F dX9_originsOf_0 (by decide) ?_
  refine j_istore_n (pc := 1) F dX9_originsOf_1 (by decide) ?_
  refine j_iconst (pc := 2) (v := (nI 0)) F dX9_originsOf_2 (by decide) ?_
  refine j_istore_n (pc := 3) F dX9_originsOf_3 (by decide) ?_
  refine j_iconst (pc := 4) (v := (nI 0)) F dX9_originsOf_4 (by decide) ?_
  refine j_istore (pc := 5) F dX9_originsOf_5 (by decide) ?_
  have loop : ∀ m i (lv : List (Nat × Value)), 6 < i + m → i ≤ 6 → lall lv [(0, .ref y), (1, .int (nI q)), (2, .int (nI (obits (ogn (sD s)) (fun p => tb (sD s) (sm s) p q) i))), (3, .int (nI (dcnt (ogn (sD s)) (fun p => tb (sD s) (sm s) p q) i))), (4, .int (nI i))] → J l X g A 7 0 0 h 7 lv [] := by
    intro m
    induction m with
    | zero => intro i lv w1 w2; omega
    | succ m ih =>
      intro i lv w1 w2 w3
      have hlt : obits (ogn (sD s)) (fun p => tb (sD s) (sm s) p q) i < 2 ^ 31 := obits_lt (fun p u _ hu => og p u hu)
      refine j_lv _ w3 ?_
      refine j_iload (pc := 7) F dX9_originsOf_7 rfl ?_
      refine j_bipush (pc := 9) (v := (nI 6)) F dX9_originsOf_9 (by decide) ?_
      first | refine j_icmp_geN (pc := 11) F 76 dX9_originsOf_11 (by decide) (by omega) (by omega) (fun c => ?_) (fun c => ?_) | refine j_icmp_geIN (pc := 11) F 76 dX9_originsOf_11 (by decide) (by omega) (fun c => ?_) (fun c => ?_) | refine j_icmp_geNI (pc := 11) F 76 dX9_originsOf_11 (by decide) (by omega) (fun c => ?_) (fun c => ?_) | refine j_icmp_geI (pc := 11) F 76 dX9_originsOf_11 (by decide) (fun c => ?_) (fun c => ?_)
      · have : i = 6 := by omega
        subst this
        refine j_iload_n (pc := 76) F dX9_originsOf_76 rfl ?_
        exact j_iret F hQ rfl rfl (by omega) (by omega) dX9_originsOf_77 ⟨rfl, rfl⟩
      · first | refine j_aload_n (pc := 14) F dX9_originsOf_14 rfl ?_ | refine j_aload_nq (pc := 14) F dX9_originsOf_14 rfl ?_
        refine j_get (pc := 15) F fg_X9_28 (by first | assumption | exact hUp_s) (by rfl) dX9_originsOf_15 ?_
        refine j_iconst (pc := 18) (v := (nI 0)) F dX9_originsOf_18 (by decide) ?_
        refine j_iload (pc := 19) F dX9_originsOf_19 rfl ?_
        refine j_iload_n (pc := 21) F dX9_originsOf_21 rfl ?_
        refine j_ri (j_runS (pc := 22) F (c_X9_placeOf) m_X9_placeOf ms_X9_placeOf lk_X9_55 ⟨by decide, by decide⟩ (Nat.le_of_ble_eq_true rfl) ⟨by omega, by omega⟩ rfl dX9_originsOf_22) (fun r h3 hp => ?_)
        obtain ⟨rfl, rfl⟩ := hp
        refine j_ialdN (pc := 25) F (by first | assumption | exact hUp_s) (by omega) (by decide) dX9_originsOf_25 ?_
        refine j_int ((p9 0 i q (by omega) (by omega) hq).trans (congrArg oI (hC i (by omega)))) ?_
        cases hc : tb (sD s) (sm s) i q with
        | none =>
          refine j_istore (pc := 26) F dX9_originsOf_26 (by decide) ?_
          refine j_iload (pc := 28) F dX9_originsOf_28 rfl ?_
          refine j_iconst (pc := 30) (v := (-1)) F dX9_originsOf_30 (by decide) ?_
          refine j_icmp_ne (pc := 31) F 38 dX9_originsOf_31 (by decide) (fun c2 => ?_) (fun c2 => ?_)
          · exact absurd rfl c2
          · refine j_iconst (pc := 34) (v := (nI 0)) F dX9_originsOf_34 (by decide) ?_
            refine j_goto (pc := 35) F 46 dX9_originsOf_35 (by decide) ?_
            refine j_istore (pc := 46) F dX9_originsOf_46 (by decide) ?_
            refine j_iload_n (pc := 48) F dX9_originsOf_48 rfl ?_
            refine j_iload_n (pc := 49) F dX9_originsOf_49 rfl ?_
            refine j_iload (pc := 50) F dX9_originsOf_50 rfl ?_
            refine j_iand (pc := 52) F dX9_originsOf_52 ?_
            refine j_int (fa_and _ _) ?_
            rw [Nat.and_zero]
            refine j_iload (pc := 53) F dX9_originsOf_53 rfl ?_
            refine j_icmp_neN (pc := 55) F 62 dX9_originsOf_55 (by decide) (by omega) (by omega) (fun c3 => ?_) (fun c3 => ?_)
            · exact absurd rfl c3
            · refine j_iconst (pc := 58) (v := (nI 0)) F dX9_originsOf_58 (by decide) ?_
              refine j_goto (pc := 59) F 63 dX9_originsOf_59 (by decide) ?_
              first | refine j_iaddN (pc := 63) F dX9_originsOf_63 ?_ | refine j_iadd (pc := 63) F dX9_originsOf_63 ?_
              refine j_istore_n (pc := 64) F dX9_originsOf_64 (by decide) ?_
              refine j_iload_n (pc := 65) F dX9_originsOf_65 rfl ?_
              refine j_iload (pc := 66) F dX9_originsOf_66 rfl ?_
              refine j_ior (pc := 68) F dX9_originsOf_68 ?_
              refine j_int (fa_or _ _) ?_
              refine j_istore_n (pc := 69) F dX9_originsOf_69 (by decide) ?_
              first | refine j_iincN (pc := 70) F dX9_originsOf_70 rfl (by decide) ?_ | refine j_iincM (pc := 70) F dX9_originsOf_70 rfl (by decide) ?_ | refine j_iinc (pc := 70) F dX9_originsOf_70 rfl rfl (by decide) ?_
              refine j_goto (pc := 73) F 7 dX9_originsOf_73 (by decide) ?_
              refine ih (i + 1) _ (by omega) (by omega) ⟨rfl, rfl, ?_, ?_, rfl, trivial⟩
              · rw [show obits (ogn (sD s)) (fun p => tb (sD s) (sm s) p q) (i + 1) = obits (ogn (sD s)) (fun p => tb (sD s) (sm s) p q) i ||| 0 by rw [obits, hc, Nat.or_zero]]
                rfl
              · rw [show dcnt (ogn (sD s)) (fun p => tb (sD s) (sm s) p q) (i + 1) = dcnt (ogn (sD s)) (fun p => tb (sD s) (sm s) p q) i + 0 by rw [dcnt, hc]; rfl]
                rfl
        | some u =>
          obtain ⟨hu, -, -, ha⟩ := tb_lt hc
          have hz := w.2.2.1.2.2.2 u hu
          have ho := og i u hc
          refine j_istore (pc := 26) F dX9_originsOf_26 (by decide) ?_
          refine j_iload (pc := 28) F dX9_originsOf_28 rfl ?_
          refine j_iconst (pc := 30) (v := (-1)) F dX9_originsOf_30 (by decide) ?_
          refine j_icmp_ne (pc := 31) F 38 dX9_originsOf_31 (by decide) (fun c2 => ?_) (fun c2 => ?_)
          · refine j_iconst (pc := 38) (v := (nI 1)) F dX9_originsOf_38 (by decide) ?_
            first | refine j_aload_n (pc := 39) F dX9_originsOf_39 rfl ?_ | refine j_aload_nq (pc := 39) F dX9_originsOf_39 rfl ?_
            refine j_iload (pc := 40) F dX9_originsOf_40 rfl ?_
            refine j_ri (j_runV (pc := 42) F (c_X9_origin hu hm ⟨ha.2, hz.2.2.1⟩ z) m_X9_origin mv_X9_origin lk_X9_111 (by first | assumption | exact hUp_s) rfl ⟨by decide, by decide⟩ (Nat.le_of_ble_eq_true rfl) ⟨by omega, by omega⟩ rfl dX9_originsOf_42) (fun r h4 hp => ?_)
            obtain ⟨rfl, rfl⟩ := hp
            refine j_ishl (pc := 45) F dX9_originsOf_45 ?_
            refine j_int ((pk_shlN (n := 1) _ (ogn (sD s) u) (sh_ok _ (by omega)) ?_).trans (congrArg nI (Nat.one_mul _))) ?_
            · rw [Nat.one_mul]; exact Nat.lt_of_lt_of_le (Nat.pow_lt_pow_right (by omega) (show ogn (sD s) u < 31 by omega)) (by decide)
            have h2lt : 2 ^ ogn (sD s) u < 2 ^ 31 := Nat.pow_lt_pow_right (by omega) (by omega)
            refine j_istore (pc := 46) F dX9_originsOf_46 (by decide) ?_
            refine j_iload_n (pc := 48) F dX9_originsOf_48 rfl ?_
            refine j_iload_n (pc := 49) F dX9_originsOf_49 rfl ?_
            refine j_iload (pc := 50) F dX9_originsOf_50 rfl ?_
            refine j_iand (pc := 52) F dX9_originsOf_52 ?_
            refine j_int (fa_and _ _) ?_
            refine j_iload (pc := 53) F dX9_originsOf_53 rfl ?_
            rw [two_and]
            have ob1 : obits (ogn (sD s)) (fun p => tb (sD s) (sm s) p q) (i + 1) = obits (ogn (sD s)) (fun p => tb (sD s) (sm s) p q) i ||| 2 ^ ogn (sD s) u := by rw [obits, hc]
            cases ht : (obits (ogn (sD s)) (fun p => tb (sD s) (sm s) p q) i).testBit (ogn (sD s) u) with
            | true =>
              rw [if_pos rfl]
              refine j_icmp_neN (pc := 55) F 62 dX9_originsOf_55 (by decide) (by omega) (by omega) (fun c3 => ?_) (fun c3 => ?_)
              · exact absurd rfl c3
              · refine j_iconst (pc := 58) (v := (nI 0)) F dX9_originsOf_58 (by decide) ?_
                refine j_goto (pc := 59) F 63 dX9_originsOf_59 (by decide) ?_
                first | refine j_iaddN (pc := 63) F dX9_originsOf_63 ?_ | refine j_iadd (pc := 63) F dX9_originsOf_63 ?_
                refine j_istore_n (pc := 64) F dX9_originsOf_64 (by decide) ?_
                refine j_iload_n (pc := 65) F dX9_originsOf_65 rfl ?_
                refine j_iload (pc := 66) F dX9_originsOf_66 rfl ?_
                refine j_ior (pc := 68) F dX9_originsOf_68 ?_
                refine j_int (fa_or _ _) ?_
                refine j_istore_n (pc := 69) F dX9_originsOf_69 (by decide) ?_
                first | refine j_iincN (pc := 70) F dX9_originsOf_70 rfl (by decide) ?_ | refine j_iincM (pc := 70) F dX9_originsOf_70 rfl (by decide) ?_ | refine j_iinc (pc := 70) F dX9_originsOf_70 rfl rfl (by decide) ?_
                refine j_goto (pc := 73) F 7 dX9_originsOf_73 (by decide) ?_
                refine ih (i + 1) _ (by omega) (by omega) ⟨rfl, rfl, ?_, ?_, rfl, trivial⟩
                · rw [ob1]; rfl
                · rw [show dcnt (ogn (sD s)) (fun p => tb (sD s) (sm s) p q) (i + 1) = dcnt (ogn (sD s)) (fun p => tb (sD s) (sm s) p q) i + 0 by rw [dcnt, hc]; exact if_pos ht]
                  rfl
            | false =>
              rw [if_neg (by simp)]
              refine j_icmp_neN (pc := 55) F 62 dX9_originsOf_55 (by decide) (by omega) (by omega) (fun c3 => ?_) (fun c3 => ?_)
              · refine j_iconst (pc := 62) (v := (nI 1)) F dX9_originsOf_62 (by decide) ?_
                first | refine j_iaddN (pc := 63) F dX9_originsOf_63 ?_ | refine j_iadd (pc := 63) F dX9_originsOf_63 ?_
                refine j_istore_n (pc := 64) F dX9_originsOf_64 (by decide) ?_
                refine j_iload_n (pc := 65) F dX9_originsOf_65 rfl ?_
                refine j_iload (pc := 66) F dX9_originsOf_66 rfl ?_
                refine j_ior (pc := 68) F dX9_originsOf_68 ?_
                refine j_int (fa_or _ _) ?_
                refine j_istore_n (pc := 69) F dX9_originsOf_69 (by decide) ?_
                first | refine j_iincN (pc := 70) F dX9_originsOf_70 rfl (by decide) ?_ | refine j_iincM (pc := 70) F dX9_originsOf_70 rfl (by decide) ?_ | refine j_iinc (pc := 70) F dX9_originsOf_70 rfl rfl (by decide) ?_
                refine j_goto (pc := 73) F 7 dX9_originsOf_73 (by decide) ?_
                refine ih (i + 1) _ (by omega) (by omega) ⟨rfl, rfl, ?_, ?_, rfl, trivial⟩
                · rw [ob1]; rfl
                · rw [show dcnt (ogn (sD s)) (fun p => tb (sD s) (sm s) p q) (i + 1) = dcnt (ogn (sD s)) (fun p => tb (sD s) (sm s) p q) i + 1 by rw [dcnt, hc]; exact if_neg (by rw [ht]; simp)]
                  rfl
              · exfalso
                have : 0 < 2 ^ ogn (sD s) u := Nat.pow_pos (by decide)
                omega
          · exact absurd c2 (oI_m1 (by omega))
  exact loop 7 0 _ (by omega) (by omega) ⟨rfl, rfl, rfl, rfl, rfl, trivial⟩
end MP2
