theorem ob_test {O : Nat → Nat} {c : Nat → Option Nat} {o : Nat} : ∀ {n : Nat}, (obits O c n).testBit o = true ↔ ∃ p u, p < n ∧ c p = some u ∧ O u = o
  | 0 => ⟨fun h => (by rw [show obits O c 0 = 0 from rfl, Nat.zero_testBit] at h; exact absurd h (by simp)), fun ⟨p, u, h, _⟩ => absurd h (Nat.not_lt_zero p)⟩
  | n + 1 => by
    have ih := ob_test (O := O) (c := c) (o := o) (n := n)
    unfold obits
    cases hc : c n with
    | none =>
      dsimp only
      rw [ih]
      constructor
      · rintro ⟨p, u, h1, h2⟩; exact ⟨p, u, by omega, h2⟩
      · rintro ⟨p, u, h1, h2, h3⟩
        by_cases e : p = n
        · rw [e, hc] at h2; cases h2
        · exact ⟨p, u, by omega, h2, h3⟩
    | some v =>
      dsimp only
      rw [Nat.testBit_or, Bool.or_eq_true, ih, Nat.testBit_two_pow, decide_eq_true_iff]
      constructor
      · rintro (⟨p, u, h1, h2⟩ | h)
        · exact ⟨p, u, by omega, h2⟩
        · exact ⟨n, v, by omega, hc, h⟩
      · rintro ⟨p, u, h1, h2, h3⟩
        by_cases e : p = n
        · rw [e, hc] at h2; cases h2; exact Or.inr h3
        · exact Or.inl ⟨p, u, by omega, h2, h3⟩
section MQ5
variable {l : Launch} {g : GG} {A : Nat → Prop} {h h1 : HF} {y : Nat} {s s' : SG} {th th' : Nat} {a : Nat → Nat} {CC CC' : CT}
theorem c_X9_isHijack {p b c : Int32} (w : wf s) (hM : isM g h y s th) : MI l g A h yX9_isHijack cX9_isHijack 9 (some .boolean) 4 0 0 [.ref y, .int p, .int b, .int c] (fun r h1 => isM g h1 y s (rcode s p b c) ∧ (rcode s p b c = 0 → ∃ u, tb (sD s) (sm s) (pN p) (pqN b c) = some u ∧ r = bI (vHij s u))) := by
  obtain ⟨a, CC, z, hC⟩ := hM
  have e0 := z.cl
  have hm := w.2.2.1.1
  refine j_met (by decide +kernel) (Nat.le_of_ble_eq_true rfl) (fun X F hn hQ => ?_)
  first | refine j_aload_n (pc := 0) F dX9_isHijack_0 rfl ?_ | refine j_aload_nq (pc := 0) F dX9_isHijack_0 rfl ?_
  refine j_iload_n (pc := 1) F dX9_isHijack_1 rfl ?_
  refine j_iload_n (pc := 2) F dX9_isHijack_2 rfl ?_
  refine j_iload_n (pc := 3) F dX9_isHijack_3 rfl ?_
  refine j_ri (j_runV (pc := 4) F (c_X9_route (p := p) (b := b) (c := c) hm hC z) m_X9_route mv_X9_route lk_X9_92 (by first | assumption | exact hUp_s) rfl ⟨by decide, by decide⟩ (Nat.le_of_ble_eq_true rfl) ⟨by omega, by omega⟩ rfl dX9_isHijack_4) (fun r h2 hp => ?_)
  obtain ⟨rfl, z2⟩ := hp
  have e2 := z2.cl
  have hr3 : rcode s p b c ≤ 3 := rcode_le
  refine j_istore (pc := 7) F dX9_isHijack_7 (by decide) ?_
  first | refine j_aload_n (pc := 9) F dX9_isHijack_9 rfl ?_ | refine j_aload_nq (pc := 9) F dX9_isHijack_9 rfl ?_
  refine j_get (pc := 10) F fg_X9_47 (by first | assumption | exact hUp_s) (by rfl) dX9_isHijack_10 ?_
  first | refine j_if_leN (pc := 13) F 18 dX9_isHijack_13 (by decide) (by omega) (fun c1 => ?_) (fun c1 => ?_) | refine j_if_leI (pc := 13) F 18 dX9_isHijack_13 (by decide) (fun c1 => ?_) (fun c1 => ?_)
  · have c5 : rcode s p b c = 0 := by omega
    obtain ⟨k1, k2, u, hu, hrt⟩ := rtv_0 c5
    obtain ⟨t1, t2, t3, t4⟩ := tb_lt hu
    have hz := w.2.2.1.2.2.2 u t1
    have hq := hz.2.1
    have hou := og30 w (pN p) u (okPeer.n k1).2 hu
    obtain ⟨f6, q6, p6⟩ := z2.a6
    obtain ⟨f9, q9, p9⟩ := z2.a9
    rw [hrt]
    refine j_lv [(0, .ref y), (4, .int (nI u))] ⟨rfl, rfl, trivial⟩ ?_
    first | refine j_aload_n (pc := 18) F dX9_isHijack_18 rfl ?_ | refine j_aload_nq (pc := 18) F dX9_isHijack_18 rfl ?_
    refine j_get (pc := 19) F fg_X9_19 (by first | assumption | exact hUp_s) (by rfl) dX9_isHijack_19 ?_
    refine j_iload (pc := 22) F dX9_isHijack_22 rfl ?_
    refine j_ialdN (pc := 24) F (by first | assumption | exact hUp_s) (by omega) (by decide) dX9_isHijack_24 ?_
    refine j_int (p6 u t1) ?_
    refine j_iconst (pc := 25) (v := (nI 1)) F dX9_isHijack_25 (by decide) ?_
    refine j_ishr (pc := 26) F dX9_isHijack_26 ?_
    refine j_int (pk_shrN (by omega) _ 1 (sh_ok 1 (by decide))) ?_
    rw [Nat.pow_one]
    generalize hf : (fun a => decide (0 < cntQ (tb (sD s) (sm s)) a)) = f
    have fin : ∀ (d : Nat) (lv : List (Nat × Value)), d < 512 → d = nab f 9 ((sD s).2.1 u / 2) → lall lv [(0, .ref y), (4, .int (nI u)), (5, .int (nI d))] → J l X g A 9 (0 + 0) (0 + 0) h2 54 lv [] := by
      intro d lv hd hdn hl
      have hv : vHij s u = (decide (¬ d = 0) && !((oBits s d).testBit (ogn (sD s) u))) := by
        unfold vHij
        rw [hf, ← hdn]
      have loop : ∀ m i (be : Bool) (lv : List (Nat × Value)), 6 < i + m → i ≤ 6 → 0 < d → (be = true ↔ ∀ pp v, pp < i → tb (sD s) (sm s) pp d = some v → ¬ ogn (sD s) v = ogn (sD s) u) → lall lv [(0, .ref y), (4, .int (nI u)), (5, .int (nI d)), (6, .int (bI be)), (7, .int (nI i))] → J l X g A 9 (0 + 0) (0 + 0) h2 69 lv [] := by
        intro m
        induction m with
        | zero => intro i be lv q1 q2; omega
        | succ m ih =>
          intro i be lv q1 q2 d0 q3 q4
          have ret : (i = 6 ∨ be = false) → bI be = bI (vHij s u) := fun hh => by
            apply congrArg bI
            rw [hv, decide_eq_true (show ¬ d = 0 by omega), Bool.true_and]
            cases ht : (oBits s d).testBit (ogn (sD s) u) with
            | true =>
              obtain ⟨pp, v, x1, x2, x3⟩ := ob_test.mp ht
              rcases hh with e | e
              · cases hbe : be with
                | false => rfl
                | true => exact absurd x3 (q3.mp hbe pp v (by omega) x2)
              · rw [e]; rfl
            | false =>
              refine q3.mpr (fun pp v x1 x2 x3 => ?_)
              have := (ob_test (O := ogn (sD s)) (c := fun p => tb (sD s) (sm s) p d) (o := ogn (sD s) u) (n := 6)).mpr ⟨pp, v, by omega, x2, x3⟩
              have e : (obits (ogn (sD s)) (fun p => tb (sD s) (sm s) p d) 6).testBit (ogn (sD s) u) = false := ht
              rw [this] at e
              cases e
          refine j_lv _ q4 ?_
          refine j_iload (pc := 69) F dX9_isHijack_69 rfl ?_
          refine j_bipush (pc := 71) (v := (nI 6)) F dX9_isHijack_71 (by decide) ?_
          first | refine j_icmp_geN (pc := 73) F 130 dX9_isHijack_73 (by decide) (by omega) (by omega) (fun c6 => ?_) (fun c6 => ?_) | refine j_icmp_geIN (pc := 73) F 130 dX9_isHijack_73 (by decide) (by omega) (fun c6 => ?_) (fun c6 => ?_) | refine j_icmp_geNI (pc := 73) F 130 dX9_isHijack_73 (by decide) (by omega) (fun c6 => ?_) (fun c6 => ?_) | refine j_icmp_geI (pc := 73) F 130 dX9_isHijack_73 (by decide) (fun c6 => ?_) (fun c6 => ?_)
          · refine j_iload (pc := 130) F dX9_isHijack_130 rfl ?_
            exact j_iret F hQ rfl (bI_n _) (by omega) (by omega) dX9_isHijack_132 ⟨z2.is hC, fun _ => ⟨u, hu, ret (Or.inl (by omega))⟩⟩
          · refine j_iload (pc := 76) F dX9_isHijack_76 rfl ?_
            first | refine j_if_eqB (pc := 78) F 130 dX9_isHijack_78 (by decide) (fun c7 => ?_) (fun c7 => ?_) | refine j_if_eqN (pc := 78) F 130 dX9_isHijack_78 (by decide) (by omega) (fun c7 => ?_) (fun c7 => ?_) | refine j_if_eqI (pc := 78) F 130 dX9_isHijack_78 (by decide) (fun c7 => ?_) (fun c7 => ?_)
            · refine j_iload (pc := 130) F dX9_isHijack_130 rfl ?_
              exact j_iret F hQ rfl (bI_n _) (by omega) (by omega) dX9_isHijack_132 ⟨z2.is hC, fun _ => ⟨u, hu, ret (Or.inr c7)⟩⟩
            · have t := q3.mp c7
              first | refine j_aload_n (pc := 81) F dX9_isHijack_81 rfl ?_ | refine j_aload_nq (pc := 81) F dX9_isHijack_81 rfl ?_
              refine j_get (pc := 82) F fg_X9_28 (by first | assumption | exact hUp_s) (by rfl) dX9_isHijack_82 ?_
              refine j_iconst (pc := 85) (v := (nI 0)) F dX9_isHijack_85 (by decide) ?_
              refine j_iload (pc := 86) F dX9_isHijack_86 rfl ?_
              refine j_iload (pc := 88) F dX9_isHijack_88 rfl ?_
              refine j_ri (j_runS (pc := 90) F (c_X9_placeOf) m_X9_placeOf ms_X9_placeOf lk_X9_55 ⟨by decide, by decide⟩ (Nat.le_of_ble_eq_true rfl) ⟨by omega, by omega⟩ rfl dX9_isHijack_90) (fun r h3 hp => ?_)
              obtain ⟨rfl, rfl⟩ := hp
              refine j_ialdN (pc := 93) F (by first | assumption | exact hUp_s) (by omega) (by decide) dX9_isHijack_93 ?_
              refine j_int ((p9 0 i d (by omega) (by omega) hd).trans (congrArg oI (hC i d (by omega) hd))) ?_
              cases hc : tb (sD s) (sm s) i d with
              | none =>
                refine j_istore (pc := 94) F dX9_isHijack_94 (by decide) ?_
                refine j_iload (pc := 96) F dX9_isHijack_96 rfl ?_
                refine j_iconst (pc := 98) (v := (-1)) F dX9_isHijack_98 (by decide) ?_
                refine j_icmp_eq (pc := 99) F 117 dX9_isHijack_99 (by decide) (fun c8 => ?_) (fun c8 => ?_)
                · refine j_iconst (pc := 117) (v := (nI 1)) F dX9_isHijack_117 (by decide) ?_
                  refine j_goto (pc := 118) F 122 dX9_isHijack_118 (by decide) ?_
                  refine j_istore (pc := 122) F dX9_isHijack_122 (by decide) ?_
                  first | refine j_iincN (pc := 124) F dX9_isHijack_124 rfl (by decide) ?_ | refine j_iincM (pc := 124) F dX9_isHijack_124 rfl (by decide) ?_ | refine j_iinc (pc := 124) F dX9_isHijack_124 rfl rfl (by decide) ?_
                  refine j_goto (pc := 127) F 69 dX9_isHijack_127 (by decide) ?_
                  refine ih (i + 1) true _ (by omega) (by omega) d0 (iff_of_true rfl (fun pp v x1 x2 => ?_)) ⟨rfl, rfl, rfl, rfl, rfl, trivial⟩
                  by_cases e : pp = i
                  · rw [e, hc] at x2; cases x2
                  · exact t pp v (by omega) x2
                · exact absurd rfl c8
              | some v =>
                obtain ⟨v1, v2, v3, v4⟩ := tb_lt hc
                have hzv := w.2.2.1.2.2.2 v v1
                have hov := og30 w i v (by omega) hc
                refine j_istore (pc := 94) F dX9_isHijack_94 (by decide) ?_
                refine j_iload (pc := 96) F dX9_isHijack_96 rfl ?_
                refine j_iconst (pc := 98) (v := (-1)) F dX9_isHijack_98 (by decide) ?_
                refine j_icmp_eq (pc := 99) F 117 dX9_isHijack_99 (by decide) (fun c8 => ?_) (fun c8 => ?_)
                · exact absurd c8 (oI_m1 (by omega))
                · refine j_lv [(0, .ref y), (4, .int (nI u)), (5, .int (nI d)), (7, .int (nI i)), (8, .int (nI v))] ⟨rfl, rfl, rfl, rfl, rfl, trivial⟩ ?_
                  first | refine j_aload_n (pc := 102) F dX9_isHijack_102 rfl ?_ | refine j_aload_nq (pc := 102) F dX9_isHijack_102 rfl ?_
                  refine j_iload (pc := 103) F dX9_isHijack_103 rfl ?_
                  refine j_ri (j_runV (pc := 105) F (c_X9_origin v1 hm ⟨v4.2, hzv.2.2.1⟩ z2) m_X9_origin mv_X9_origin lk_X9_111 (by first | assumption | exact hUp_s) rfl ⟨by decide, by decide⟩ (Nat.le_of_ble_eq_true rfl) ⟨by omega, by omega⟩ rfl dX9_isHijack_105) (fun r h4 hp => ?_)
                  obtain ⟨rfl, rfl⟩ := hp
                  first | refine j_aload_n (pc := 108) F dX9_isHijack_108 rfl ?_ | refine j_aload_nq (pc := 108) F dX9_isHijack_108 rfl ?_
                  refine j_iload (pc := 109) F dX9_isHijack_109 rfl ?_
                  refine j_ri (j_runV (pc := 111) F (c_X9_origin t1 hm ⟨t4.2, hz.2.2.1⟩ z2) m_X9_origin mv_X9_origin lk_X9_111 (by first | assumption | exact hUp_s) rfl ⟨by decide, by decide⟩ (Nat.le_of_ble_eq_true rfl) ⟨by omega, by omega⟩ rfl dX9_isHijack_111) (fun r h5 hp => ?_)
                  obtain ⟨rfl, rfl⟩ := hp
                  refine j_icmp_eqN (pc := 114) F 121 dX9_isHijack_114 (by decide) (by omega) (by omega) (fun c9 => ?_) (fun c9 => ?_)
                  · refine j_iconst (pc := 121) (v := (nI 0)) F dX9_isHijack_121 (by decide) ?_
                    refine j_istore (pc := 122) F dX9_isHijack_122 (by decide) ?_
                    first | refine j_iincN (pc := 124) F dX9_isHijack_124 rfl (by decide) ?_ | refine j_iincM (pc := 124) F dX9_isHijack_124 rfl (by decide) ?_ | refine j_iinc (pc := 124) F dX9_isHijack_124 rfl rfl (by decide) ?_
                    refine j_goto (pc := 127) F 69 dX9_isHijack_127 (by decide) ?_
                    exact ih (i + 1) false _ (by omega) (by omega) d0 (iff_of_false (by simp) (fun t2 => t2 i v (by omega) hc c9)) ⟨rfl, rfl, rfl, rfl, rfl, trivial⟩
                  · refine j_iconst (pc := 117) (v := (nI 1)) F dX9_isHijack_117 (by decide) ?_
                    refine j_goto (pc := 118) F 122 dX9_isHijack_118 (by decide) ?_
                    refine j_istore (pc := 122) F dX9_isHijack_122 (by decide) ?_
                    first | refine j_iincN (pc := 124) F dX9_isHijack_124 rfl (by decide) ?_ | refine j_iincM (pc := 124) F dX9_isHijack_124 rfl (by decide) ?_ | refine j_iinc (pc := 124) F dX9_isHijack_124 rfl rfl (by decide) ?_
                    refine j_goto (pc := 127) F 69 dX9_isHijack_127 (by decide) ?_
                    refine ih (i + 1) true _ (by omega) (by omega) d0 (iff_of_true rfl (fun pp v2 x1 x2 => ?_)) ⟨rfl, rfl, rfl, rfl, rfl, trivial⟩
                    by_cases e : pp = i
                    · rw [e, hc] at x2; cases x2; exact c9
                    · exact t pp v2 (by omega) x2
      refine j_lv _ hl ?_
      refine j_iload (pc := 54) F dX9_isHijack_54 rfl ?_
      first | refine j_if_leN (pc := 56) F 63 dX9_isHijack_56 (by decide) (by omega) (fun c6 => ?_) (fun c6 => ?_) | refine j_if_leI (pc := 56) F 63 dX9_isHijack_56 (by decide) (fun c6 => ?_) (fun c6 => ?_)
      · have hd0 : d = 0 := by omega
        refine j_iconst (pc := 63) (v := (nI 0)) F dX9_isHijack_63 (by decide) ?_
        refine j_istore (pc := 64) F dX9_isHijack_64 (by decide) ?_
        refine j_iconst (pc := 66) (v := (nI 0)) F dX9_isHijack_66 (by decide) ?_
        refine j_istore (pc := 67) F dX9_isHijack_67 (by decide) ?_
        refine j_iload (pc := 69) F dX9_isHijack_69 rfl ?_
        refine j_bipush (pc := 71) (v := (nI 6)) F dX9_isHijack_71 (by decide) ?_
        refine j_icmp_geN (pc := 73) F 130 dX9_isHijack_73 (by decide) (by omega) (by omega) (fun c7 => ?_) (fun c7 => ?_)
        · omega
        · refine j_iload (pc := 76) F dX9_isHijack_76 rfl ?_
          first | refine j_if_eqB (pc := 78) F 130 dX9_isHijack_78 (by decide) (fun c8 => ?_) (fun c8 => ?_) | refine j_if_eqN (pc := 78) F 130 dX9_isHijack_78 (by decide) (by omega) (fun c8 => ?_) (fun c8 => ?_) | refine j_if_eqI (pc := 78) F 130 dX9_isHijack_78 (by decide) (fun c8 => ?_) (fun c8 => ?_)
          · refine j_iload (pc := 130) F dX9_isHijack_130 rfl ?_
            refine j_iret F hQ rfl rfl (by omega) (by omega) dX9_isHijack_132 ⟨z2.is hC, fun _ => ⟨u, hu, ?_⟩⟩
            rw [hv, hd0]
            rfl
          · omega
      · refine j_iconst (pc := 59) (v := (nI 1)) F dX9_isHijack_59 (by decide) ?_
        refine j_goto (pc := 60) F 64 dX9_isHijack_60 (by decide) ?_
        refine j_istore (pc := 64) F dX9_isHijack_64 (by decide) ?_
        refine j_iconst (pc := 66) (v := (nI 0)) F dX9_isHijack_66 (by decide) ?_
        refine j_istore (pc := 67) F dX9_isHijack_67 (by decide) ?_
        exact loop 7 0 true _ (by omega) (by omega) c6 (iff_of_true rfl (fun pp v x1 => absurd x1 (Nat.not_lt_zero pp))) ⟨rfl, rfl, rfl, rfl, rfl, trivial⟩
    have fb : ∀ q, bstT (sD s) (sm s) q = none ↔ f q = false := fun q => by
      rw [← hf]
      have e : 0 < cntQ (tb (sD s) (sm s)) q ↔ ¬ bstT (sD s) (sm s) q = none := cntQ_bst (C := tb (sD s) (sm s)) (q := q) (sD s).2.2.1
      constructor
      · intro t; exact decide_eq_false (fun t2 => e.mp t2 t)
      · intro t; exact Classical.byContradiction (fun t2 => (of_decide_eq_false t) (e.mpr t2))
    refine j_istore (pc := 27) F dX9_isHijack_27 (by decide) ?_
    have loop : ∀ m d (lv : List (Nat × Value)), d < 2 ^ m → d < 512 → nab f (m + 1) d = nab f 9 ((sD s).2.1 u / 2) → lall lv [(0, .ref y), (4, .int (nI u)), (5, .int (nI d))] → J l X g A 9 (0 + 0) (0 + 0) h2 29 lv [] := by
      intro m
      induction m with
      | zero =>
        intro d lv q1 q2 q3 q4
        have : d = 0 := by omega
        subst this
        refine j_lv _ q4 ?_
        refine j_iload (pc := 29) F dX9_isHijack_29 rfl ?_
        first | refine j_if_leN (pc := 31) F 54 dX9_isHijack_31 (by decide) (by omega) (fun c6 => ?_) (fun c6 => ?_) | refine j_if_leI (pc := 31) F 54 dX9_isHijack_31 (by decide) (fun c6 => ?_) (fun c6 => ?_)
        · exact fin 0 _ q2 q3 ⟨rfl, rfl, rfl, trivial⟩
        · omega
      | succ m ih =>
        intro d lv q1 q2 q3 q4
        refine j_lv _ q4 ?_
        refine j_iload (pc := 29) F dX9_isHijack_29 rfl ?_
        first | refine j_if_leN (pc := 31) F 54 dX9_isHijack_31 (by decide) (by omega) (fun c6 => ?_) (fun c6 => ?_) | refine j_if_leI (pc := 31) F 54 dX9_isHijack_31 (by decide) (fun c6 => ?_) (fun c6 => ?_)
        · have hd0 : d = 0 := by omega
          subst hd0
          exact fin 0 _ q2 q3 ⟨rfl, rfl, rfl, trivial⟩
        · first | refine j_aload_n (pc := 34) F dX9_isHijack_34 rfl ?_ | refine j_aload_nq (pc := 34) F dX9_isHijack_34 rfl ?_
          refine j_iconst (pc := 35) (v := (nI 0)) F dX9_isHijack_35 (by decide) ?_
          refine j_iload (pc := 36) F dX9_isHijack_36 rfl ?_
          refine j_ri (j_runV (pc := 38) F (c_X9_best (k := 0) (q := d) (n := sm s) (by decide) q2 (Nat.le_refl _) hm w.Z (fun p hp => hC p d hp q2) z2) m_X9_best mv_X9_best lk_X9_70 (by first | assumption | exact hUp_s) rfl ⟨by decide, by decide⟩ (Nat.le_of_ble_eq_true rfl) ⟨by omega, by omega⟩ rfl dX9_isHijack_38) (fun r h3 hp => ?_)
          obtain ⟨rfl, rfl⟩ := hp
          cases hb : bstT (sD s) (sm s) d with
          | none =>
            have hfd := (fb d).mp hb
            refine j_iconst (pc := 41) (v := (-1)) F dX9_isHijack_41 (by decide) ?_
            refine j_icmp_ne (pc := 42) F 54 dX9_isHijack_42 (by decide) (fun c8 => ?_) (fun c8 => ?_)
            · exact absurd rfl c8
            · refine j_iload (pc := 45) F dX9_isHijack_45 rfl ?_
              refine j_iconst (pc := 47) (v := (nI 1)) F dX9_isHijack_47 (by decide) ?_
              refine j_ishr (pc := 48) F dX9_isHijack_48 ?_
              refine j_int (pk_shrN (by omega) _ 1 (sh_ok 1 (by decide))) ?_
              rw [Nat.pow_one]
              refine j_istore (pc := 49) F dX9_isHijack_49 (by decide) ?_
              refine j_goto (pc := 51) F 29 dX9_isHijack_51 (by decide) ?_
              refine ih (d / 2) _ (by rw [Nat.pow_succ] at q1; omega) (by omega) ?_ ⟨rfl, rfl, rfl, trivial⟩
              rw [← q3, show nab f (m + 1 + 1) d = nab f (m + 1) (d / 2) by rw [nab, if_neg (by omega), if_neg (by rw [hfd]; simp)]]
          | some v =>
            have hv1 := (bstT_lt hb).1
            have hfd : f d = true := by
              cases e : f d with
              | true => rfl
              | false => rw [(fb d).mpr e] at hb; cases hb
            refine j_iconst (pc := 41) (v := (-1)) F dX9_isHijack_41 (by decide) ?_
            refine j_icmp_ne (pc := 42) F 54 dX9_isHijack_42 (by decide) (fun c8 => ?_) (fun c8 => ?_)
            · refine fin d _ q2 ?_ ⟨rfl, rfl, rfl, trivial⟩
              rw [← q3, nab, if_neg (by omega), if_pos hfd]
            · exact absurd c8 (oI_m1 (by omega))
    exact loop 8 ((sD s).2.1 u / 2) _ (by omega) (by omega) rfl ⟨rfl, rfl, rfl, trivial⟩
  · refine j_iconst (pc := 16) (v := (nI 0)) F dX9_isHijack_16 (by decide) ?_
    exact j_iret F hQ rfl rfl (by omega) (by omega) dX9_isHijack_17 ⟨z2.is hC, fun e => by omega⟩
theorem c_X9_valley {p b c : Int32} (w : wf s) (hM : isM g h y s th) : MI l g A h yX9_valley cX9_valley 12 (some .int) 4 0 0 [.ref y, .int p, .int b, .int c] (fun r h1 => isM g h1 y s (rcode s p b c) ∧ (rcode s p b c = 0 → ∃ u, tb (sD s) (sm s) (pN p) (pqN b c) = some u ∧ r = vVal s u)) := by
  obtain ⟨a, CC, z, hC⟩ := hM
  have e0 := z.cl
  have hm := w.2.2.1.1
  refine j_met (by decide +kernel) (Nat.le_of_ble_eq_true rfl) (fun X F hn hQ => ?_)
  first | refine j_aload_n (pc := 0) F dX9_valley_0 rfl ?_ | refine j_aload_nq (pc := 0) F dX9_valley_0 rfl ?_
  refine j_iload_n (pc := 1) F dX9_valley_1 rfl ?_
  refine j_iload_n (pc := 2) F dX9_valley_2 rfl ?_
  refine j_iload_n (pc := 3) F dX9_valley_3 rfl ?_
  refine j_ri (j_runV (pc := 4) F (c_X9_route (p := p) (b := b) (c := c) hm hC z) m_X9_route mv_X9_route lk_X9_92 (by first | assumption | exact hUp_s) rfl ⟨by decide, by decide⟩ (Nat.le_of_ble_eq_true rfl) ⟨by omega, by omega⟩ rfl dX9_valley_4) (fun r h2 hp => ?_)
  obtain ⟨rfl, z2⟩ := hp
  have e2 := z2.cl
  have hr3 : rcode s p b c ≤ 3 := rcode_le
  refine j_istore (pc := 7) F dX9_valley_7 (by decide) ?_
  first | refine j_aload_n (pc := 9) F dX9_valley_9 rfl ?_ | refine j_aload_nq (pc := 9) F dX9_valley_9 rfl ?_
  refine j_get (pc := 10) F fg_X9_47 (by first | assumption | exact hUp_s) (by rfl) dX9_valley_10 ?_
  first | refine j_if_leN (pc := 13) F 18 dX9_valley_13 (by decide) (by omega) (fun c1 => ?_) (fun c1 => ?_) | refine j_if_leI (pc := 13) F 18 dX9_valley_13 (by decide) (fun c1 => ?_) (fun c1 => ?_)
  · have c5 : rcode s p b c = 0 := by omega
    obtain ⟨k1, k2, u, hu, hrt⟩ := rtv_0 c5
    obtain ⟨t1, t2, t3, t4⟩ := tb_lt hu
    obtain ⟨hu1, hu2, hu3, hu4, hu5⟩ := w.2.2.1.2.2.2 u t1
    obtain ⟨f7, q7, p7⟩ := z2.a7
    obtain ⟨f8, q8, p8⟩ := z2.a8
    obtain ⟨f14, q14, p14⟩ := z2.a14
    have h4 := t4.2
    rw [hrt]
    refine j_lv [(0, .ref y), (4, .int (nI u))] ⟨rfl, rfl, trivial⟩ ?_
    refine j_iconst (pc := 18) (v := (nI 0)) F dX9_valley_18 (by decide) ?_
    refine j_istore (pc := 19) F dX9_valley_19 (by decide) ?_
    refine j_iconst (pc := 21) (v := (nI 0)) F dX9_valley_21 (by decide) ?_
    refine j_istore (pc := 22) F dX9_valley_22 (by decide) ?_
    refine j_iconst (pc := 24) (v := (nI 0)) F dX9_valley_24 (by decide) ?_
    refine j_istore (pc := 25) F dX9_valley_25 (by decide) ?_
    first | refine j_aload_n (pc := 27) F dX9_valley_27 rfl ?_ | refine j_aload_nq (pc := 27) F dX9_valley_27 rfl ?_
    refine j_get (pc := 28) F fg_X9_22 (by first | assumption | exact hUp_s) (by rfl) dX9_valley_28 ?_
    refine j_iload (pc := 31) F dX9_valley_31 rfl ?_
    refine j_ialdN (pc := 33) F (by first | assumption | exact hUp_s) (by omega) (by decide) dX9_valley_33 ?_
    refine j_int (p7 u t1) ?_
    refine j_iconst (pc := 34) (v := (nI 2)) F dX9_valley_34 (by decide) ?_
    refine j_isub (pc := 35) F dX9_valley_35 ?_
    refine j_istore (pc := 36) F dX9_valley_36 (by decide) ?_
    have loop : ∀ i (un dn va : Bool) (lv : List (Nat × Value)), i + 1 ≤ (sD s).2.2.1 u → (va = true → vVal s u = nI 1) → (va = false → vVal s u = nI (shp (sM s) ((sD s).2.2.2 u) i dn un)) → lall lv [(0, .ref y), (4, .int (nI u)), (5, .int (bI un)), (6, .int (bI dn)), (7, .int (bI va)), (8, .int (nI i - nI 1))] → J l X g A 12 (0 + 0) (0 + 0) h2 38 lv [] := by
      intro i
      induction i with
      | zero =>
        intro un dn va lv q1 q2 q3 q4
        refine j_lv _ q4 ?_
        refine j_iload (pc := 38) F dX9_valley_38 rfl ?_
        first | refine j_if_ltN (pc := 40) F 172 dX9_valley_40 (by decide) (by omega) (fun c6 => ?_) (fun c6 => ?_) | refine j_if_ltI (pc := 40) F 172 dX9_valley_40 (by decide) (fun c6 => ?_) (fun c6 => ?_)
        · refine j_iload (pc := 172) F dX9_valley_172 rfl ?_
          cases va with
          | true =>
            first | refine j_if_eqB (pc := 174) F 181 dX9_valley_174 (by decide) (fun c7 => ?_) (fun c7 => ?_) | refine j_if_eqN (pc := 174) F 181 dX9_valley_174 (by decide) (by omega) (fun c7 => ?_) (fun c7 => ?_) | refine j_if_eqI (pc := 174) F 181 dX9_valley_174 (by decide) (fun c7 => ?_) (fun c7 => ?_)
            · cases c7
            · refine j_iconst (pc := 177) (v := (nI 1)) F dX9_valley_177 (by decide) ?_
              refine j_goto (pc := 178) F 191 dX9_valley_178 (by decide) ?_
              exact j_iret F hQ rfl rfl (by omega) (by omega) dX9_valley_191 ⟨z2.is hC, fun _ => ⟨u, hu, (q2 rfl).symm⟩⟩
          | false =>
            have q3 := q3 rfl
            first | refine j_if_eqB (pc := 174) F 181 dX9_valley_174 (by decide) (fun c7 => ?_) (fun c7 => ?_) | refine j_if_eqN (pc := 174) F 181 dX9_valley_174 (by decide) (by omega) (fun c7 => ?_) (fun c7 => ?_) | refine j_if_eqI (pc := 174) F 181 dX9_valley_174 (by decide) (fun c7 => ?_) (fun c7 => ?_)
            · refine j_iload (pc := 181) F dX9_valley_181 rfl ?_
              cases un with
              | true =>
                first | refine j_if_eqB (pc := 183) F 190 dX9_valley_183 (by decide) (fun c8 => ?_) (fun c8 => ?_) | refine j_if_eqN (pc := 183) F 190 dX9_valley_183 (by decide) (by omega) (fun c8 => ?_) (fun c8 => ?_) | refine j_if_eqI (pc := 183) F 190 dX9_valley_183 (by decide) (fun c8 => ?_) (fun c8 => ?_)
                · cases c8
                · refine j_iconst (pc := 186) (v := (nI 2)) F dX9_valley_186 (by decide) ?_
                  refine j_goto (pc := 187) F 191 dX9_valley_187 (by decide) ?_
                  exact j_iret F hQ rfl rfl (by omega) (by omega) dX9_valley_191 ⟨z2.is hC, fun _ => ⟨u, hu, q3.symm⟩⟩
              | false =>
                first | refine j_if_eqB (pc := 183) F 190 dX9_valley_183 (by decide) (fun c8 => ?_) (fun c8 => ?_) | refine j_if_eqN (pc := 183) F 190 dX9_valley_183 (by decide) (by omega) (fun c8 => ?_) (fun c8 => ?_) | refine j_if_eqI (pc := 183) F 190 dX9_valley_183 (by decide) (fun c8 => ?_) (fun c8 => ?_)
                · refine j_iconst (pc := 190) (v := (nI 0)) F dX9_valley_190 (by decide) ?_
                  exact j_iret F hQ rfl rfl (by omega) (by omega) dX9_valley_191 ⟨z2.is hC, fun _ => ⟨u, hu, q3.symm⟩⟩
                · cases c8
            · cases c7
        · exfalso
          have e : (nI 0 - nI 1).toInt = -1 := by decide
          omega
      | succ i ih =>
        intro un dn va lv q1 q2 q3 q4
        rw [show nI (i + 1) - nI 1 = nI i from pk_sub (show 1 ≤ i + 1 by omega)] at q4
        have b1 := hu5 (i + 1) (by omega)
        have b2 := hu5 i (by omega)
        generalize hfr : (sD s).2.2.2 u (i + 1) = fr at *
        generalize hto : (sD s).2.2.2 u i = to at *
        generalize hst : sM s to fr = st at *
        have hst3 : st ≤ 3 := by rw [← hst]; exact w.2.2.2.2.1 _ _
        have hsame : fr = to → st = 0 := fun e => by rw [← hst, e]; exact w.2.2.2.2.2 _
        refine j_lv _ q4 ?_
        refine j_iload (pc := 38) F dX9_valley_38 rfl ?_
        first | refine j_if_ltN (pc := 40) F 172 dX9_valley_40 (by decide) (by omega) (fun c6 => ?_) (fun c6 => ?_) | refine j_if_ltI (pc := 40) F 172 dX9_valley_40 (by decide) (fun c6 => ?_) (fun c6 => ?_)
        · omega
        · first | refine j_aload_n (pc := 43) F dX9_valley_43 rfl ?_ | refine j_aload_nq (pc := 43) F dX9_valley_43 rfl ?_
          refine j_get (pc := 44) F fg_X9_25 (by first | assumption | exact hUp_s) (by rfl) dX9_valley_44 ?_
          refine j_bipush (pc := 47) (v := (nI 8)) F dX9_valley_47 (by decide) ?_
          refine j_iload (pc := 49) F dX9_valley_49 rfl ?_
          first | refine j_imulN (pc := 51) F dX9_valley_51 ?_ | refine j_imul (pc := 51) F dX9_valley_51 ?_
          refine j_iload (pc := 52) F dX9_valley_52 rfl ?_
          first | refine j_iaddN (pc := 54) F dX9_valley_54 ?_ | refine j_iadd (pc := 54) F dX9_valley_54 ?_
          refine j_iconst (pc := 55) (v := (nI 1)) F dX9_valley_55 (by decide) ?_
          first | refine j_iaddN (pc := 56) F dX9_valley_56 ?_ | refine j_iadd (pc := 56) F dX9_valley_56 ?_
          refine j_ialdN (pc := 57) F (by first | assumption | exact hUp_s) (by omega) (by decide) dX9_valley_57 ?_
          refine j_int ((congrArg f8 (show 8 * u + i + 1 = 8 * u + (i + 1) by omega)).trans ((p8 u (i + 1) t1 (by omega)).trans (congrArg nI hfr))) ?_
          refine j_istore (pc := 58) F dX9_valley_58 (by decide) ?_
          first | refine j_aload_n (pc := 60) F dX9_valley_60 rfl ?_ | refine j_aload_nq (pc := 60) F dX9_valley_60 rfl ?_
          refine j_get (pc := 61) F fg_X9_25 (by first | assumption | exact hUp_s) (by rfl) dX9_valley_61 ?_
          refine j_bipush (pc := 64) (v := (nI 8)) F dX9_valley_64 (by decide) ?_
          refine j_iload (pc := 66) F dX9_valley_66 rfl ?_
          first | refine j_imulN (pc := 68) F dX9_valley_68 ?_ | refine j_imul (pc := 68) F dX9_valley_68 ?_
          refine j_iload (pc := 69) F dX9_valley_69 rfl ?_
          first | refine j_iaddN (pc := 71) F dX9_valley_71 ?_ | refine j_iadd (pc := 71) F dX9_valley_71 ?_
          refine j_ialdN (pc := 72) F (by first | assumption | exact hUp_s) (by omega) (by decide) dX9_valley_72 ?_
          refine j_int ((p8 u i t1 (by omega)).trans (congrArg nI hto)) ?_
          refine j_istore (pc := 73) F dX9_valley_73 (by decide) ?_
          first | refine j_aload_n (pc := 75) F dX9_valley_75 rfl ?_ | refine j_aload_nq (pc := 75) F dX9_valley_75 rfl ?_
          refine j_get (pc := 76) F fg_X9_40 (by first | assumption | exact hUp_s) (by rfl) dX9_valley_76 ?_
          refine j_bipush (pc := 79) (v := (nI 31)) F dX9_valley_79 (by decide) ?_
          refine j_iload (pc := 81) F dX9_valley_81 rfl ?_
          first | refine j_imulN (pc := 83) F dX9_valley_83 ?_ | refine j_imul (pc := 83) F dX9_valley_83 ?_
          refine j_iload (pc := 84) F dX9_valley_84 rfl ?_
          first | refine j_iaddN (pc := 86) F dX9_valley_86 ?_ | refine j_iadd (pc := 86) F dX9_valley_86 ?_
          refine j_ialdN (pc := 87) F (by first | assumption | exact hUp_s) (by omega) (by decide) dX9_valley_87 ?_
          refine j_int ((p14 to fr (by omega) (by omega)).trans (congrArg nI hst)) ?_
          refine j_istore (pc := 88) F dX9_valley_88 (by decide) ?_
          have k3 : ∀ (un2 dn2 va2 : Bool) (lv : List (Nat × Value)), un2 = (un || decide (¬ fr = to ∧ st = 0)) → va2 = (va || (dn && decide (st = 1 ∨ st = 2))) → dn2 = (dn || decide (¬ st = 0 ∧ ¬ st = 1)) → lall lv [(0, .ref y), (4, .int (nI u)), (5, .int (bI un2)), (6, .int (bI dn2)), (7, .int (bI va2)), (8, .int (nI i))] → J l X g A 12 (0 + 0) (0 + 0) h2 166 lv [] := by
            intro un2 dn2 va2 lv x1 x2 x3 x4
            refine j_lv _ x4 ?_
            refine j_iinc (pc := 166) F dX9_valley_166 rfl (show nI i + Int32.ofInt (-1) = nI i - nI 1 from ?_) (by decide) ?_
            · rw [Int32.sub_eq_add_neg]; rfl
            refine j_goto (pc := 169) F 38 dX9_valley_169 (by decide) ?_
            have sh : shp (sM s) ((sD s).2.2.2 u) (i + 1) dn un = if to = fr then shp (sM s) ((sD s).2.2.2 u) i dn un else if st = 0 then shp (sM s) ((sD s).2.2.2 u) i dn true else if dn = true ∧ ¬ st = 3 then 1 else shp (sM s) ((sD s).2.2.2 u) i (dn || decide (¬ st = 1)) un := by
              rw [shp, hfr, hto, hst]
            refine ih un2 dn2 va2 _ (by omega) (fun e => ?_) (fun e => ?_) ⟨rfl, rfl, rfl, rfl, rfl, rfl, trivial⟩
            · cases hva : va with
              | true => exact q2 hva
              | false =>
                have y1 := q3 hva
                rw [x2, hva, Bool.false_or, Bool.and_eq_true, decide_eq_true_iff] at e
                rw [y1, sh, if_neg (fun t => by have := hsame t.symm; omega), if_neg (by omega), if_pos ⟨e.1, by omega⟩]
            · cases hva : va with
              | true => rw [x2, hva] at e; cases e
              | false =>
                have y1 := q3 hva
                rw [x2, hva, Bool.false_or] at e
                rw [y1, sh, x1, x3]
                by_cases g1 : to = fr
                · have g2 := hsame g1.symm
                  rw [if_pos g1, decide_eq_false (show ¬ (¬ fr = to ∧ st = 0) from fun t => t.1 g1.symm), decide_eq_false (show ¬ (¬ st = 0 ∧ ¬ st = 1) from fun t => t.1 g2), Bool.or_false, Bool.or_false]
                · rw [if_neg g1]
                  by_cases g2 : st = 0
                  · rw [if_pos g2, decide_eq_true (show ¬ fr = to ∧ st = 0 from ⟨fun t => g1 t.symm, g2⟩), decide_eq_false (show ¬ (¬ st = 0 ∧ ¬ st = 1) from fun t => t.1 g2), Bool.or_true, Bool.or_false]
                  · have g3 : ¬ (dn = true ∧ ¬ st = 3) := by
                      rintro ⟨t1, t2⟩
                      rw [t1, Bool.true_and] at e
                      have := of_decide_eq_false e
                      omega
                    rw [if_neg g2, if_neg g3, decide_eq_false (show ¬ (¬ fr = to ∧ st = 0) from fun t => g2 t.2), Bool.or_false]
                    have : decide (¬ st = 1) = decide (¬ st = 0 ∧ ¬ st = 1) := decide_eq_decide.mpr ⟨fun t => ⟨g2, t⟩, fun t => t.2⟩
                    rw [this]
          have k2 : ∀ (un2 va2 : Bool) (lv : List (Nat × Value)), un2 = (un || decide (¬ fr = to ∧ st = 0)) → va2 = (va || (dn && decide (st = 1 ∨ st = 2))) → lall lv [(0, .ref y), (4, .int (nI u)), (5, .int (bI un2)), (6, .int (bI dn)), (7, .int (bI va2)), (8, .int (nI i)), (11, .int (nI st))] → J l X g A 12 (0 + 0) (0 + 0) h2 143 lv [] := by
            intro un2 va2 lv x1 x2 x4
            refine j_lv _ x4 ?_
            refine j_iload (pc := 143) F dX9_valley_143 rfl ?_
            first | refine j_if_neB (pc := 145) F 159 dX9_valley_145 (by decide) (fun c7 => ?_) (fun c7 => ?_) | refine j_if_neN (pc := 145) F 159 dX9_valley_145 (by decide) (by omega) (fun c7 => ?_) (fun c7 => ?_) | refine j_if_neI (pc := 145) F 159 dX9_valley_145 (by decide) (fun c7 => ?_) (fun c7 => ?_)
            · refine j_iconst (pc := 159) (v := (nI 1)) F dX9_valley_159 (by decide) ?_
              refine j_goto (pc := 160) F 164 dX9_valley_160 (by decide) ?_
              refine j_istore (pc := 164) F dX9_valley_164 (by decide) ?_
              exact k3 un2 true va2 _ x1 x2 (by rw [c7]; rfl) ⟨rfl, rfl, rfl, rfl, rfl, rfl, trivial⟩
            · refine j_iload (pc := 148) F dX9_valley_148 rfl ?_
              first | refine j_if_eqB (pc := 150) F 163 dX9_valley_150 (by decide) (fun c8 => ?_) (fun c8 => ?_) | refine j_if_eqN (pc := 150) F 163 dX9_valley_150 (by decide) (by omega) (fun c8 => ?_) (fun c8 => ?_) | refine j_if_eqI (pc := 150) F 163 dX9_valley_150 (by decide) (fun c8 => ?_) (fun c8 => ?_)
              · refine j_iconst (pc := 163) (v := (nI 0)) F dX9_valley_163 (by decide) ?_
                refine j_istore (pc := 164) F dX9_valley_164 (by decide) ?_
                exact k3 un2 false va2 _ x1 x2 (by rw [c7, decide_eq_false (fun t => t.1 c8)]; rfl) ⟨rfl, rfl, rfl, rfl, rfl, rfl, trivial⟩
              · refine j_iload (pc := 153) F dX9_valley_153 rfl ?_
                refine j_iconst (pc := 155) (v := (nI 1)) F dX9_valley_155 (by decide) ?_
                refine j_icmp_eqN (pc := 156) F 163 dX9_valley_156 (by decide) (by omega) (by omega) (fun c9 => ?_) (fun c9 => ?_)
                · refine j_iconst (pc := 163) (v := (nI 0)) F dX9_valley_163 (by decide) ?_
                  refine j_istore (pc := 164) F dX9_valley_164 (by decide) ?_
                  exact k3 un2 false va2 _ x1 x2 (by rw [c7, decide_eq_false (fun t => t.2 c9)]; rfl) ⟨rfl, rfl, rfl, rfl, rfl, rfl, trivial⟩
                · refine j_iconst (pc := 159) (v := (nI 1)) F dX9_valley_159 (by decide) ?_
                  refine j_goto (pc := 160) F 164 dX9_valley_160 (by decide) ?_
                  refine j_istore (pc := 164) F dX9_valley_164 (by decide) ?_
                  exact k3 un2 true va2 _ x1 x2 (by rw [c7, decide_eq_true ⟨c8, c9⟩]; rfl) ⟨rfl, rfl, rfl, rfl, rfl, rfl, trivial⟩
          have k1 : ∀ (un2 : Bool) (lv : List (Nat × Value)), un2 = (un || decide (¬ fr = to ∧ st = 0)) → lall lv [(0, .ref y), (4, .int (nI u)), (5, .int (bI un2)), (6, .int (bI dn)), (7, .int (bI va)), (8, .int (nI i)), (11, .int (nI st))] → J l X g A 12 (0 + 0) (0 + 0) h2 114 lv [] := by
            intro un2 lv x1 x4
            refine j_lv _ x4 ?_
            refine j_iload (pc := 114) F dX9_valley_114 rfl ?_
            first | refine j_if_neB (pc := 116) F 136 dX9_valley_116 (by decide) (fun c7 => ?_) (fun c7 => ?_) | refine j_if_neN (pc := 116) F 136 dX9_valley_116 (by decide) (by omega) (fun c7 => ?_) (fun c7 => ?_) | refine j_if_neI (pc := 116) F 136 dX9_valley_116 (by decide) (fun c7 => ?_) (fun c7 => ?_)
            · refine j_iconst (pc := 136) (v := (nI 1)) F dX9_valley_136 (by decide) ?_
              refine j_goto (pc := 137) F 141 dX9_valley_137 (by decide) ?_
              refine j_istore (pc := 141) F dX9_valley_141 (by decide) ?_
              exact k2 un2 true _ x1 (by rw [c7]; rfl) ⟨rfl, rfl, rfl, rfl, rfl, rfl, rfl, trivial⟩
            · refine j_iload (pc := 119) F dX9_valley_119 rfl ?_
              first | refine j_if_eqB (pc := 121) F 140 dX9_valley_121 (by decide) (fun c8 => ?_) (fun c8 => ?_) | refine j_if_eqN (pc := 121) F 140 dX9_valley_121 (by decide) (by omega) (fun c8 => ?_) (fun c8 => ?_) | refine j_if_eqI (pc := 121) F 140 dX9_valley_121 (by decide) (fun c8 => ?_) (fun c8 => ?_)
              · refine j_iconst (pc := 140) (v := (nI 0)) F dX9_valley_140 (by decide) ?_
                refine j_istore (pc := 141) F dX9_valley_141 (by decide) ?_
                exact k2 un2 false _ x1 (by rw [c7, c8]; rfl) ⟨rfl, rfl, rfl, rfl, rfl, rfl, rfl, trivial⟩
              · refine j_iload (pc := 124) F dX9_valley_124 rfl ?_
                refine j_iconst (pc := 126) (v := (nI 1)) F dX9_valley_126 (by decide) ?_
                refine j_icmp_eqN (pc := 127) F 136 dX9_valley_127 (by decide) (by omega) (by omega) (fun c9 => ?_) (fun c9 => ?_)
                · refine j_iconst (pc := 136) (v := (nI 1)) F dX9_valley_136 (by decide) ?_
                  refine j_goto (pc := 137) F 141 dX9_valley_137 (by decide) ?_
                  refine j_istore (pc := 141) F dX9_valley_141 (by decide) ?_
                  exact k2 un2 true _ x1 (by rw [c7, c8, decide_eq_true (Or.inl c9)]; rfl) ⟨rfl, rfl, rfl, rfl, rfl, rfl, rfl, trivial⟩
                · refine j_iload (pc := 130) F dX9_valley_130 rfl ?_
                  refine j_iconst (pc := 132) (v := (nI 2)) F dX9_valley_132 (by decide) ?_
                  refine j_icmp_neN (pc := 133) F 140 dX9_valley_133 (by decide) (by omega) (by omega) (fun c10 => ?_) (fun c10 => ?_)
                  · refine j_iconst (pc := 140) (v := (nI 0)) F dX9_valley_140 (by decide) ?_
                    refine j_istore (pc := 141) F dX9_valley_141 (by decide) ?_
                    exact k2 un2 false _ x1 (by rw [c7, c8, decide_eq_false (by omega)]; rfl) ⟨rfl, rfl, rfl, rfl, rfl, rfl, rfl, trivial⟩
                  · refine j_iconst (pc := 136) (v := (nI 1)) F dX9_valley_136 (by decide) ?_
                    refine j_goto (pc := 137) F 141 dX9_valley_137 (by decide) ?_
                    refine j_istore (pc := 141) F dX9_valley_141 (by decide) ?_
                    exact k2 un2 true _ x1 (by rw [c7, c8, decide_eq_true (Or.inr c10)]; rfl) ⟨rfl, rfl, rfl, rfl, rfl, rfl, rfl, trivial⟩
          refine j_iload (pc := 90) F dX9_valley_90 rfl ?_
          first | refine j_if_neB (pc := 92) F 107 dX9_valley_92 (by decide) (fun c7 => ?_) (fun c7 => ?_) | refine j_if_neN (pc := 92) F 107 dX9_valley_92 (by decide) (by omega) (fun c7 => ?_) (fun c7 => ?_) | refine j_if_neI (pc := 92) F 107 dX9_valley_92 (by decide) (fun c7 => ?_) (fun c7 => ?_)
          · refine j_iconst (pc := 107) (v := (nI 1)) F dX9_valley_107 (by decide) ?_
            refine j_goto (pc := 108) F 112 dX9_valley_108 (by decide) ?_
            refine j_istore (pc := 112) F dX9_valley_112 (by decide) ?_
            exact k1 true _ (by rw [c7]; rfl) ⟨rfl, rfl, rfl, rfl, rfl, rfl, rfl, trivial⟩
          · refine j_iload (pc := 95) F dX9_valley_95 rfl ?_
            refine j_iload (pc := 97) F dX9_valley_97 rfl ?_
            refine j_icmp_eqN (pc := 99) F 111 dX9_valley_99 (by decide) (by omega) (by omega) (fun c8 => ?_) (fun c8 => ?_)
            · refine j_iconst (pc := 111) (v := (nI 0)) F dX9_valley_111 (by decide) ?_
              refine j_istore (pc := 112) F dX9_valley_112 (by decide) ?_
              exact k1 false _ (by rw [c7, decide_eq_false (fun t => t.1 c8)]; rfl) ⟨rfl, rfl, rfl, rfl, rfl, rfl, rfl, trivial⟩
            · refine j_iload (pc := 102) F dX9_valley_102 rfl ?_
              first | refine j_if_neB (pc := 104) F 111 dX9_valley_104 (by decide) (fun c9 => ?_) (fun c9 => ?_) | refine j_if_neN (pc := 104) F 111 dX9_valley_104 (by decide) (by omega) (fun c9 => ?_) (fun c9 => ?_) | refine j_if_neI (pc := 104) F 111 dX9_valley_104 (by decide) (fun c9 => ?_) (fun c9 => ?_)
              · refine j_iconst (pc := 111) (v := (nI 0)) F dX9_valley_111 (by decide) ?_
                refine j_istore (pc := 112) F dX9_valley_112 (by decide) ?_
                exact k1 false _ (by rw [c7, decide_eq_false (fun t => c9 t.2)]; rfl) ⟨rfl, rfl, rfl, rfl, rfl, rfl, rfl, trivial⟩
              · refine j_iconst (pc := 107) (v := (nI 1)) F dX9_valley_107 (by decide) ?_
                refine j_goto (pc := 108) F 112 dX9_valley_108 (by decide) ?_
                refine j_istore (pc := 112) F dX9_valley_112 (by decide) ?_
                exact k1 true _ (by rw [c7, decide_eq_true ⟨c8, c9⟩]; rfl) ⟨rfl, rfl, rfl, rfl, rfl, rfl, rfl, trivial⟩
    refine loop ((sD s).2.2.1 u - 1) false false false _ (by omega) (fun e => by cases e) (fun _ => rfl) ⟨rfl, rfl, rfl, rfl, rfl, ?_, trivial⟩
    rcases (show (sD s).2.2.1 u = 1 ∨ 2 ≤ (sD s).2.2.1 u by omega) with e | e
    · rw [e]; rfl
    · rw [pk_sub (show 1 ≤ (sD s).2.2.1 u - 1 by omega), show (nI ((sD s).2.2.1 u) - nI 2) = nI ((sD s).2.2.1 u - 2) from pk_sub e, show (sD s).2.2.1 u - 1 - 1 = (sD s).2.2.1 u - 2 by omega]
      rfl
  · refine j_iconst (pc := 16) (v := (nI 0)) F dX9_valley_16 (by decide) ?_
    exact j_iret F hQ rfl rfl (by omega) (by omega) dX9_valley_17 ⟨z2.is hC, fun e => by omega⟩
end MQ5
