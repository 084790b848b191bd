section MQ4
variable {l : Launch} {g : GG} {A : Nat → Prop} {h h1 : HF} {y : Nat} {s s' : SG} {th th' : Nat} {a : Nat → Nat} {CC CC' : CT}
theorem c_X9_pathAt {p b c i : Int32} (w : wf s) (hM : isM g h y s th) : MI l g A h yX9_pathAt cX9_pathAt 6 (some .int) 4 0 0 [.ref y, .int p, .int b, .int c, .int i] (fun r h1 => isM g h1 y s (pcode s p b c i) ∧ (pcode s p b c i = 0 → ∃ u, tb (sD s) (sm s) (pN p) (pqN b c) = some u ∧ r = pAt ((sD s).2.2.1 u) ((sD s).2.2.2 u) i.toInt)) := by
  obtain ⟨a, CC, z, hC⟩ := hM
  have e0 := z.cl
  have hm := w.2.2.1.1
  by_cases c0 : i.toInt < 0
  · have ec : pcode s p b c i = 1 := if_pos c0
    refine j_met (by decide +kernel) (Nat.le_of_ble_eq_true rfl) (fun X F hn hQ => ?_)
    refine j_iload (pc := 0) F dX9_pathAt_0 rfl ?_
    first | refine j_if_geN (pc := 2) F 9 dX9_pathAt_2 (by decide) (by omega) (fun c1 => ?_) (fun c1 => ?_) | refine j_if_geI (pc := 2) F 9 dX9_pathAt_2 (by decide) (fun c1 => ?_) (fun c1 => ?_)
    · omega
    · refine j_iconst (pc := 5) (v := (-1)) F dX9_pathAt_5 (by decide) ?_
      refine j_goto (pc := 6) F 16 dX9_pathAt_6 (by decide) ?_
      refine j_istore (pc := 16) F dX9_pathAt_16 (by decide) ?_
      first | refine j_aload_n (pc := 18) F dX9_pathAt_18 rfl ?_ | refine j_aload_nq (pc := 18) F dX9_pathAt_18 rfl ?_
      refine j_iload (pc := 19) F dX9_pathAt_19 rfl ?_
      first | refine j_if_geN (pc := 21) F 28 dX9_pathAt_21 (by decide) (by omega) (fun c2 => ?_) (fun c2 => ?_) | refine j_if_geI (pc := 21) F 28 dX9_pathAt_21 (by decide) (fun c2 => ?_) (fun c2 => ?_)
      · omega
      · refine j_iconst (pc := 24) (v := (nI 1)) F dX9_pathAt_24 (by decide) ?_
        refine j_goto (pc := 25) F 32 dX9_pathAt_25 (by decide) ?_
        refine j_put (pc := 32) F fp_X9_47 (by first | assumption | exact hUp_s) (by rfl) (by rfl) (Nat.le_of_ble_eq_true rfl) dX9_pathAt_32 ?_
        generalize hh2 : hUp h y _ = h2
        have z2 : isMx g h2 y s 1 a CC := z.tw (by rw [← hh2]; exact hUp_s) (fun b hb => by rw [← hh2]; exact hUp_n hb)
        have e2 := z2.cl
        first | refine j_aload_n (pc := 35) F dX9_pathAt_35 rfl ?_ | refine j_aload_nq (pc := 35) F dX9_pathAt_35 rfl ?_
        refine j_get (pc := 36) F fg_X9_47 (by first | assumption | exact hUp_s) (by rfl) dX9_pathAt_36 ?_
        first | refine j_if_leN (pc := 39) F 44 dX9_pathAt_39 (by decide) (by omega) (fun c4 => ?_) (fun c4 => ?_) | refine j_if_leI (pc := 39) F 44 dX9_pathAt_39 (by decide) (fun c4 => ?_) (fun c4 => ?_)
        · omega
        · refine j_iconst (pc := 42) (v := (nI 0)) F dX9_pathAt_42 (by decide) ?_
          exact j_iret F hQ rfl rfl (by omega) (by omega) dX9_pathAt_43 ⟨by rw [ec]; exact z2.is hC, fun e => by rw [ec] at e; cases e⟩
  · obtain ⟨k, rfl⟩ : ∃ k, i = nI k := ⟨pN i, (nI_pN (by omega)).symm⟩
    have hk31 : (nI k).toInt < 2 ^ 31 := (nI k).toInt_lt
    obtain ⟨k, hk, e⟩ : ∃ k2, k2 < 2 ^ 31 ∧ nI k = nI k2 := ⟨pN (nI k), by unfold pN; omega, (nI_pN (by omega)).symm⟩
    rw [e] at c0 ⊢
    have ec : pcode s p b c (nI k) = rcode s p b c := if_neg c0
    rw [ec]
    refine j_met (by decide +kernel) (Nat.le_of_ble_eq_true rfl) (fun X F hn hQ => ?_)
    refine j_iload (pc := 0) F dX9_pathAt_0 rfl ?_
    first | refine j_if_geN (pc := 2) F 9 dX9_pathAt_2 (by decide) (by omega) (fun c1 => ?_) (fun c1 => ?_) | refine j_if_geI (pc := 2) F 9 dX9_pathAt_2 (by decide) (fun c1 => ?_) (fun c1 => ?_)
    · first | refine j_aload_n (pc := 9) F dX9_pathAt_9 rfl ?_ | refine j_aload_nq (pc := 9) F dX9_pathAt_9 rfl ?_
      refine j_iload_n (pc := 10) F dX9_pathAt_10 rfl ?_
      refine j_iload_n (pc := 11) F dX9_pathAt_11 rfl ?_
      refine j_iload_n (pc := 12) F dX9_pathAt_12 rfl ?_
      refine j_ri (j_runV (pc := 13) F (c_X9_route (p := p) (b := b) (c := c) hm hC z) m_X9_route mv_X9_route lk_X9_92 (by first | assumption | exact hUp_s) rfl ⟨by decide, by decide⟩ (Nat.le_of_ble_eq_true rfl) ⟨by omega, by omega⟩ rfl dX9_pathAt_13) (fun r h2 hp => ?_)
      obtain ⟨rfl, z2⟩ := hp
      have e2 := z2.cl
      have hr3 : rcode s p b c ≤ 3 := rcode_le
      refine j_istore (pc := 16) F dX9_pathAt_16 (by decide) ?_
      first | refine j_aload_n (pc := 18) F dX9_pathAt_18 rfl ?_ | refine j_aload_nq (pc := 18) F dX9_pathAt_18 rfl ?_
      refine j_iload (pc := 19) F dX9_pathAt_19 rfl ?_
      first | refine j_if_geN (pc := 21) F 28 dX9_pathAt_21 (by decide) (by omega) (fun c2 => ?_) (fun c2 => ?_) | refine j_if_geI (pc := 21) F 28 dX9_pathAt_21 (by decide) (fun c2 => ?_) (fun c2 => ?_)
      · first | refine j_aload_n (pc := 28) F dX9_pathAt_28 rfl ?_ | refine j_aload_nq (pc := 28) F dX9_pathAt_28 rfl ?_
        refine j_get (pc := 29) F fg_X9_47 (by first | assumption | exact hUp_s) (by rfl) dX9_pathAt_29 ?_
        refine j_put (pc := 32) F fp_X9_47 (by first | assumption | exact hUp_s) (by rfl) (by rfl) (Nat.le_of_ble_eq_true rfl) dX9_pathAt_32 ?_
        generalize hh3 : hUp h2 y _ = h3
        have z3 : isMx g h3 y s (rcode s p b c) a CC := z2.tw (by rw [← hh3]; exact hUp_s) (fun b hb => by rw [← hh3]; exact hUp_n hb)
        have e3 := z3.cl
        obtain ⟨f7, q7, p7⟩ := z3.a7
        obtain ⟨f8, q8, p8⟩ := z3.a8
        first | refine j_aload_n (pc := 35) F dX9_pathAt_35 rfl ?_ | refine j_aload_nq (pc := 35) F dX9_pathAt_35 rfl ?_
        refine j_get (pc := 36) F fg_X9_47 (by first | assumption | exact hUp_s) (by rfl) dX9_pathAt_36 ?_
        first | refine j_if_leN (pc := 39) F 44 dX9_pathAt_39 (by decide) (by omega) (fun c4 => ?_) (fun c4 => ?_) | refine j_if_leI (pc := 39) F 44 dX9_pathAt_39 (by decide) (fun c4 => ?_) (fun c4 => ?_)
        · have c5 : rcode s p b c = 0 := by omega
          obtain ⟨k1, k2, u, hu, hrt⟩ := rtv_0 c5
          obtain ⟨t1, t2, t3, t4⟩ := tb_lt hu
          have hz := (w.2.2.1.2.2.2 u t1).2.2.1
          rw [hrt]
          refine j_lv [(0, .ref y), (4, .int (nI k)), (5, .int (nI u))] ⟨rfl, rfl, rfl, trivial⟩ ?_
          refine j_iload (pc := 44) F dX9_pathAt_44 rfl ?_
          first | refine j_aload_n (pc := 46) F dX9_pathAt_46 rfl ?_ | refine j_aload_nq (pc := 46) F dX9_pathAt_46 rfl ?_
          refine j_get (pc := 47) F fg_X9_22 (by first | assumption | exact hUp_s) (by rfl) dX9_pathAt_47 ?_
          refine j_iload (pc := 50) F dX9_pathAt_50 rfl ?_
          refine j_ialdN (pc := 52) F (by first | assumption | exact hUp_s) (by omega) (by decide) dX9_pathAt_52 ?_
          refine j_int (p7 u t1) ?_
          first | refine j_icmp_geN (pc := 53) F 72 dX9_pathAt_53 (by decide) (by omega) (by omega) (fun c6 => ?_) (fun c6 => ?_) | refine j_icmp_geIN (pc := 53) F 72 dX9_pathAt_53 (by decide) (by omega) (fun c6 => ?_) (fun c6 => ?_) | refine j_icmp_geNI (pc := 53) F 72 dX9_pathAt_53 (by decide) (by omega) (fun c6 => ?_) (fun c6 => ?_) | refine j_icmp_geI (pc := 53) F 72 dX9_pathAt_53 (by decide) (fun c6 => ?_) (fun c6 => ?_)
          · refine j_iconst (pc := 72) (v := (-1)) F dX9_pathAt_72 (by decide) ?_
            refine j_iret F hQ rfl rfl (by omega) (by omega) dX9_pathAt_73 ⟨z3.is hC, fun _ => ⟨u, hu, ?_⟩⟩
            rw [pAt, if_neg (by rw [nI_toInt hk]; omega)]
          · first | refine j_aload_n (pc := 56) F dX9_pathAt_56 rfl ?_ | refine j_aload_nq (pc := 56) F dX9_pathAt_56 rfl ?_
            refine j_get (pc := 57) F fg_X9_25 (by first | assumption | exact hUp_s) (by rfl) dX9_pathAt_57 ?_
            refine j_bipush (pc := 60) (v := (nI 8)) F dX9_pathAt_60 (by decide) ?_
            refine j_iload (pc := 62) F dX9_pathAt_62 rfl ?_
            first | refine j_imulN (pc := 64) F dX9_pathAt_64 ?_ | refine j_imul (pc := 64) F dX9_pathAt_64 ?_
            refine j_iload (pc := 65) F dX9_pathAt_65 rfl ?_
            first | refine j_iaddN (pc := 67) F dX9_pathAt_67 ?_ | refine j_iadd (pc := 67) F dX9_pathAt_67 ?_
            refine j_ialdN (pc := 68) F (by first | assumption | exact hUp_s) (by omega) (by decide) dX9_pathAt_68 ?_
            refine j_goto (pc := 69) F 73 dX9_pathAt_69 (by decide) ?_
            refine j_iret F hQ rfl rfl (by omega) (by omega) dX9_pathAt_73 ⟨z3.is hC, fun _ => ⟨u, hu, ?_⟩⟩
            rw [pAt, if_pos (by rw [nI_toInt hk]; omega), nI_toInt hk]
            exact p8 u k t1 c6
        · refine j_iconst (pc := 42) (v := (nI 0)) F dX9_pathAt_42 (by decide) ?_
          exact j_iret F hQ rfl rfl (by omega) (by omega) dX9_pathAt_43 ⟨z3.is hC, fun e => by omega⟩
      · omega
    · omega
theorem c_X9_lookUpAt {t b : Int32} (w : wf s) (hM : isM g h y s th) : MI l g A h yX9_lookUpAt cX9_lookUpAt 3 (some .int) 4 0 0 [.ref y, .int t, .int b] (fun r h1 => isM g h1 y s (a1code b) ∧ (a1code b = 0 → r = vLook s (cAt s t) b)) := by
  obtain ⟨a, CC, z, hC⟩ := hM
  have e0 := z.cl
  refine j_met (by decide +kernel) (Nat.le_of_ble_eq_true rfl) (fun X F hn hQ => ?_)
  first | refine j_aload_n (pc := 0) F dX9_lookUpAt_0 rfl ?_ | refine j_aload_nq (pc := 0) F dX9_lookUpAt_0 rfl ?_
  refine j_iload_n (pc := 1) F dX9_lookUpAt_1 rfl ?_
  refine j_iconst (pc := 2) (v := (nI 0)) F dX9_lookUpAt_2 (by decide) ?_
  refine j_sipush (pc := 3) (v := (nI 255)) F dX9_lookUpAt_3 (by decide) ?_
  refine j_ri (j_runS (pc := 6) F (c_X9_in _ _ _) m_X9_in ms_X9_in lk_X9_51 ⟨by decide, by decide⟩ (Nat.le_of_ble_eq_true rfl) ⟨by omega, by omega⟩ rfl dX9_lookUpAt_6) (fun r h1 hp => ?_)
  obtain ⟨rfl, rfl⟩ := hp
  refine j_int (congrArg bI inAdr) ?_
  first | refine j_if_eqB (pc := 9) F 16 dX9_lookUpAt_9 (by decide) (fun c1 => ?_) (fun c1 => ?_) | refine j_if_eqN (pc := 9) F 16 dX9_lookUpAt_9 (by decide) (by omega) (fun c1 => ?_) (fun c1 => ?_) | refine j_if_eqI (pc := 9) F 16 dX9_lookUpAt_9 (by decide) (fun c1 => ?_) (fun c1 => ?_)
  · have ec : a1code b = 1 := by rw [a1code, if_neg (by rw [c1]; simp)]
    refine j_iconst (pc := 16) (v := (nI 1)) F dX9_lookUpAt_16 (by decide) ?_
    refine j_put (pc := 17) F fp_X9_47 (by first | assumption | exact hUp_s) (by rfl) (by rfl) (Nat.le_of_ble_eq_true rfl) dX9_lookUpAt_17 ?_
    generalize hh2 : hUp h1 y _ = h2
    have z2 : isMx g h2 y s 1 a CC := z.tw (by rw [← hh2]; exact hUp_s) (fun b hb => by rw [← hh2]; exact hUp_n hb)
    have e2 := z2.cl
    first | refine j_aload_n (pc := 20) F dX9_lookUpAt_20 rfl ?_ | refine j_aload_nq (pc := 20) F dX9_lookUpAt_20 rfl ?_
    refine j_get (pc := 21) F fg_X9_47 (by first | assumption | exact hUp_s) (by rfl) dX9_lookUpAt_21 ?_
    first | refine j_if_leN (pc := 24) F 29 dX9_lookUpAt_24 (by decide) (by omega) (fun c4 => ?_) (fun c4 => ?_) | refine j_if_leI (pc := 24) F 29 dX9_lookUpAt_24 (by decide) (fun c4 => ?_) (fun c4 => ?_)
    · omega
    · refine j_iconst (pc := 27) (v := (nI 0)) F dX9_lookUpAt_27 (by decide) ?_
      exact j_iret F hQ rfl rfl (by omega) (by omega) dX9_lookUpAt_28 ⟨by rw [ec]; exact z2.is hC, fun e => by rw [ec] at e; cases e⟩
  · obtain ⟨n1, n2⟩ := okAdr.n c1
    have ec : a1code b = 0 := if_pos c1
    refine j_iconst (pc := 12) (v := (nI 0)) F dX9_lookUpAt_12 (by decide) ?_
    refine j_goto (pc := 13) F 17 dX9_lookUpAt_13 (by decide) ?_
    refine j_put (pc := 17) F fp_X9_47 (by first | assumption | exact hUp_s) (by rfl) (by rfl) (Nat.le_of_ble_eq_true rfl) dX9_lookUpAt_17 ?_
    generalize hh2 : hUp h1 y _ = h2
    have z2 : isMx g h2 y s 0 a CC := z.tw (by rw [← hh2]; exact hUp_s) (fun b hb => by rw [← hh2]; exact hUp_n hb)
    have e2 := z2.cl
    first | refine j_aload_n (pc := 20) F dX9_lookUpAt_20 rfl ?_ | refine j_aload_nq (pc := 20) F dX9_lookUpAt_20 rfl ?_
    refine j_get (pc := 21) F fg_X9_47 (by first | assumption | exact hUp_s) (by rfl) dX9_lookUpAt_21 ?_
    first | refine j_if_leN (pc := 24) F 29 dX9_lookUpAt_24 (by decide) (by omega) (fun c4 => ?_) (fun c4 => ?_) | refine j_if_leI (pc := 24) F 29 dX9_lookUpAt_24 (by decide) (fun c4 => ?_) (fun c4 => ?_)
    · first | refine j_aload_n (pc := 29) F dX9_lookUpAt_29 rfl ?_ | refine j_aload_nq (pc := 29) F dX9_lookUpAt_29 rfl ?_
      refine j_iconst (pc := 30) (v := (nI 1)) F dX9_lookUpAt_30 (by decide) ?_
      refine j_iload_n (pc := 31) F dX9_lookUpAt_31 rfl ?_
      refine j_rv (j_runV (pc := 32) F (c_X9_replay (k := 1) (by decide) w z2) m_X9_replay mv_X9_replay lk_X9_123 (by first | assumption | exact hUp_s) rfl ⟨by decide, by decide⟩ (Nat.le_of_ble_eq_true rfl) ⟨by omega, by omega⟩ rfl dX9_lookUpAt_32) (fun h3 hp => ?_)
      obtain ⟨CC3, z3, g1, g2⟩ := hp
      have e3 := z3.cl
      first | refine j_aload_n (pc := 35) F dX9_lookUpAt_35 rfl ?_ | refine j_aload_nq (pc := 35) F dX9_lookUpAt_35 rfl ?_
      refine j_iconst (pc := 36) (v := (nI 1)) F dX9_lookUpAt_36 (by decide) ?_
      refine j_iload_n (pc := 37) F dX9_lookUpAt_37 rfl ?_
      have hcl := c_X9_lengthFound (l := l) (A := A) (k := 1) (n := cAt s t) (by decide) n2 w cAt_le (fun p q hp hq => by rw [g1]) z3
      rw [← n1] at hcl
      refine j_ri (j_runV (pc := 38) F (hcl) m_X9_lengthFound mv_X9_lengthFound lk_X9_105 (by first | assumption | exact hUp_s) rfl ⟨by decide, by decide⟩ (Nat.le_of_ble_eq_true rfl) ⟨by omega, by omega⟩ rfl dX9_lookUpAt_38) (fun r h6 hp => ?_)
      obtain ⟨rfl, rfl⟩ := hp
      exact j_iret F hQ rfl rfl (by omega) (by omega) dX9_lookUpAt_41 ⟨by rw [ec]; exact z3.is (fun p q hp hq => by rw [g2 0 (by decide)]; exact hC p q hp hq), fun _ => rfl⟩
    · omega
theorem c_X9_originAt {t b : Int32} (w : wf s) (hM : isM g h y s th) : MI l g A h yX9_originAt cX9_originAt 4 (some .int) 4 0 0 [.ref y, .int t, .int b] (fun r h1 => isM g h1 y s (a1code b) ∧ (a1code b = 0 → r = vOrg s (cAt s t) b)) := by
  obtain ⟨a, CC, z, hC⟩ := hM
  have e0 := z.cl
  have hm := w.2.2.1.1
  refine j_met (by decide +kernel) (Nat.le_of_ble_eq_true rfl) (fun X F hn hQ => ?_)
  first | refine j_aload_n (pc := 0) F dX9_originAt_0 rfl ?_ | refine j_aload_nq (pc := 0) F dX9_originAt_0 rfl ?_
  refine j_iload_n (pc := 1) F dX9_originAt_1 rfl ?_
  refine j_iconst (pc := 2) (v := (nI 0)) F dX9_originAt_2 (by decide) ?_
  refine j_sipush (pc := 3) (v := (nI 255)) F dX9_originAt_3 (by decide) ?_
  refine j_ri (j_runS (pc := 6) F (c_X9_in _ _ _) m_X9_in ms_X9_in lk_X9_51 ⟨by decide, by decide⟩ (Nat.le_of_ble_eq_true rfl) ⟨by omega, by omega⟩ rfl dX9_originAt_6) (fun r h1 hp => ?_)
  obtain ⟨rfl, rfl⟩ := hp
  refine j_int (congrArg bI inAdr) ?_
  first | refine j_if_eqB (pc := 9) F 16 dX9_originAt_9 (by decide) (fun c1 => ?_) (fun c1 => ?_) | refine j_if_eqN (pc := 9) F 16 dX9_originAt_9 (by decide) (by omega) (fun c1 => ?_) (fun c1 => ?_) | refine j_if_eqI (pc := 9) F 16 dX9_originAt_9 (by decide) (fun c1 => ?_) (fun c1 => ?_)
  · have ec : a1code b = 1 := by rw [a1code, if_neg (by rw [c1]; simp)]
    refine j_iconst (pc := 16) (v := (nI 1)) F dX9_originAt_16 (by decide) ?_
    refine j_put (pc := 17) F fp_X9_47 (by first | assumption | exact hUp_s) (by rfl) (by rfl) (Nat.le_of_ble_eq_true rfl) dX9_originAt_17 ?_
    generalize hh2 : hUp h1 y _ = h2
    have z2 : isMx g h2 y s 1 a CC := z.tw (by rw [← hh2]; exact hUp_s) (fun b hb => by rw [← hh2]; exact hUp_n hb)
    have e2 := z2.cl
    first | refine j_aload_n (pc := 20) F dX9_originAt_20 rfl ?_ | refine j_aload_nq (pc := 20) F dX9_originAt_20 rfl ?_
    refine j_get (pc := 21) F fg_X9_47 (by first | assumption | exact hUp_s) (by rfl) dX9_originAt_21 ?_
    first | refine j_if_leN (pc := 24) F 29 dX9_originAt_24 (by decide) (by omega) (fun c4 => ?_) (fun c4 => ?_) | refine j_if_leI (pc := 24) F 29 dX9_originAt_24 (by decide) (fun c4 => ?_) (fun c4 => ?_)
    · omega
    · refine j_iconst (pc := 27) (v := (nI 0)) F dX9_originAt_27 (by decide) ?_
      exact j_iret F hQ rfl rfl (by omega) (by omega) dX9_originAt_28 ⟨by rw [ec]; exact z2.is hC, fun e => by rw [ec] at e; cases e⟩
  · obtain ⟨n1, n2⟩ := okAdr.n c1
    have ec : a1code b = 0 := if_pos c1
    refine j_iconst (pc := 12) (v := (nI 0)) F dX9_originAt_12 (by decide) ?_
    refine j_goto (pc := 13) F 17 dX9_originAt_13 (by decide) ?_
    refine j_put (pc := 17) F fp_X9_47 (by first | assumption | exact hUp_s) (by rfl) (by rfl) (Nat.le_of_ble_eq_true rfl) dX9_originAt_17 ?_
    generalize hh2 : hUp h1 y _ = h2
    have z2 : isMx g h2 y s 0 a CC := z.tw (by rw [← hh2]; exact hUp_s) (fun b hb => by rw [← hh2]; exact hUp_n hb)
    have e2 := z2.cl
    first | refine j_aload_n (pc := 20) F dX9_originAt_20 rfl ?_ | refine j_aload_nq (pc := 20) F dX9_originAt_20 rfl ?_
    refine j_get (pc := 21) F fg_X9_47 (by first | assumption | exact hUp_s) (by rfl) dX9_originAt_21 ?_
    first | refine j_if_leN (pc := 24) F 29 dX9_originAt_24 (by decide) (by omega) (fun c4 => ?_) (fun c4 => ?_) | refine j_if_leI (pc := 24) F 29 dX9_originAt_24 (by decide) (fun c4 => ?_) (fun c4 => ?_)
    · first | refine j_aload_n (pc := 29) F dX9_originAt_29 rfl ?_ | refine j_aload_nq (pc := 29) F dX9_originAt_29 rfl ?_
      refine j_iconst (pc := 30) (v := (nI 1)) F dX9_originAt_30 (by decide) ?_
      refine j_iload_n (pc := 31) F dX9_originAt_31 rfl ?_
      refine j_rv (j_runV (pc := 32) F (c_X9_replay (k := 1) (by decide) w z2) m_X9_replay mv_X9_replay lk_X9_123 (by first | assumption | exact hUp_s) rfl ⟨by decide, by decide⟩ (Nat.le_of_ble_eq_true rfl) ⟨by omega, by omega⟩ rfl dX9_originAt_32) (fun h3 hp => ?_)
      obtain ⟨CC3, z3, g1, g2⟩ := hp
      have e3 := z3.cl
      have hC3 : ∀ p q, p < 6 → q < 512 → CC3 0 p q = tb (sD s) (sm s) p q := fun p q hp hq => by rw [g2 0 (by decide)]; exact hC p q hp hq
      first | refine j_aload_n (pc := 35) F dX9_originAt_35 rfl ?_ | refine j_aload_nq (pc := 35) F dX9_originAt_35 rfl ?_
      refine j_iconst (pc := 36) (v := (nI 1)) F dX9_originAt_36 (by decide) ?_
      refine j_iload_n (pc := 37) F dX9_originAt_37 rfl ?_
      have hcl := c_X9_found (l := l) (A := A) (k := 1) (n := cAt s t) (by decide) n2 w cAt_le (fun p q hp hq => by rw [g1]) z3
      rw [← n1] at hcl
      refine j_ri (j_runV (pc := 38) F (hcl) m_X9_found mv_X9_found lk_X9_99 (by first | assumption | exact hUp_s) rfl ⟨by decide, by decide⟩ (Nat.le_of_ble_eq_true rfl) ⟨by omega, by omega⟩ rfl dX9_originAt_38) (fun r h6 hp => ?_)
      obtain ⟨rfl, rfl⟩ := hp
      have hfl := fndp_lt (D := sD s) (n := cAt s t) n2 (Nat.le_refl 9)
      refine j_istore_n (pc := 41) F dX9_originAt_41 (by decide) ?_
      refine j_iload_n (pc := 42) F dX9_originAt_42 rfl ?_
      first | refine j_if_neB (pc := 43) F 50 dX9_originAt_43 (by decide) (fun c5 => ?_) (fun c5 => ?_) | refine j_if_neN (pc := 43) F 50 dX9_originAt_43 (by decide) (by omega) (fun c5 => ?_) (fun c5 => ?_) | refine j_if_neI (pc := 43) F 50 dX9_originAt_43 (by decide) (fun c5 => ?_) (fun c5 => ?_)
      · first | refine j_aload_n (pc := 50) F dX9_originAt_50 rfl ?_ | refine j_aload_nq (pc := 50) F dX9_originAt_50 rfl ?_
        first | refine j_aload_n (pc := 51) F dX9_originAt_51 rfl ?_ | refine j_aload_nq (pc := 51) F dX9_originAt_51 rfl ?_
        refine j_iconst (pc := 52) (v := (nI 1)) F dX9_originAt_52 (by decide) ?_
        refine j_iload_n (pc := 53) F dX9_originAt_53 rfl ?_
        refine j_ri (j_runV (pc := 54) F (c_X9_best (k := 1) (n := cAt s t) (by decide) (show fndp (sD s) (cAt s t) (pN b) 9 < 512 by omega) cAt_le hm w.Z (fun p hp => by rw [g1]) z3) m_X9_best mv_X9_best lk_X9_70 (by first | assumption | exact hUp_s) rfl ⟨by decide, by decide⟩ (Nat.le_of_ble_eq_true rfl) ⟨by omega, by omega⟩ rfl dX9_originAt_54) (fun r h7 hp => ?_)
        obtain ⟨rfl, rfl⟩ := hp
        cases hb : bstT (sD s) (cAt s t) (fndp (sD s) (cAt s t) (pN b) 9) with
        | none =>
          exfalso
          rcases fndp_at (D := sD s) (n := cAt s t) (a := pN b) (k := 9) with ⟨h1, -⟩ | ⟨i, -, h2, h3, -⟩
          · exact c5 h1
          · rw [h2] at hb; rw [hb] at h3; cases h3
        | some u =>
          obtain ⟨hu, hu2, -⟩ := bstT_lt hb
          have hle : cAt s t ≤ sm s := cAt_le
          have hzu := (w.2.2.1.2.2.2 u (by omega)).2.2.1
          refine j_ri (j_runV (pc := 57) F (c_X9_origin (u := u) (by omega) hm ⟨hu2.2, hzu⟩ z3) m_X9_origin mv_X9_origin lk_X9_111 (by first | assumption | exact hUp_s) rfl ⟨by decide, by decide⟩ (Nat.le_of_ble_eq_true rfl) ⟨by omega, by omega⟩ rfl dX9_originAt_57) (fun r h8 hp => ?_)
          obtain ⟨rfl, rfl⟩ := hp
          exact j_iret F hQ rfl rfl (by omega) (by omega) dX9_originAt_60 ⟨by rw [ec]; exact z3.is hC3, fun _ => by rw [vOrg, fnd, hb]⟩
      · refine j_iconst (pc := 46) (v := (-1)) F dX9_originAt_46 (by decide) ?_
        refine j_goto (pc := 47) F 60 dX9_originAt_47 (by decide) ?_
        refine j_iret F hQ rfl rfl (by omega) (by omega) dX9_originAt_60 ⟨by rw [ec]; exact z3.is hC3, fun _ => ?_⟩
        rw [vOrg, fnd, c5, show bstT (sD s) (cAt s t) 0 = none from bst_none.mpr (fun p _ => tb_0)]
    · omega
theorem c_X9_changes {t t2 : Int32} (w : wf s) (hM : isM g h y s th) : MI l g A h yX9_changes cX9_changes 5 (some .int) 4 0 0 [.ref y, .int t, .int t2] (fun r h1 => r = vChg s (cAt s t) (cAt s t2) ∧ isM g h1 y s 0) := by
  obtain ⟨a, CC, z, hC⟩ := hM
  have e0 := z.cl
  have hm := w.2.2.1.1
  refine j_met (by decide +kernel) (Nat.le_of_ble_eq_true rfl) (fun X F hn hQ => ?_)
  first | refine j_aload_n (pc := 0) F dX9_changes_0 rfl ?_ | refine j_aload_nq (pc := 0) F dX9_changes_0 rfl ?_
  refine j_iconst (pc := 1) (v := (nI 0)) F dX9_changes_1 (by decide) ?_
  refine j_put (pc := 2) F fp_X9_47 (by first | assumption | exact hUp_s) (by rfl) (by rfl) (Nat.le_of_ble_eq_true rfl) dX9_changes_2 ?_
  generalize hh2 : hUp h y _ = h2
  have z2 : isMx g h2 y s 0 a CC := z.tw (by rw [← hh2]; exact hUp_s) (fun b hb => by rw [← hh2]; exact hUp_n hb)
  have e2 := z2.cl
  first | refine j_aload_n (pc := 5) F dX9_changes_5 rfl ?_ | refine j_aload_nq (pc := 5) F dX9_changes_5 rfl ?_
  refine j_iconst (pc := 6) (v := (nI 1)) F dX9_changes_6 (by decide) ?_
  refine j_iload_n (pc := 7) F dX9_changes_7 rfl ?_
  refine j_rv (j_runV (pc := 8) F (c_X9_replay (k := 1) (by decide) w z2) m_X9_replay mv_X9_replay lk_X9_123 (by first | assumption | exact hUp_s) rfl ⟨by decide, by decide⟩ (Nat.le_of_ble_eq_true rfl) ⟨by omega, by omega⟩ rfl dX9_changes_8) (fun h3 hp => ?_)
  obtain ⟨CC3, z3, g1, g2⟩ := hp
  have e3 := z3.cl
  first | refine j_aload_n (pc := 11) F dX9_changes_11 rfl ?_ | refine j_aload_nq (pc := 11) F dX9_changes_11 rfl ?_
  refine j_iconst (pc := 12) (v := (nI 2)) F dX9_changes_12 (by decide) ?_
  refine j_iload_n (pc := 13) F dX9_changes_13 rfl ?_
  refine j_rv (j_runV (pc := 14) F (c_X9_replay (k := 2) (by decide) w z3) m_X9_replay mv_X9_replay lk_X9_123 (by first | assumption | exact hUp_s) rfl ⟨by decide, by decide⟩ (Nat.le_of_ble_eq_true rfl) ⟨by omega, by omega⟩ rfl dX9_changes_14) (fun h4 hp => ?_)
  obtain ⟨CC4, z4, g3, g4⟩ := hp
  have e4 := z4.cl
  have hC4 : ∀ p q, p < 6 → q < 512 → CC4 0 p q = tb (sD s) (sm s) p q := fun p q hp hq => by rw [g4 0 (by decide), g2 0 (by decide)]; exact hC p q hp hq
  have g5 : CC4 1 = tb (sD s) (cAt s t) := by rw [g4 1 (by decide), g1]
  refine j_iconst (pc := 17) (v := (nI 0)) F dX9_changes_17 (by decide) ?_
  refine j_istore_n (pc := 18) F dX9_changes_18 (by decide) ?_
  refine j_iconst (pc := 19) (v := (nI 1)) F dX9_changes_19 (by decide) ?_
  refine j_istore (pc := 20) F dX9_changes_20 (by decide) ?_
  have loop : ∀ m i (lv : List (Nat × Value)), 511 < i + m → i ≤ 511 → lall lv [(0, .ref y), (3, .int (nI (cnt (fun j => unl (sD s) (bstT (sD s) (cAt s t) (j + 1)) (bstT (sD s) (cAt s t2) (j + 1))) i))), (4, .int (nI (i + 1)))] → J l X g A 5 (0 + 0 + 0) (0 + 0 + 0) h4 22 lv [] := by
    intro m
    induction m with
    | zero => intro i lv q1 q2; omega
    | succ m ih =>
      intro i lv q1 q2 q3
      refine j_lv _ q3 ?_
      refine j_iload (pc := 22) F dX9_changes_22 rfl ?_
      refine j_sipush (pc := 24) (v := (nI 512)) F dX9_changes_24 (by decide) ?_
      first | refine j_icmp_geN (pc := 27) F 65 dX9_changes_27 (by decide) (by omega) (by omega) (fun c => ?_) (fun c => ?_) | refine j_icmp_geIN (pc := 27) F 65 dX9_changes_27 (by decide) (by omega) (fun c => ?_) (fun c => ?_) | refine j_icmp_geNI (pc := 27) F 65 dX9_changes_27 (by decide) (by omega) (fun c => ?_) (fun c => ?_) | refine j_icmp_geI (pc := 27) F 65 dX9_changes_27 (by decide) (fun c => ?_) (fun c => ?_)
      · have : i = 511 := by omega
        subst this
        refine j_iload_n (pc := 65) F dX9_changes_65 rfl ?_
        exact j_iret F hQ rfl rfl (by omega) (by omega) dX9_changes_66 ⟨rfl, z4.is hC4⟩
      · have hle : cAt s t ≤ sm s := cAt_le
        have hle2 : cAt s t2 ≤ sm s := cAt_le
        refine j_iload_n (pc := 30) F dX9_changes_30 rfl ?_
        first | refine j_aload_n (pc := 31) F dX9_changes_31 rfl ?_ | refine j_aload_nq (pc := 31) F dX9_changes_31 rfl ?_
        first | refine j_aload_n (pc := 32) F dX9_changes_32 rfl ?_ | refine j_aload_nq (pc := 32) F dX9_changes_32 rfl ?_
        refine j_iconst (pc := 33) (v := (nI 1)) F dX9_changes_33 (by decide) ?_
        refine j_iload (pc := 34) F dX9_changes_34 rfl ?_
        refine j_ri (j_runV (pc := 36) F (c_X9_best (k := 1) (q := i + 1) (n := cAt s t) (by decide) (by omega) cAt_le hm w.Z (fun p hp => by rw [g5]) z4) m_X9_best mv_X9_best lk_X9_70 (by first | assumption | exact hUp_s) rfl ⟨by decide, by decide⟩ (Nat.le_of_ble_eq_true rfl) ⟨by omega, by omega⟩ rfl dX9_changes_36) (fun r h5 hp => ?_)
        obtain ⟨rfl, rfl⟩ := hp
        first | refine j_aload_n (pc := 39) F dX9_changes_39 rfl ?_ | refine j_aload_nq (pc := 39) F dX9_changes_39 rfl ?_
        refine j_iconst (pc := 40) (v := (nI 2)) F dX9_changes_40 (by decide) ?_
        refine j_iload (pc := 41) F dX9_changes_41 rfl ?_
        refine j_ri (j_runV (pc := 43) F (c_X9_best (k := 2) (q := i + 1) (n := cAt s t2) (by decide) (by omega) cAt_le hm w.Z (fun p hp => by rw [g3]) z4) m_X9_best mv_X9_best lk_X9_70 (by first | assumption | exact hUp_s) rfl ⟨by decide, by decide⟩ (Nat.le_of_ble_eq_true rfl) ⟨by omega, by omega⟩ rfl dX9_changes_43) (fun r h6 hp => ?_)
        obtain ⟨rfl, rfl⟩ := hp
        refine j_ri (j_runV (pc := 46) F (c_X9_areAlike w (fun v hv => by have := (bstT_lt hv).1; omega) (fun v hv => by have := (bstT_lt hv).1; omega) z4) m_X9_areAlike mv_X9_areAlike lk_X9_126 (by first | assumption | exact hUp_s) rfl ⟨by decide, by decide⟩ (Nat.le_of_ble_eq_true rfl) ⟨by omega, by omega⟩ rfl dX9_changes_46) (fun r h7 hp => ?_)
        obtain ⟨rfl, rfl⟩ := hp
        first | refine j_if_eqB (pc := 49) F 56 dX9_changes_49 (by decide) (fun c2 => ?_) (fun c2 => ?_) | refine j_if_eqN (pc := 49) F 56 dX9_changes_49 (by decide) (by omega) (fun c2 => ?_) (fun c2 => ?_) | refine j_if_eqI (pc := 49) F 56 dX9_changes_49 (by decide) (fun c2 => ?_) (fun c2 => ?_)
        · have c2 : unl (sD s) (bstT (sD s) (cAt s t) (i + 1)) (bstT (sD s) (cAt s t2) (i + 1)) = true := by simpa using c2
          refine j_iconst (pc := 56) (v := (nI 1)) F dX9_changes_56 (by decide) ?_
          first | refine j_iaddN (pc := 57) F dX9_changes_57 ?_ | refine j_iadd (pc := 57) F dX9_changes_57 ?_
          refine j_istore_n (pc := 58) F dX9_changes_58 (by decide) ?_
          first | refine j_iincN (pc := 59) F dX9_changes_59 rfl (by decide) ?_ | refine j_iincM (pc := 59) F dX9_changes_59 rfl (by decide) ?_ | refine j_iinc (pc := 59) F dX9_changes_59 rfl rfl (by decide) ?_
          refine j_goto (pc := 62) F 22 dX9_changes_62 (by decide) ?_
          refine ih (i + 1) _ (by omega) (by omega) ⟨rfl, ?_, rfl, trivial⟩
          rw [show cnt (fun j => unl (sD s) (bstT (sD s) (cAt s t) (j + 1)) (bstT (sD s) (cAt s t2) (j + 1))) (i + 1) = cnt (fun j => unl (sD s) (bstT (sD s) (cAt s t) (j + 1)) (bstT (sD s) (cAt s t2) (j + 1))) i + 1 by rw [cnt, if_pos c2]]
          rfl
        · have c2 : unl (sD s) (bstT (sD s) (cAt s t) (i + 1)) (bstT (sD s) (cAt s t2) (i + 1)) = false := by simpa using c2
          refine j_iconst (pc := 52) (v := (nI 0)) F dX9_changes_52 (by decide) ?_
          refine j_goto (pc := 53) F 57 dX9_changes_53 (by decide) ?_
          first | refine j_iaddN (pc := 57) F dX9_changes_57 ?_ | refine j_iadd (pc := 57) F dX9_changes_57 ?_
          refine j_istore_n (pc := 58) F dX9_changes_58 (by decide) ?_
          first | refine j_iincN (pc := 59) F dX9_changes_59 rfl (by decide) ?_ | refine j_iincM (pc := 59) F dX9_changes_59 rfl (by decide) ?_ | refine j_iinc (pc := 59) F dX9_changes_59 rfl rfl (by decide) ?_
          refine j_goto (pc := 62) F 22 dX9_changes_62 (by decide) ?_
          refine ih (i + 1) _ (by omega) (by omega) ⟨rfl, ?_, rfl, trivial⟩
          rw [show cnt (fun j => unl (sD s) (bstT (sD s) (cAt s t) (j + 1)) (bstT (sD s) (cAt s t2) (j + 1))) (i + 1) = cnt (fun j => unl (sD s) (bstT (sD s) (cAt s t) (j + 1)) (bstT (sD s) (cAt s t2) (j + 1))) i + 0 by rw [cnt, if_neg (by rw [c2]; simp)]]
          rfl
  exact loop 512 0 _ (by omega) (by omega) ⟨rfl, rfl, rfl, trivial⟩
end MQ4
