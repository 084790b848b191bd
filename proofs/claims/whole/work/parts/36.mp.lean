/-! ===== BgpreplayModel: its private methods ===== -/
section MP
variable {l : Launch} {g : GG} {A : Nat → Prop} {h h1 : HF} {y : Nat} {s s' : SG} {th th' : Nat} {a : Nat → Nat} {CC CC' : CT}
theorem c_X9_apply {k u : Nat} (hk : k < 3) (hu : u < sm s) (d : uOk (sD s) u) (hm : sm s ≤ 300) (z : isMx g h y s th a CC) : MVo l g A h yX9_apply cX9_apply 4 1 0 0 [.ref y, .int (nI k), .int (nI u)] (fun h1 => isMx g h1 y s th a (ctUp CC k (stepD (sD s) u (CC k))) ∧ ∀ b, b ≠ a 9 → h1 b = h b) := by
  have e0 := z.cl
  obtain ⟨f5, q5, p5⟩ := z.a5
  obtain ⟨f6, q6, p6⟩ := z.a6
  obtain ⟨f7, q7, p7⟩ := z.a7
  obtain ⟨f9, q9, p9⟩ := z.a9
  have n0 := z.ya (k := 9) rfl
  obtain ⟨d1, d2, d3, d4, -⟩ := d
  have fin : ∀ v : Int32, 0 < (sD s).2.1 u → v = oI (if 0 < (sD s).2.2.1 u then some u else none) → isMx g (hUp h (a 9) (aI g 9216 (upd f9 (3072 * k + 512 * (sD s).1 u + (sD s).2.1 u) v))) y s th a (ctUp CC k (stepD (sD s) u (CC k))) ∧ ∀ b, b ≠ a 9 → hUp h (a 9) (aI g 9216 (upd f9 (3072 * k + 512 * (sD s).1 u + (sD s).2.1 u) v)) b = h b := fun v hq hv => by
    refine ⟨z.t9 hUp_s (fun i p q h1 h2 h3 => ?_) (fun b hb => hUp_n hb), fun b hb => hUp_n hb⟩
    unfold upd
    by_cases c : 3072 * i + 512 * p + q = 3072 * k + 512 * (sD s).1 u + (sD s).2.1 u
    · obtain ⟨rfl, rfl, rfl⟩ : i = k ∧ p = (sD s).1 u ∧ q = (sD s).2.1 u := by omega
      rw [if_pos rfl, ctUp_s, stepD, if_pos ⟨rfl, Or.inr rfl⟩, hv]
      by_cases c2 : 0 < (sD s).2.2.1 u
      · rw [if_pos c2, if_pos ⟨hq, c2⟩]
      · rw [if_neg c2, if_neg (fun w => c2 w.2)]
    · rw [if_neg c, p9 i p q h1 h2 h3]
      by_cases c3 : i = k
      · subst c3
        rw [ctUp_s, stepD, if_neg (by omega)]
      · rw [ctUp_n c3]
  refine j_met (by decide +kernel) (Nat.le_of_ble_eq_true rfl) (fun X F hn hQ => ?_)
  first | refine j_aload_n (pc := 0) F dX9_apply_0 rfl ?_ | refine j_aload_nq (pc := 0) F dX9_apply_0 rfl ?_
  refine j_get (pc := 1) F fg_X9_19 (by first | assumption | exact hUp_s) (by rfl) dX9_apply_1 ?_
  refine j_iload_n (pc := 4) F dX9_apply_4 rfl ?_
  refine j_ialdN (pc := 5) F (by first | assumption | exact hUp_s) (by omega) (by decide) dX9_apply_5 ?_
  refine j_int (p6 u hu) ?_
  first | refine j_if_leN (pc := 6) F 45 dX9_apply_6 (by decide) (by omega) (fun c => ?_) (fun c => ?_) | refine j_if_leI (pc := 6) F 45 dX9_apply_6 (by decide) (fun c => ?_) (fun c => ?_)
  · have hq0 : (sD s).2.1 u = 0 := by omega
    refine j_iconst (pc := 45) (v := (nI 0)) F dX9_apply_45 (by decide) ?_
    refine j_istore_n (pc := 46) F dX9_apply_46 (by decide) ?_
    have loop : ∀ m i (h2 : HF) (f : Nat → Int32) (lv : List (Nat × Value)), 512 < i + m → i ≤ 512 → h2 (a 9) = some (aI g 9216 f) → (∀ b, b ≠ a 9 → h2 b = h b) → (∀ j, f j = if 3072 * k + 512 * (sD s).1 u ≤ j ∧ j < 3072 * k + 512 * (sD s).1 u + i then -1 else f9 j) → lall lv [(0, .ref y), (1, .int (nI k)), (2, .int (nI u)), (3, .int (nI i))] → J l X g A 4 0 0 h2 47 lv [] := by
      intro m
      induction m with
      | zero => intro i h2 f lv w1 w2; omega
      | succ m ih =>
        intro i h2 f lv w1 w2 w3 w4 w5 w6
        have e2 := (w4 y n0).trans e0
        have r5 := (w4 (a 5) (z.2.2 5 9 rfl rfl (by decide))).trans q5
        refine j_lv _ w6 ?_
        refine j_iload_n (pc := 47) F dX9_apply_47 rfl ?_
        refine j_sipush (pc := 48) (v := (nI 512)) F dX9_apply_48 (by decide) ?_
        first | refine j_icmp_geN (pc := 51) F 77 dX9_apply_51 (by decide) (by omega) (by omega) (fun c2 => ?_) (fun c2 => ?_) | refine j_icmp_geIN (pc := 51) F 77 dX9_apply_51 (by decide) (by omega) (fun c2 => ?_) (fun c2 => ?_) | refine j_icmp_geNI (pc := 51) F 77 dX9_apply_51 (by decide) (by omega) (fun c2 => ?_) (fun c2 => ?_) | refine j_icmp_geI (pc := 51) F 77 dX9_apply_51 (by decide) (fun c2 => ?_) (fun c2 => ?_)
        · have : i = 512 := by omega
          subst this
          refine j_vret F hQ rfl (by omega) (by omega) dX9_apply_77 ⟨z.t9 w3 (fun i2 p q h1 h2 h3 => ?_) w4, w4⟩
          rw [w5]
          by_cases c3 : i2 = k
          · subst c3
            rw [ctUp_s, stepD]
            by_cases c4 : p = (sD s).1 u
            · subst c4
              rw [if_pos (by omega), if_pos ⟨rfl, Or.inl hq0⟩, if_neg (by omega)]
              rfl
            · rw [if_neg (by omega), if_neg (fun w => c4 w.1)]
              exact p9 i2 p q h1 h2 h3
          · rw [if_neg (by omega), ctUp_n c3]
            exact p9 i2 p q h1 h2 h3
        · first | refine j_aload_n (pc := 54) F dX9_apply_54 rfl ?_ | refine j_aload_nq (pc := 54) F dX9_apply_54 rfl ?_
          refine j_get (pc := 55) F fg_X9_28 (by first | assumption | exact hUp_s) (by rfl) dX9_apply_55 ?_
          refine j_iload_n (pc := 58) F dX9_apply_58 rfl ?_
          first | refine j_aload_n (pc := 59) F dX9_apply_59 rfl ?_ | refine j_aload_nq (pc := 59) F dX9_apply_59 rfl ?_
          refine j_get (pc := 60) F fg_X9_16 (by first | assumption | exact hUp_s) (by rfl) dX9_apply_60 ?_
          refine j_iload_n (pc := 63) F dX9_apply_63 rfl ?_
          refine j_ialdN (pc := 64) F (by first | assumption | exact hUp_s) (by omega) (by decide) dX9_apply_64 ?_
          refine j_int (p5 u hu) ?_
          refine j_iload_n (pc := 65) F dX9_apply_65 rfl ?_
          refine j_ri (j_runS (pc := 66) F (c_X9_placeOf) m_X9_placeOf ms_X9_placeOf lk_X9_55 ⟨by decide, by decide⟩ (Nat.le_of_ble_eq_true rfl) ⟨by omega, by omega⟩ rfl dX9_apply_66) (fun r h3 hp => ?_)
          obtain ⟨rfl, rfl⟩ := hp
          refine j_iconst (pc := 69) (v := (-1)) F dX9_apply_69 (by decide) ?_
          refine j_iastN (pc := 70) F (by first | assumption | exact hUp_s) (by omega) (by decide) dX9_apply_70 ?_
          first | refine j_iincN (pc := 71) F dX9_apply_71 rfl (by decide) ?_ | refine j_iincM (pc := 71) F dX9_apply_71 rfl (by decide) ?_ | refine j_iinc (pc := 71) F dX9_apply_71 rfl rfl (by decide) ?_
          refine j_goto (pc := 74) F 47 dX9_apply_74 (by decide) ?_
          refine ih (i + 1) _ _ _ (by omega) (by omega) hUp_s (fun b hb => (hUp_n hb).trans (w4 b hb)) (fun j => ?_) ⟨rfl, rfl, rfl, rfl, trivial⟩
          unfold upd
          by_cases c3 : j = 3072 * k + 512 * (sD s).1 u + i
          · rw [if_pos c3, if_pos (by omega)]
          · rw [if_neg c3, w5]
            by_cases c4 : 3072 * k + 512 * (sD s).1 u ≤ j ∧ j < 3072 * k + 512 * (sD s).1 u + i
            · rw [if_pos c4, if_pos (by omega)]
            · rw [if_neg c4, if_neg (by omega)]
    exact loop 513 0 h f9 _ (by omega) (by omega) q9 (fun _ _ => rfl) (fun j => by rw [if_neg (by omega)]) ⟨rfl, rfl, rfl, rfl, trivial⟩
  · first | refine j_aload_n (pc := 9) F dX9_apply_9 rfl ?_ | refine j_aload_nq (pc := 9) F dX9_apply_9 rfl ?_
    refine j_get (pc := 10) F fg_X9_28 (by first | assumption | exact hUp_s) (by rfl) dX9_apply_10 ?_
    refine j_iload_n (pc := 13) F dX9_apply_13 rfl ?_
    first | refine j_aload_n (pc := 14) F dX9_apply_14 rfl ?_ | refine j_aload_nq (pc := 14) F dX9_apply_14 rfl ?_
    refine j_get (pc := 15) F fg_X9_16 (by first | assumption | exact hUp_s) (by rfl) dX9_apply_15 ?_
    refine j_iload_n (pc := 18) F dX9_apply_18 rfl ?_
    refine j_ialdN (pc := 19) F (by first | assumption | exact hUp_s) (by omega) (by decide) dX9_apply_19 ?_
    refine j_int (p5 u hu) ?_
    first | refine j_aload_n (pc := 20) F dX9_apply_20 rfl ?_ | refine j_aload_nq (pc := 20) F dX9_apply_20 rfl ?_
    refine j_get (pc := 21) F fg_X9_19 (by first | assumption | exact hUp_s) (by rfl) dX9_apply_21 ?_
    refine j_iload_n (pc := 24) F dX9_apply_24 rfl ?_
    refine j_ialdN (pc := 25) F (by first | assumption | exact hUp_s) (by omega) (by decide) dX9_apply_25 ?_
    refine j_int (p6 u hu) ?_
    refine j_ri (j_runS (pc := 26) F (c_X9_placeOf) m_X9_placeOf ms_X9_placeOf lk_X9_55 ⟨by decide, by decide⟩ (Nat.le_of_ble_eq_true rfl) ⟨by omega, by omega⟩ rfl dX9_apply_26) (fun r h3 hp => ?_)
    obtain ⟨rfl, rfl⟩ := hp
    first | refine j_aload_n (pc := 29) F dX9_apply_29 rfl ?_ | refine j_aload_nq (pc := 29) F dX9_apply_29 rfl ?_
    refine j_get (pc := 30) F fg_X9_22 (by first | assumption | exact hUp_s) (by rfl) dX9_apply_30 ?_
    refine j_iload_n (pc := 33) F dX9_apply_33 rfl ?_
    refine j_ialdN (pc := 34) F (by first | assumption | exact hUp_s) (by omega) (by decide) dX9_apply_34 ?_
    refine j_int (p7 u hu) ?_
    first | refine j_if_leN (pc := 35) F 42 dX9_apply_35 (by decide) (by omega) (fun c2 => ?_) (fun c2 => ?_) | refine j_if_leI (pc := 35) F 42 dX9_apply_35 (by decide) (fun c2 => ?_) (fun c2 => ?_)
    · refine j_iconst (pc := 42) (v := (-1)) F dX9_apply_42 (by decide) ?_
      refine j_iastN (pc := 43) F (by first | assumption | exact hUp_s) (by omega) (by decide) dX9_apply_43 ?_
      exact j_vret F hQ rfl (by omega) (by omega) dX9_apply_44 (fin (-1) c (by rw [if_neg (by omega)]; rfl))
    · refine j_iload_n (pc := 38) F dX9_apply_38 rfl ?_
      refine j_goto (pc := 39) F 43 dX9_apply_39 (by decide) ?_
      refine j_iastN (pc := 43) F (by first | assumption | exact hUp_s) (by omega) (by decide) dX9_apply_43 ?_
      exact j_vret F hQ rfl (by omega) (by omega) dX9_apply_44 (fin (nI u) c (by rw [if_pos c2]; rfl))
theorem c_X9_replay {k : Nat} {x : Int32} (hk : k < 3) (w : wf s) (z : isMx g h y s th a CC) : MVo l g A h yX9_replay cX9_replay 4 2 0 0 [.ref y, .int (nI k), .int x] (fun h1 => ∃ CC', isMx g h1 y s th a CC' ∧ CC' k = tb (sD s) (cAt s x) ∧ ∀ i, i ≠ k → CC' i = CC i) := by
  have e0 := z.cl
  refine j_met (by decide +kernel) (Nat.le_of_ble_eq_true rfl) (fun X F hn hQ => ?_)
  first | refine j_aload_n (pc := 0) F dX9_replay_0 rfl ?_ | refine j_aload_nq (pc := 0) F dX9_replay_0 rfl ?_
  refine j_iload_n (pc := 1) F dX9_replay_1 rfl ?_
  refine j_rv (j_runV (pc := 2) F (c_X9_clearTable hk z) m_X9_clearTable mv_X9_clearTable lk_X9_43 (by first | assumption | exact hUp_s) rfl ⟨by decide, by decide⟩ (Nat.le_of_ble_eq_true rfl) ⟨by omega, by omega⟩ rfl dX9_replay_2) (fun h2 hp => ?_)
  obtain ⟨z2, -⟩ := hp
  refine j_iconst (pc := 5) (v := (nI 0)) F dX9_replay_5 (by decide) ?_
  refine j_istore_n (pc := 6) F dX9_replay_6 (by decide) ?_
  have loop : ∀ m u (h3 : HF) (CC3 : CT) (lv : List (Nat × Value)), sm s < u + m → u ≤ sm s → isMx g h3 y s th a CC3 → CC3 k = tb (sD s) (min u (cAt s x)) → (∀ i, i ≠ k → CC3 i = CC i) → lall lv [(0, .ref y), (1, .int (nI k)), (2, .int x), (3, .int (nI u))] → J l X g A 4 (0 + 0) (0 + 0) h3 7 lv [] := by
    intro m
    induction m with
    | zero => intro u h3 CC3 lv q1 q2; omega
    | succ m ih =>
      intro u h3 CC3 lv q1 q2 q3 q4 q5 q6
      have e3 := q3.cl
      obtain ⟨f4, r4, p4⟩ := q3.a4
      have hm3 := w.2.2.1.1
      refine j_lv _ q6 ?_
      refine j_iload_n (pc := 7) F dX9_replay_7 rfl ?_
      first | refine j_aload_n (pc := 8) F dX9_replay_8 rfl ?_ | refine j_aload_nq (pc := 8) F dX9_replay_8 rfl ?_
      refine j_get (pc := 9) F fg_X9_59 (by first | assumption | exact hUp_s) (by rfl) dX9_replay_9 ?_
      first | refine j_icmp_geN (pc := 12) F 37 dX9_replay_12 (by decide) (by omega) (by omega) (fun c => ?_) (fun c => ?_) | refine j_icmp_geIN (pc := 12) F 37 dX9_replay_12 (by decide) (by omega) (fun c => ?_) (fun c => ?_) | refine j_icmp_geNI (pc := 12) F 37 dX9_replay_12 (by decide) (by omega) (fun c => ?_) (fun c => ?_) | refine j_icmp_geI (pc := 12) F 37 dX9_replay_12 (by decide) (fun c => ?_) (fun c => ?_)
      · have : u = sm s := by omega
        subst this
        exact j_vret F hQ rfl (by omega) (by omega) dX9_replay_37 ⟨CC3, q3, by rw [q4, Nat.min_eq_right cAt_le], q5⟩
      · have hT : sTm s u < 2 ^ 31 := by have := w.2.2.1.2.1 u c; have := w.1; omega
        first | refine j_aload_n (pc := 15) F dX9_replay_15 rfl ?_ | refine j_aload_nq (pc := 15) F dX9_replay_15 rfl ?_
        refine j_get (pc := 16) F fg_X9_13 (by first | assumption | exact hUp_s) (by rfl) dX9_replay_16 ?_
        refine j_iload_n (pc := 19) F dX9_replay_19 rfl ?_
        refine j_ialdN (pc := 20) F (by first | assumption | exact hUp_s) (by omega) (by decide) dX9_replay_20 ?_
        refine j_int (p4 u c) ?_
        refine j_iload_n (pc := 21) F dX9_replay_21 rfl ?_
        first | refine j_icmp_gtN (pc := 22) F 31 dX9_replay_22 (by decide) (by omega) (by omega) (fun c2 => ?_) (fun c2 => ?_) | refine j_icmp_gtIN (pc := 22) F 31 dX9_replay_22 (by decide) (by omega) (fun c2 => ?_) (fun c2 => ?_) | refine j_icmp_gtNI (pc := 22) F 31 dX9_replay_22 (by decide) (by omega) (fun c2 => ?_) (fun c2 => ?_) | refine j_icmp_gtI (pc := 22) F 31 dX9_replay_22 (by decide) (fun c2 => ?_) (fun c2 => ?_)
        · have : ¬ u < cAt s x := fun t => by have := (cAt_at w c).mpr t; omega
          first | refine j_iincN (pc := 31) F dX9_replay_31 rfl (by decide) ?_ | refine j_iincM (pc := 31) F dX9_replay_31 rfl (by decide) ?_ | refine j_iinc (pc := 31) F dX9_replay_31 rfl rfl (by decide) ?_
          refine j_goto (pc := 34) F 7 dX9_replay_34 (by decide) ?_
          exact ih (u + 1) _ _ _ (by omega) (by omega) q3 (by rw [q4, Nat.min_eq_right (by omega), Nat.min_eq_right (by omega)]) q5 ⟨rfl, rfl, rfl, rfl, trivial⟩
        · have : u < cAt s x := (cAt_at w c).mp (by omega)
          first | refine j_aload_n (pc := 25) F dX9_replay_25 rfl ?_ | refine j_aload_nq (pc := 25) F dX9_replay_25 rfl ?_
          refine j_iload_n (pc := 26) F dX9_replay_26 rfl ?_
          refine j_iload_n (pc := 27) F dX9_replay_27 rfl ?_
          refine j_rv (j_runV (pc := 28) F (c_X9_apply hk c (w.2.2.1.2.2.2 u c) w.2.2.1.1 q3) m_X9_apply mv_X9_apply lk_X9_62 (by first | assumption | exact hUp_s) rfl ⟨by decide, by decide⟩ (Nat.le_of_ble_eq_true rfl) ⟨by omega, by omega⟩ rfl dX9_replay_28) (fun h4 hp => ?_)
          obtain ⟨z4, -⟩ := hp
          first | refine j_iincN (pc := 31) F dX9_replay_31 rfl (by decide) ?_ | refine j_iincM (pc := 31) F dX9_replay_31 rfl (by decide) ?_ | refine j_iinc (pc := 31) F dX9_replay_31 rfl rfl (by decide) ?_
          refine j_goto (pc := 34) F 7 dX9_replay_34 (by decide) ?_
          refine ih (u + 1) _ _ _ (by omega) (by omega) z4 ?_ (fun i hi => by rw [ctUp_n hi]; exact q5 i hi) ⟨rfl, rfl, rfl, rfl, trivial⟩
          rw [ctUp_s, q4, Nat.min_eq_left (by omega), Nat.min_eq_left (by omega)]
          rfl
  exact loop (sm s + 1) 0 h2 _ _ (by omega) (Nat.zero_le _) z2 (by rw [ctUp_s, Nat.min_eq_left (Nat.zero_le _)]; rfl) (fun i hi => ctUp_n hi) ⟨rfl, rfl, rfl, rfl, trivial⟩
theorem c_X9_origin {u : Nat} (hu : u < sm s) (hm : sm s ≤ 300) (hz : 0 < (sD s).2.2.1 u ∧ (sD s).2.2.1 u ≤ 8) (z : isMx g h y s th a CC) : MI l g A h yX9_origin cX9_origin 2 (some .int) 0 0 0 [.ref y, .int (nI u)] (fun r h1 => r = nI (ogn (sD s) u) ∧ h1 = h) := by
  have e0 := z.cl
  obtain ⟨f7, q7, p7⟩ := z.a7
  obtain ⟨f8, q8, p8⟩ := z.a8
  refine j_met (by decide +kernel) (Nat.le_of_ble_eq_true rfl) (fun X F hn hQ => ?_)
  first | refine j_aload_n (pc := 0) F dX9_origin_0 rfl ?_ | refine j_aload_nq (pc := 0) F dX9_origin_0 rfl ?_
  refine j_get (pc := 1) F fg_X9_25 (by first | assumption | exact hUp_s) (by rfl) dX9_origin_1 ?_
  refine j_bipush (pc := 4) (v := (nI 8)) F dX9_origin_4 (by decide) ?_
  refine j_iload_n (pc := 6) F dX9_origin_6 rfl ?_
  first | refine j_imulN (pc := 7) F dX9_origin_7 ?_ | refine j_imul (pc := 7) F dX9_origin_7 ?_
  first | refine j_aload_n (pc := 8) F dX9_origin_8 rfl ?_ | refine j_aload_nq (pc := 8) F dX9_origin_8 rfl ?_
  refine j_get (pc := 9) F fg_X9_22 (by first | assumption | exact hUp_s) (by rfl) dX9_origin_9 ?_
  refine j_iload_n (pc := 12) F dX9_origin_12 rfl ?_
  refine j_ialdN (pc := 13) F (by first | assumption | exact hUp_s) (by omega) (by decide) dX9_origin_13 ?_
  refine j_int (p7 u hu) ?_
  first | refine j_iaddN (pc := 14) F dX9_origin_14 ?_ | refine j_iadd (pc := 14) F dX9_origin_14 ?_
  refine j_iconst (pc := 15) (v := (nI 1)) F dX9_origin_15 (by decide) ?_
  first | refine j_isubN (pc := 16) F dX9_origin_16 (by omega) ?_ | refine j_isub (pc := 16) F dX9_origin_16 ?_
  refine j_ialdN (pc := 17) F (by first | assumption | exact hUp_s) (by omega) (by decide) dX9_origin_17 ?_
  refine j_iret F hQ rfl rfl (by omega) (by omega) dX9_origin_18 ⟨?_, rfl⟩
  rw [show 8 * u + (sD s).2.2.1 u - 1 = 8 * u + ((sD s).2.2.1 u - 1) by omega, p8 u _ hu (by omega)]
  rfl
theorem c_X9_best {k q n : Nat} (hk : k < 3) (hq : q < 512) (hn3 : n ≤ sm s) (hm : sm s ≤ 300) (hZ : ∀ u, u < sm s → (sD s).2.2.1 u < 2 ^ 31) (hC : ∀ p, p < 6 → CC k p q = tb (sD s) n p q) (z : isMx g h y s th a CC) : MI l g A h yX9_best cX9_best 6 (some .int) 1 0 0 [.ref y, .int (nI k), .int (nI q)] (fun r h1 => r = oI (bstT (sD s) n q) ∧ h1 = h) := by
  have e0 := z.cl
  obtain ⟨f7, q7, p7⟩ := z.a7
  obtain ⟨f9, q9, p9⟩ := z.a9
  refine j_met (by decide +kernel) (Nat.le_of_ble_eq_true rfl) (fun X F hn hQ => ?_)
  refine j_iconst (pc := 0) (v := (-1)) F dX9_best_0 (by decide) ?_
  refine j_istore_n (pc := 1) F dX9_best_1 (by decide) ?_
  refine j_iconst (pc := 2) (v := (nI 0)) F dX9_best_2 (by decide) ?_
  refine j_istore (pc := 3) F dX9_best_3 (by decide) ?_
  have loop : ∀ m i (lv : List (Nat × Value)), 6 < i + m → i ≤ 6 → lall lv [(0, .ref y), (1, .int (nI k)), (2, .int (nI q)), (3, .int (oI (bst (sD s).2.2.1 (fun p => tb (sD s) n p q) i))), (4, .int (nI i))] → J l X g A 6 0 0 h 5 lv [] := by
    intro m
    induction m with
    | zero => intro i lv w1 w2; omega
    | succ m ih =>
      intro i lv w1 w2 w3
      refine j_lv _ w3 ?_
      refine j_iload (pc := 5) F dX9_best_5 rfl ?_
      refine j_bipush (pc := 7) (v := (nI 6)) F dX9_best_7 (by decide) ?_
      first | refine j_icmp_geN (pc := 9) F 66 dX9_best_9 (by decide) (by omega) (by omega) (fun c => ?_) (fun c => ?_) | refine j_icmp_geIN (pc := 9) F 66 dX9_best_9 (by decide) (by omega) (fun c => ?_) (fun c => ?_) | refine j_icmp_geNI (pc := 9) F 66 dX9_best_9 (by decide) (by omega) (fun c => ?_) (fun c => ?_) | refine j_icmp_geI (pc := 9) F 66 dX9_best_9 (by decide) (fun c => ?_) (fun c => ?_)
      · have : i = 6 := by omega
        subst this
        refine j_iload_n (pc := 66) F dX9_best_66 rfl ?_
        exact j_iret F hQ rfl rfl (by omega) (by omega) dX9_best_67 ⟨rfl, rfl⟩
      · first | refine j_aload_n (pc := 12) F dX9_best_12 rfl ?_ | refine j_aload_nq (pc := 12) F dX9_best_12 rfl ?_
        refine j_get (pc := 13) F fg_X9_28 (by first | assumption | exact hUp_s) (by rfl) dX9_best_13 ?_
        refine j_iload_n (pc := 16) F dX9_best_16 rfl ?_
        refine j_iload (pc := 17) F dX9_best_17 rfl ?_
        refine j_iload_n (pc := 19) F dX9_best_19 rfl ?_
        refine j_ri (j_runS (pc := 20) F (c_X9_placeOf) m_X9_placeOf ms_X9_placeOf lk_X9_55 ⟨by decide, by decide⟩ (Nat.le_of_ble_eq_true rfl) ⟨by omega, by omega⟩ rfl dX9_best_20) (fun r h3 hp => ?_)
        obtain ⟨rfl, rfl⟩ := hp
        refine j_ialdN (pc := 23) F (by first | assumption | exact hUp_s) (by omega) (by decide) dX9_best_23 ?_
        refine j_int ((p9 k i q hk (by omega) hq).trans (congrArg oI (hC i (by omega)))) ?_
        cases hc : tb (sD s) n i q with
        | none =>
          refine j_istore (pc := 24) F dX9_best_24 (by decide) ?_
          refine j_iload (pc := 26) F dX9_best_26 rfl ?_
          refine j_iconst (pc := 28) (v := (-1)) F dX9_best_28 (by decide) ?_
          refine j_icmp_eq (pc := 29) F 58 dX9_best_29 (by decide) (fun c2 => ?_) (fun c2 => ?_)
          · refine j_iload_n (pc := 58) F dX9_best_58 rfl ?_
            refine j_istore_n (pc := 59) F dX9_best_59 (by decide) ?_
            first | refine j_iincN (pc := 60) F dX9_best_60 rfl (by decide) ?_ | refine j_iincM (pc := 60) F dX9_best_60 rfl (by decide) ?_ | refine j_iinc (pc := 60) F dX9_best_60 rfl rfl (by decide) ?_
            refine j_goto (pc := 63) F 5 dX9_best_63 (by decide) ?_
            refine ih (i + 1) _ (by omega) (by omega) ⟨rfl, rfl, rfl, ?_, rfl, trivial⟩
            rw [show bst (sD s).2.2.1 (fun p => tb (sD s) n p q) (i + 1) = bst (sD s).2.2.1 (fun p => tb (sD s) n p q) i by rw [bst, hc]]
            rfl
          · exact absurd rfl c2
        | some u =>
          have hu := (tb_lt hc).1
          refine j_istore (pc := 24) F dX9_best_24 (by decide) ?_
          refine j_iload (pc := 26) F dX9_best_26 rfl ?_
          refine j_iconst (pc := 28) (v := (-1)) F dX9_best_28 (by decide) ?_
          refine j_icmp_eq (pc := 29) F 58 dX9_best_29 (by decide) (fun c2 => ?_) (fun c2 => ?_)
          · exact absurd c2 (oI_m1 (by omega))
          cases hb : bst (sD s).2.2.1 (fun p => tb (sD s) n p q) i with
          | none =>
            refine j_iload_n (pc := 32) F dX9_best_32 rfl ?_
            refine j_iconst (pc := 33) (v := (-1)) F dX9_best_33 (by decide) ?_
            refine j_icmp_eq (pc := 34) F 53 dX9_best_34 (by decide) (fun c3 => ?_) (fun c3 => ?_)
            · refine j_iload (pc := 53) F dX9_best_53 rfl ?_
              refine j_goto (pc := 55) F 59 dX9_best_55 (by decide) ?_
              refine j_istore_n (pc := 59) F dX9_best_59 (by decide) ?_
              first | refine j_iincN (pc := 60) F dX9_best_60 rfl (by decide) ?_ | refine j_iincM (pc := 60) F dX9_best_60 rfl (by decide) ?_ | refine j_iinc (pc := 60) F dX9_best_60 rfl rfl (by decide) ?_
              refine j_goto (pc := 63) F 5 dX9_best_63 (by decide) ?_
              refine ih (i + 1) _ (by omega) (by omega) ⟨rfl, rfl, rfl, ?_, rfl, trivial⟩
              rw [show bst (sD s).2.2.1 (fun p => tb (sD s) n p q) (i + 1) = some u by rw [bst, hc, hb]]
              rfl
            · exact absurd rfl c3
          | some v =>
            obtain ⟨pv, hpv, hv0⟩ := bst_in hb
            have hv := (tb_lt hv0).1
            refine j_iload_n (pc := 32) F dX9_best_32 rfl ?_
            refine j_iconst (pc := 33) (v := (-1)) F dX9_best_33 (by decide) ?_
            refine j_icmp_eq (pc := 34) F 53 dX9_best_34 (by decide) (fun c3 => ?_) (fun c3 => ?_)
            · exact absurd c3 (oI_m1 (by omega))
            refine j_lv [(0, .ref y), (1, .int (nI k)), (2, .int (nI q)), (3, .int (nI v)), (4, .int (nI i)), (5, .int (nI u))] ⟨rfl, rfl, rfl, rfl, rfl, rfl, trivial⟩ ?_
            first | refine j_aload_n (pc := 37) F dX9_best_37 rfl ?_ | refine j_aload_nq (pc := 37) F dX9_best_37 rfl ?_
            refine j_get (pc := 38) F fg_X9_22 (by first | assumption | exact hUp_s) (by rfl) dX9_best_38 ?_
            refine j_iload (pc := 41) F dX9_best_41 rfl ?_
            refine j_ialdN (pc := 43) F (by first | assumption | exact hUp_s) (by omega) (by decide) dX9_best_43 ?_
            refine j_int (p7 u (by omega)) ?_
            first | refine j_aload_n (pc := 44) F dX9_best_44 rfl ?_ | refine j_aload_nq (pc := 44) F dX9_best_44 rfl ?_
            refine j_get (pc := 45) F fg_X9_22 (by first | assumption | exact hUp_s) (by rfl) dX9_best_45 ?_
            refine j_iload_n (pc := 48) F dX9_best_48 rfl ?_
            refine j_ialdN (pc := 49) F (by first | assumption | exact hUp_s) (by omega) (by decide) dX9_best_49 ?_
            refine j_int (p7 v (by omega)) ?_
            by_cases c5 : (sD s).2.2.1 u < 2 ^ 31 ∧ (sD s).2.2.1 v < 2 ^ 31
            · obtain ⟨c5, c6⟩ := c5
              refine j_icmp_geN (pc := 50) F 58 dX9_best_50 (by decide) (by omega) (by omega) (fun c4 => ?_) (fun c4 => ?_)
              · refine j_iload_n (pc := 58) F dX9_best_58 rfl ?_
                refine j_istore_n (pc := 59) F dX9_best_59 (by decide) ?_
                first | refine j_iincN (pc := 60) F dX9_best_60 rfl (by decide) ?_ | refine j_iincM (pc := 60) F dX9_best_60 rfl (by decide) ?_ | refine j_iinc (pc := 60) F dX9_best_60 rfl rfl (by decide) ?_
                refine j_goto (pc := 63) F 5 dX9_best_63 (by decide) ?_
                refine ih (i + 1) _ (by omega) (by omega) ⟨rfl, rfl, rfl, ?_, rfl, trivial⟩
                rw [show bst (sD s).2.2.1 (fun p => tb (sD s) n p q) (i + 1) = some v by rw [bst, hc, hb]; exact if_neg (by omega)]
                rfl
              · refine j_iload (pc := 53) F dX9_best_53 rfl ?_
                refine j_goto (pc := 55) F 59 dX9_best_55 (by decide) ?_
                refine j_istore_n (pc := 59) F dX9_best_59 (by decide) ?_
                first | refine j_iincN (pc := 60) F dX9_best_60 rfl (by decide) ?_ | refine j_iincM (pc := 60) F dX9_best_60 rfl (by decide) ?_ | refine j_iinc (pc := 60) F dX9_best_60 rfl rfl (by decide) ?_
                refine j_goto (pc := 63) F 5 dX9_best_63 (by decide) ?_
                refine ih (i + 1) _ (by omega) (by omega) ⟨rfl, rfl, rfl, ?_, rfl, trivial⟩
                rw [show bst (sD s).2.2.1 (fun p => tb (sD s) n p q) (i + 1) = some u by rw [bst, hc, hb]; exact if_pos (by omega)]
                rfl
            · exact absurd ⟨hZ u (by omega), hZ v (by omega)⟩ c5
  exact loop 7 0 _ (by omega) (by omega) ⟨rfl, rfl, rfl, rfl, rfl, trivial⟩
end MP
