theorem lenF_fnd {D : UD} {n a : Nat} (ha : a < 256) : lenR D (fnd D n a) = lenF (fndp D n a 9) := by
  unfold fnd
  rcases fndp_at (D := D) (n := n) (a := a) (k := 9) with ⟨h1, -⟩ | ⟨i, h1, h2, h3, -⟩
  · rw [h1, show bstT D n 0 = none from bst_none.mpr (fun p _ => tb_0)]; rfl
  · have h4 := (pnN_in ha (show i ≤ 8 by omega)).1
    rw [h2, lenF, if_neg (by omega)]
    cases hb : bstT D n (pnN a i) with
    | none => rw [hb] at h3; cases h3
    | some u =>
      obtain ⟨p, -, z⟩ := bst_in hb
      have := (tb_lt z).2.2.1
      show nI (Nat.log2 (D.2.1 u)) = _
      rw [this]
theorem nab_le {f : Nat → Bool} : ∀ {m a : Nat}, nab f m a ≤ a
  | 0, a => Nat.zero_le _
  | m + 1, a => by
    unfold nab
    split
    · exact Nat.zero_le _
    · split
      · exact Nat.le_refl _
      · exact Nat.le_trans nab_le (Nat.div_le_self _ _)
section BQ2
variable {l : Launch} {g : GG} {A : Nat → Prop} {h : HF} {x : Nat} {s : SG}
theorem isBx.dk {pm am tr hi rg rl : Nat} {T : RF} {E : Nat → Nat} {kc : Nat} {K : Nat → Nat} (z : isBx g h x s pm am tr hi rg rl T E kc K) : ∀ j, j < kc → (sD s).1 (K j) < 6 ∧ (sD s).2.1 (K j) < 512 := fun j hj => by
  have := (z.2.2.2.2.2.2.1 j hj).2.1
  exact ⟨this.1, this.2.1.2⟩
theorem fnd_rt {pm am tr hi rg rl : Nat} {T : RF} {E : Nat → Nat} {kc : Nat} {K : Nat → Nat} (z : isBx g h x s pm am tr hi rg rl T E kc K) {n a : Nat} (hn : n ≤ sm s) : ∀ u, fnd (sD s) n a = some u → isRt g h T (sD s) E u ∧ dOk (sD s) u := fun u hu => by
  obtain ⟨p, -, h2⟩ := bst_in hu
  obtain ⟨h3, h4, -⟩ := z.rt hn h2
  exact ⟨h3, h4⟩
theorem c_X8_lookUpByScan (hst : l.stackTraces = false) {a : Int32} (w : wf s) (hB : isB g h x s) : XI l g A h yX8_lookUpByScan cX8_lookUpByScan 2 (some .int) 8 3 18 [.ref x, .int a] (fun r h1 => okAdr a = true ∧ r = vLook s (sm s) a ∧ isB g h1 x s) (fun u => okAdr a = false ∧ u.2 = IOOB ∧ isB g u.1 x s) := by
  have hB' := hB
  obtain ⟨pm, am, tr, hi, rg, rl, T, E, kc, K, hB⟩ := hB
  have e0 := hB.1
  obtain ⟨ti, ke, bo, bt, -, hh⟩ := hB.2.2.2.1
  have e1 := hh.1
  refine jx_met (by decide +kernel) (Nat.le_of_ble_eq_true rfl) (fun X F hex hQ => ?_)
  first | refine j_aload_n (pc := 0) F dX8_lookUpByScan_0 rfl ?_ | refine j_aload_nq (pc := 0) F dX8_lookUpByScan_0 rfl ?_
  refine j_iload_n (pc := 1) F dX8_lookUpByScan_1 rfl ?_
  refine jx_rv (jx_runV (pc := 2) F (c_X8_needAddress hst) m_X8_needAddress mv_X8_needAddress lk_X8_165 (by first | assumption | exact hUp_s) rfl ⟨by decide, by decide⟩ (Nat.le_of_ble_eq_true rfl) ⟨by omega, by omega⟩ rfl dX8_lookUpByScan_2) (fun E h1 hp => ?_) (fun h1 hp => ?_)
  · obtain ⟨c, hp⟩ := hp
    cases hp
    exact jx_out F hQ hex (by omega) (by omega) ⟨c, rfl, hB'⟩
  obtain ⟨c1, rfl⟩ := hp
  obtain ⟨n1, n2⟩ := okAdr.n c1
  first | refine j_aload_n (pc := 5) F dX8_lookUpByScan_5 rfl ?_ | refine j_aload_nq (pc := 5) F dX8_lookUpByScan_5 rfl ?_
  refine j_get (pc := 6) F fg_X8_26 (by first | assumption | exact hUp_s) (by rfl) dX8_lookUpByScan_6 ?_
  refine j_iload_n (pc := 9) F dX8_lookUpByScan_9 rfl ?_
  first | refine j_aload_n (pc := 10) F dX8_lookUpByScan_10 rfl ?_ | refine j_aload_nq (pc := 10) F dX8_lookUpByScan_10 rfl ?_
  refine j_get (pc := 11) F fg_X8_26 (by first | assumption | exact hUp_s) (by rfl) dX8_lookUpByScan_11 ?_
  refine j_ri (j_runV (pc := 14) F (c_X1_size hh) m_X1_size mv_X1_size lk_X8_127 (by first | assumption | exact hUp_s) rfl ⟨by decide, by decide⟩ (Nat.le_of_ble_eq_true rfl) ⟨by omega, by omega⟩ rfl dX8_lookUpByScan_14) (fun r h1 hp => ?_)
  obtain ⟨rfl, rfl⟩ := hp
  have hc := c_X1_routeFor (l := l) (A := A) (n := sm s) hh hB.2.2.2.2.2.2.1.kept n2 w.2.2.1.1
  rw [← n1, rfdF hB.2.2.2.2.2.2.2 (Nat.le_refl _) hB.dk n2] at hc
  refine j_rq (j_runV (pc := 17) F (hc) m_X1_routeFor mv_X1_routeFor lk_X8_171 (by first | assumption | exact hUp_s) rfl ⟨by decide, by decide⟩ (Nat.le_of_ble_eq_true rfl) ⟨by omega, by omega⟩ rfl dX8_lookUpByScan_17) (fun r h1 hp => ?_)
  obtain ⟨rfl, rfl⟩ := hp
  refine j_ri (j_runS (pc := 20) F (c_X8_lengthOf (fun u hu => (fnd_rt hB (Nat.le_refl _) u hu).1)) m_X8_lengthOf ms_X8_lengthOf lk_X8_174 ⟨by decide, by decide⟩ (Nat.le_of_ble_eq_true rfl) ⟨by omega, by omega⟩ rfl dX8_lookUpByScan_20) (fun r h2 hp => ?_)
  obtain ⟨rfl, rfl⟩ := hp
  exact jx_iret F hQ rfl rfl (by omega) (by omega) dX8_lookUpByScan_23 ⟨c1, lenF_fnd n2, hB'⟩
theorem c_X8_lookUpAt (hst : l.stackTraces = false) {t a : Int32} (w : wf s) (hB : isB g h x s) : XI l g A h yX8_lookUpAt cX8_lookUpAt 3 (some .int) 8 3 18 [.ref x, .int t, .int a] (fun r h1 => okAdr a = true ∧ r = vLook s (cAt s t) a ∧ isB g h1 x s) (fun u => okAdr a = false ∧ u.2 = IOOB ∧ isB g u.1 x s) := by
  have hB' := hB
  obtain ⟨pm, am, tr, hi, rg, rl, T, E, kc, K, hB⟩ := hB
  have e0 := hB.1
  obtain ⟨ti, ke, bo, bt, -, hh⟩ := hB.2.2.2.1
  have e1 := hh.1
  refine jx_met (by decide +kernel) (Nat.le_of_ble_eq_true rfl) (fun X F hex hQ => ?_)
  first | refine j_aload_n (pc := 0) F dX8_lookUpAt_0 rfl ?_ | refine j_aload_nq (pc := 0) F dX8_lookUpAt_0 rfl ?_
  refine j_iload_n (pc := 1) F dX8_lookUpAt_1 rfl ?_
  refine jx_rv (jx_runV (pc := 2) F (c_X8_needAddress hst) m_X8_needAddress mv_X8_needAddress lk_X8_165 (by first | assumption | exact hUp_s) rfl ⟨by decide, by decide⟩ (Nat.le_of_ble_eq_true rfl) ⟨by omega, by omega⟩ rfl dX8_lookUpAt_2) (fun E h1 hp => ?_) (fun h1 hp => ?_)
  · obtain ⟨c, hp⟩ := hp
    cases hp
    exact jx_out F hQ hex (by omega) (by omega) ⟨c, rfl, hB'⟩
  obtain ⟨c1, rfl⟩ := hp
  obtain ⟨n1, n2⟩ := okAdr.n c1
  first | refine j_aload_n (pc := 5) F dX8_lookUpAt_5 rfl ?_ | refine j_aload_nq (pc := 5) F dX8_lookUpAt_5 rfl ?_
  refine j_get (pc := 6) F fg_X8_26 (by first | assumption | exact hUp_s) (by rfl) dX8_lookUpAt_6 ?_
  refine j_iload_n (pc := 9) F dX8_lookUpAt_9 rfl ?_
  first | refine j_aload_n (pc := 10) F dX8_lookUpAt_10 rfl ?_ | refine j_aload_nq (pc := 10) F dX8_lookUpAt_10 rfl ?_
  refine j_get (pc := 11) F fg_X8_26 (by first | assumption | exact hUp_s) (by rfl) dX8_lookUpAt_11 ?_
  refine j_iload_n (pc := 14) F dX8_lookUpAt_14 rfl ?_
  refine j_ri (j_runV (pc := 15) F (c_X1_sizeAt hh (fun u hu => by have := w.2.2.1.2.1 u hu; have := w.1; omega)) m_X1_sizeAt mv_X1_sizeAt lk_X8_236 (by first | assumption | exact hUp_s) rfl ⟨by decide, by decide⟩ (Nat.le_of_ble_eq_true rfl) ⟨by omega, by omega⟩ rfl dX8_lookUpAt_15) (fun r h1 hp => ?_)
  obtain ⟨⟨c, hc1, rfl, hc2, hc3⟩, rfl⟩ := hp
  have hcc := cAt_of w hc1 hc2 hc3
  have hc := c_X1_routeFor (l := l) (A := A) (n := c) hh hB.2.2.2.2.2.2.1.kept n2 (Nat.le_trans hc1 w.2.2.1.1)
  rw [← n1, rfdF hB.2.2.2.2.2.2.2 hc1 hB.dk n2] at hc
  refine j_rq (j_runV (pc := 18) F (hc) m_X1_routeFor mv_X1_routeFor lk_X8_171 (by first | assumption | exact hUp_s) rfl ⟨by decide, by decide⟩ (Nat.le_of_ble_eq_true rfl) ⟨by omega, by omega⟩ rfl dX8_lookUpAt_18) (fun r h1 hp => ?_)
  obtain ⟨rfl, rfl⟩ := hp
  refine j_ri (j_runS (pc := 21) F (c_X8_lengthOf (fun u hu => (fnd_rt hB hc1 u hu).1)) m_X8_lengthOf ms_X8_lengthOf lk_X8_174 ⟨by decide, by decide⟩ (Nat.le_of_ble_eq_true rfl) ⟨by omega, by omega⟩ rfl dX8_lookUpAt_21) (fun r h2 hp => ?_)
  obtain ⟨rfl, rfl⟩ := hp
  exact jx_iret F hQ rfl rfl (by omega) (by omega) dX8_lookUpAt_24 ⟨c1, by rw [← hcc]; exact lenF_fnd n2, hB'⟩
theorem c_X8_originAt (hst : l.stackTraces = false) {t a : Int32} (w : wf s) (hB : isB g h x s) : XI l g A h yX8_originAt cX8_originAt 4 (some .int) 8 3 18 [.ref x, .int t, .int a] (fun r h1 => okAdr a = true ∧ r = vOrg s (cAt s t) a ∧ isB g h1 x s) (fun u => okAdr a = false ∧ u.2 = IOOB ∧ isB g u.1 x s) := by
  have hB' := hB
  obtain ⟨pm, am, tr, hi, rg, rl, T, E, kc, K, hB⟩ := hB
  have e0 := hB.1
  obtain ⟨ti, ke, bo, bt, -, hh⟩ := hB.2.2.2.1
  have e1 := hh.1
  refine jx_met (by decide +kernel) (Nat.le_of_ble_eq_true rfl) (fun X F hex hQ => ?_)
  first | refine j_aload_n (pc := 0) F dX8_originAt_0 rfl ?_ | refine j_aload_nq (pc := 0) F dX8_originAt_0 rfl ?_
  refine j_iload_n (pc := 1) F dX8_originAt_1 rfl ?_
  refine jx_rv (jx_runV (pc := 2) F (c_X8_needAddress hst) m_X8_needAddress mv_X8_needAddress lk_X8_165 (by first | assumption | exact hUp_s) rfl ⟨by decide, by decide⟩ (Nat.le_of_ble_eq_true rfl) ⟨by omega, by omega⟩ rfl dX8_originAt_2) (fun E h1 hp => ?_) (fun h1 hp => ?_)
  · obtain ⟨c, hp⟩ := hp
    cases hp
    exact jx_out F hQ hex (by omega) (by omega) ⟨c, rfl, hB'⟩
  obtain ⟨c1, rfl⟩ := hp
  obtain ⟨n1, n2⟩ := okAdr.n c1
  first | refine j_aload_n (pc := 5) F dX8_originAt_5 rfl ?_ | refine j_aload_nq (pc := 5) F dX8_originAt_5 rfl ?_
  refine j_get (pc := 6) F fg_X8_26 (by first | assumption | exact hUp_s) (by rfl) dX8_originAt_6 ?_
  refine j_iload_n (pc := 9) F dX8_originAt_9 rfl ?_
  first | refine j_aload_n (pc := 10) F dX8_originAt_10 rfl ?_ | refine j_aload_nq (pc := 10) F dX8_originAt_10 rfl ?_
  refine j_get (pc := 11) F fg_X8_26 (by first | assumption | exact hUp_s) (by rfl) dX8_originAt_11 ?_
  refine j_iload_n (pc := 14) F dX8_originAt_14 rfl ?_
  refine j_ri (j_runV (pc := 15) F (c_X1_sizeAt hh (fun u hu => by have := w.2.2.1.2.1 u hu; have := w.1; omega)) m_X1_sizeAt mv_X1_sizeAt lk_X8_236 (by first | assumption | exact hUp_s) rfl ⟨by decide, by decide⟩ (Nat.le_of_ble_eq_true rfl) ⟨by omega, by omega⟩ rfl dX8_originAt_15) (fun r h1 hp => ?_)
  obtain ⟨⟨c, hc1, rfl, hc2, hc3⟩, rfl⟩ := hp
  have hcc := cAt_of w hc1 hc2 hc3
  have hc := c_X1_routeFor (l := l) (A := A) (n := c) hh hB.2.2.2.2.2.2.1.kept n2 (Nat.le_trans hc1 w.2.2.1.1)
  rw [← n1, rfdF hB.2.2.2.2.2.2.2 hc1 hB.dk n2] at hc
  refine j_rq (j_runV (pc := 18) F (hc) m_X1_routeFor mv_X1_routeFor lk_X8_171 (by first | assumption | exact hUp_s) rfl ⟨by decide, by decide⟩ (Nat.le_of_ble_eq_true rfl) ⟨by omega, by omega⟩ rfl dX8_originAt_18) (fun r h1 hp => ?_)
  obtain ⟨rfl, rfl⟩ := hp
  cases hb : fnd (sD s) c (pN a) with
  | none =>
    first | refine j_astore_n (pc := 21) F dX8_originAt_21 (by decide) ?_ | refine j_astore_nq (pc := 21) F dX8_originAt_21 (by decide) ?_ | refine j_astore_nN (pc := 21) F dX8_originAt_21 (by decide) ?_
    first | refine j_aload_n (pc := 22) F dX8_originAt_22 rfl ?_ | refine j_aload_nq (pc := 22) F dX8_originAt_22 rfl ?_
    refine j_ifnonnullN (pc := 23) F dX8_originAt_23 ?_
    refine j_iconst (pc := 26) (v := (-1)) F dX8_originAt_26 (by decide) ?_
    refine j_goto (pc := 27) F 37 dX8_originAt_27 (by decide) ?_
    exact jx_iret F hQ rfl rfl (by omega) (by omega) dX8_originAt_37 ⟨c1, by rw [← hcc, vOrg, hb], hB'⟩
  | some u =>
    obtain ⟨⟨x1, x2, x3⟩, d⟩ := fnd_rt hB hc1 u hb
    obtain ⟨rr, x4, -⟩ := id x3
    first | refine j_astore_n (pc := 21) F dX8_originAt_21 (by decide) ?_ | refine j_astore_nq (pc := 21) F dX8_originAt_21 (by decide) ?_ | refine j_astore_nN (pc := 21) F dX8_originAt_21 (by decide) ?_
    first | refine j_aload_n (pc := 22) F dX8_originAt_22 rfl ?_ | refine j_aload_nq (pc := 22) F dX8_originAt_22 rfl ?_
    refine j_ifnonnull (pc := 23) F 30 dX8_originAt_23 (by decide) ?_
    first | refine j_aload_n (pc := 30) F dX8_originAt_30 rfl ?_ | refine j_aload_nq (pc := 30) F dX8_originAt_30 rfl ?_
    refine j_getN (pc := 31) F fn_X8_155 (by first | assumption | exact hUp_s) (by rfl) dX8_originAt_31 ?_
    refine j_ri (j_runV (pc := 34) F (c_X2_origin x3) m_X2_origin mv_X2_origin lk_X8_188 (by first | assumption | exact hUp_s) rfl ⟨by decide, by decide⟩ (Nat.le_of_ble_eq_true rfl) ⟨by omega, by omega⟩ rfl dX8_originAt_34) (fun r h2 hp => ?_)
    obtain ⟨rfl, rfl⟩ := hp
    refine jx_iret F hQ rfl rfl (by omega) (by omega) dX8_originAt_37 ⟨c1, ?_, hB'⟩
    rw [← hcc, vOrg, hb]
    exact pAt_last d.2.2.1.1
theorem c_X8_changes {t t2 : Int32} (w : wf s) (hB : isB g h x s) : MI l g A h yX8_changes cX8_changes 3 (some .int) 8 0 0 [.ref x, .int t, .int t2] (fun r h1 => r = vChg s (cAt s t) (cAt s t2) ∧ isB g h1 x s) := by
  obtain ⟨pm, am, tr, hi, rg, rl, T, E, kc, K, hB⟩ := hB
  have e0 := hB.1
  obtain ⟨ti, ke, bo, bt, nb, hh⟩ := hB.2.2.2.1
  have e1 := hh.1
  have hT : ∀ u, u < sm s → sTm s u < 2 ^ 31 := fun u hu => by have := w.2.2.1.2.1 u hu; have := w.1; omega
  refine j_met (by decide +kernel) (Nat.le_of_ble_eq_true rfl) (fun X F hn hQ => ?_)
  first | refine j_aload_n (pc := 0) F dX8_changes_0 rfl ?_ | refine j_aload_nq (pc := 0) F dX8_changes_0 rfl ?_
  refine j_get (pc := 1) F fg_X8_26 (by first | assumption | exact hUp_s) (by rfl) dX8_changes_1 ?_
  first | refine j_aload_n (pc := 4) F dX8_changes_4 rfl ?_ | refine j_aload_nq (pc := 4) F dX8_changes_4 rfl ?_
  refine j_get (pc := 5) F fg_X8_26 (by first | assumption | exact hUp_s) (by rfl) dX8_changes_5 ?_
  refine j_iload_n (pc := 8) F dX8_changes_8 rfl ?_
  refine j_ri (j_runV (pc := 9) F (c_X1_sizeAt hh hT) m_X1_sizeAt mv_X1_sizeAt lk_X8_236 (by first | assumption | exact hUp_s) rfl ⟨by decide, by decide⟩ (Nat.le_of_ble_eq_true rfl) ⟨by omega, by omega⟩ rfl dX8_changes_9) (fun r h1 hp => ?_)
  obtain ⟨⟨c, hc1, rfl, hc2, hc3⟩, rfl⟩ := hp
  have hcc := cAt_of w hc1 hc2 hc3
  first | refine j_aload_n (pc := 12) F dX8_changes_12 rfl ?_ | refine j_aload_nq (pc := 12) F dX8_changes_12 rfl ?_
  refine j_get (pc := 13) F fg_X8_26 (by first | assumption | exact hUp_s) (by rfl) dX8_changes_13 ?_
  refine j_iload_n (pc := 16) F dX8_changes_16 rfl ?_
  refine j_ri (j_runV (pc := 17) F (c_X1_sizeAt hh hT) m_X1_sizeAt mv_X1_sizeAt lk_X8_236 (by first | assumption | exact hUp_s) rfl ⟨by decide, by decide⟩ (Nat.le_of_ble_eq_true rfl) ⟨by omega, by omega⟩ rfl dX8_changes_17) (fun r h1 hp => ?_)
  obtain ⟨⟨d, hd1, rfl, hd2, hd3⟩, rfl⟩ := hp
  have hdd := cAt_of w hd1 hd2 hd3
  obtain ⟨q1, q2, ⟨f2, q4, q5⟩, ⟨f3, q6⟩, ⟨f4, q7⟩, q8, q9⟩ := id hh
  have m1 : bo ≠ ke := kd_n2 q6 q4 (by simp [kd])
  have m2 : bt ≠ ke := kd_n2 q7 q4 (by simp [kd])
  refine j_ri (j_runV (pc := 20) F (c_X1_countUnlike hh hB.2.2.2.2.2.2.1.kept (Nat.le_trans hc1 w.2.2.1.1) (Nat.le_trans hd1 w.2.2.1.1) ⟨m1, m2, nb⟩) m_X1_countUnlike mv_X1_countUnlike lk_X8_239 (by first | assumption | exact hUp_s) rfl ⟨by decide, by decide⟩ (Nat.le_of_ble_eq_true rfl) ⟨by omega, by omega⟩ rfl dX8_changes_20) (fun r h2 hp => ?_)
  obtain ⟨rfl, hf, hbo, hbt⟩ := hp
  have hk : fk [(2, 512)] h1 h2 := fun b e hb hne => (hf b (kd_ne hb hne q6 (by simp [kd])) (kd_ne hb hne q7 (by simp [kd]))).trans hb
  refine j_iret F hQ rfl rfl (by omega) (by omega) dX8_changes_23 ⟨?_, pm, am, tr, hi, rg, rl, T, E, kc, K, ?_⟩
  · rw [← hcc, ← hdd]
    exact congrArg nI (cnt_congr (fun j _ => by rw [rfdB hB.2.2.2.2.2.2.2 hc1 (fun j hj => (hB.dk j hj).1), rfdB hB.2.2.2.2.2.2.2 hd1 (fun j hj => (hB.dk j hj).1)]))
  · obtain ⟨-, z1, z2, -, z4, z5, z6, z7⟩ := hB
    obtain ⟨f1, q2, q3⟩ := q2
    exact ⟨hk _ _ e0 (by simp [kd]), z1.fk hk (by decide) (by decide), z2.fk hk (by decide), ⟨ti, ke, bo, bt, nb, hk _ _ q1 (by simp [kd]), ⟨f1, hk _ _ q2 (by simp [kd]), q3⟩, ⟨f2, hk _ _ q4 (by simp [kd]), q5⟩, hbo, hbt, q8, q9⟩, z4.fk hk (by decide), z5.fk hk (by decide), z6.fk hk (by decide), z7⟩
end BQ2
