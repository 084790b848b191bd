section BQ3
variable {l : Launch} {g : GG} {A : Nat → Prop} {h : HF} {x : Nat} {s : SG}
theorem c_X8_origins (hst : l.stackTraces = false) {a b : Int32} (hB : isB g h x s) : XI l g A h yX8_origins cX8_origins 3 (some .int) 8 3 18 [.ref x, .int a, .int b] (fun r h1 => okPfx a b = true ∧ r = vOrigins s (pqN a b) ∧ isB g h1 x s) (fun u => okPfx a b = false ∧ u.2 = IAE ∧ isB g u.1 x s) := by
  have hB' := hB
  obtain ⟨pm, am, tr, hi, rg, rl, T, E, kc, K, hB⟩ := hB
  have e0 := hB.1
  refine jx_met (by decide +kernel) (Nat.le_of_ble_eq_true rfl) (fun X F hex hQ => ?_)
  first | refine j_aload_n (pc := 0) F dX8_origins_0 rfl ?_ | refine j_aload_nq (pc := 0) F dX8_origins_0 rfl ?_
  refine j_get (pc := 1) F fg_X8_19 (by first | assumption | exact hUp_s) (by rfl) dX8_origins_1 ?_
  first | refine j_aload_n (pc := 4) F dX8_origins_4 rfl ?_ | refine j_aload_nq (pc := 4) F dX8_origins_4 rfl ?_
  refine j_iload_n (pc := 5) F dX8_origins_5 rfl ?_
  refine j_iload_n (pc := 6) F dX8_origins_6 rfl ?_
  refine jx_rq (jx_runV (pc := 7) F (c_X8_needPrefix hst) m_X8_needPrefix mv_X8_needPrefix lk_X8_92 (by first | assumption | exact hUp_s) rfl ⟨by decide, by decide⟩ (Nat.le_of_ble_eq_true rfl) ⟨by omega, by omega⟩ rfl dX8_origins_7) (fun E h1 hp => ?_) (fun r h1 hp => ?_)
  · obtain ⟨c, hp⟩ := hp
    cases hp
    exact jx_out F hQ hex (by omega) (by omega) ⟨c, rfl, hB'⟩
  obtain ⟨c2, q, rfl, w1, w2, w3⟩ := hp
  obtain ⟨m1, m2, m3, m4, -⟩ := okPfx.n c2
  have hB1 := hB.new w1 w3
  obtain ⟨ca, cp, cb, ht⟩ := hB1.2.2.1
  have e1 := ht.1
  refine j_getN (pc := 10) F fn_X8_108 (by first | assumption | exact hUp_s) (by rfl) dX8_origins_10 ?_
  refine j_ri (j_runV (pc := 13) F (c_X7_countOrigins ht (hB1.2.2.2.2.2.2.1.live hB1.2.2.2.2.2.2.2) m4) m_X7_countOrigins mv_X7_countOrigins lk_X8_178 (by first | assumption | exact hUp_s) rfl ⟨by decide, by decide⟩ (Nat.le_of_ble_eq_true rfl) ⟨by omega, by omega⟩ rfl dX8_origins_13) (fun r h2 hp => ?_)
  obtain ⟨rfl, rfl⟩ := hp
  exact jx_iret F hQ rfl rfl (by omega) (by omega) dX8_origins_16 ⟨c2, rfl, hB1.is⟩
theorem c_X8_contested (hB : isB g h x s) : MI l g A h yX8_contested cX8_contested 3 (some .int) 8 0 0 [.ref x] (fun r h1 => r = vCont s ∧ isB g h1 x s) := by
  have hB' := hB
  obtain ⟨pm, am, tr, hi, rg, rl, T, E, kc, K, hB⟩ := hB
  have e0 := hB.1
  obtain ⟨ca, cp, cb, ht⟩ := hB.2.2.1
  have e1 := ht.1
  refine j_met (by decide +kernel) (Nat.le_of_ble_eq_true rfl) (fun X F hn hQ => ?_)
  refine j_iconst (pc := 0) (v := (nI 0)) F dX8_contested_0 (by decide) ?_
  refine j_istore_n (pc := 1) F dX8_contested_1 (by decide) ?_
  refine j_iconst (pc := 2) (v := (nI 1)) F dX8_contested_2 (by decide) ?_
  refine j_istore_n (pc := 3) F dX8_contested_3 (by decide) ?_
  have loop : ∀ m i (lv : List (Nat × Value)), 511 < i + m → i ≤ 511 → lall lv [(0, .ref x), (1, .int (nI (cnt (fun j => decide (1 < (vOrigins s (j + 1)).toInt)) i))), (2, .int (nI (i + 1)))] → J l X g A 3 0 0 h 4 lv [] := by
    intro m
    induction m with
    | zero => intro i lv q1 q2; omega
    | succ m ih =>
      intro i lv q1 q2 q3
      refine j_lv _ q3 ?_
      refine j_iload_n (pc := 4) F dX8_contested_4 rfl ?_
      refine j_sipush (pc := 5) (v := (nI 512)) F dX8_contested_5 (by decide) ?_
      first | refine j_icmp_geN (pc := 8) F 32 dX8_contested_8 (by decide) (by omega) (by omega) (fun c => ?_) (fun c => ?_) | refine j_icmp_geIN (pc := 8) F 32 dX8_contested_8 (by decide) (by omega) (fun c => ?_) (fun c => ?_) | refine j_icmp_geNI (pc := 8) F 32 dX8_contested_8 (by decide) (by omega) (fun c => ?_) (fun c => ?_) | refine j_icmp_geI (pc := 8) F 32 dX8_contested_8 (by decide) (fun c => ?_) (fun c => ?_)
      · have : i = 511 := by omega
        subst this
        refine j_iload_n (pc := 32) F dX8_contested_32 rfl ?_
        exact j_iret F hQ rfl rfl (by omega) (by omega) dX8_contested_33 ⟨rfl, hB'⟩
      · first | refine j_aload_n (pc := 11) F dX8_contested_11 rfl ?_ | refine j_aload_nq (pc := 11) F dX8_contested_11 rfl ?_
        refine j_get (pc := 12) F fg_X8_19 (by first | assumption | exact hUp_s) (by rfl) dX8_contested_12 ?_
        refine j_iload_n (pc := 15) F dX8_contested_15 rfl ?_
        refine j_ri (j_runV (pc := 16) F (c_X7_countOrigins ht (hB.2.2.2.2.2.2.1.live hB.2.2.2.2.2.2.2) ⟨by omega, by omega⟩) m_X7_countOrigins mv_X7_countOrigins lk_X8_178 (by first | assumption | exact hUp_s) rfl ⟨by decide, by decide⟩ (Nat.le_of_ble_eq_true rfl) ⟨by omega, by omega⟩ rfl dX8_contested_16) (fun r h1 hp1 => ?_)
        obtain ⟨rfl, rfl⟩ := hp1
        refine j_iconst (pc := 19) (v := (nI 1)) F dX8_contested_19 (by decide) ?_
        first | refine j_icmp_leN (pc := 20) F 26 dX8_contested_20 (by decide) (by omega) (by omega) (fun c2 => ?_) (fun c2 => ?_) | refine j_icmp_leIN (pc := 20) F 26 dX8_contested_20 (by decide) (by omega) (fun c2 => ?_) (fun c2 => ?_) | refine j_icmp_leNI (pc := 20) F 26 dX8_contested_20 (by decide) (by omega) (fun c2 => ?_) (fun c2 => ?_) | refine j_icmp_leI (pc := 20) F 26 dX8_contested_20 (by decide) (fun c2 => ?_) (fun c2 => ?_)
        · first | refine j_iincN (pc := 26) F dX8_contested_26 rfl (by decide) ?_ | refine j_iincM (pc := 26) F dX8_contested_26 rfl (by decide) ?_ | refine j_iinc (pc := 26) F dX8_contested_26 rfl rfl (by decide) ?_
          refine j_goto (pc := 29) F 4 dX8_contested_29 (by decide) ?_
          have c3 : ¬ (vOrigins s (i + 1)).toInt > 1 := by unfold vOrigins oBits; omega
          refine ih (i + 1) _ (by omega) (by omega) ⟨rfl, ?_, rfl, trivial⟩
          rw [show cnt (fun j => decide (1 < (vOrigins s (j + 1)).toInt)) (i + 1) = cnt (fun j => decide (1 < (vOrigins s (j + 1)).toInt)) i by rw [cnt, if_neg (by rw [decide_eq_true_iff]; exact c3)]; rfl]
          rfl
        · first | refine j_iincN (pc := 23) F dX8_contested_23 rfl (by decide) ?_ | refine j_iincM (pc := 23) F dX8_contested_23 rfl (by decide) ?_ | refine j_iinc (pc := 23) F dX8_contested_23 rfl rfl (by decide) ?_
          first | refine j_iincN (pc := 26) F dX8_contested_26 rfl (by decide) ?_ | refine j_iincM (pc := 26) F dX8_contested_26 rfl (by decide) ?_ | refine j_iinc (pc := 26) F dX8_contested_26 rfl rfl (by decide) ?_
          refine j_goto (pc := 29) F 4 dX8_contested_29 (by decide) ?_
          have c3 : (vOrigins s (i + 1)).toInt > 1 := by unfold vOrigins oBits; omega
          refine ih (i + 1) _ (by omega) (by omega) ⟨rfl, ?_, rfl, trivial⟩
          rw [show cnt (fun j => decide (1 < (vOrigins s (j + 1)).toInt)) (i + 1) = cnt (fun j => decide (1 < (vOrigins s (j + 1)).toInt)) i + 1 by rw [cnt, if_pos (decide_eq_true c3)]]
          rfl
  exact loop 512 0 _ (by omega) (by omega) ⟨rfl, rfl, rfl, trivial⟩
theorem c_X8_isHijack (hst : l.stackTraces = false) {p a b : Int32} (hB : isB g h x s) : XI l g A h yX8_isHijack cX8_isHijack 6 (some .boolean) 8 3 18 [.ref x, .int p, .int a, .int b] (fun r h1 => rcode s p a b = 0 ∧ (∃ u, tb (sD s) (sm s) (pN p) (pqN a b) = some u ∧ r = bI (vHij s u)) ∧ isB g h1 x s) (fun u => nm [IOOB, IAE, NSEE] (rcode s p a b) u.2 ∧ isB g u.1 x s) := by
  obtain ⟨pm, am, tr, hi, rg, rl, T, E, kc, K, hB⟩ := hB
  have e0 := hB.1
  refine jx_met (by decide +kernel) (Nat.le_of_ble_eq_true rfl) (fun X F hex hQ => ?_)
  first | refine j_aload_n (pc := 0) F dX8_isHijack_0 rfl ?_ | refine j_aload_nq (pc := 0) F dX8_isHijack_0 rfl ?_
  refine j_iload_n (pc := 1) F dX8_isHijack_1 rfl ?_
  refine j_iload_n (pc := 2) F dX8_isHijack_2 rfl ?_
  refine j_iload_n (pc := 3) F dX8_isHijack_3 rfl ?_
  refine jx_rq (jx_runV (pc := 4) F (c_X8_needRoute hst hB) m_X8_needRoute mv_X8_needRoute lk_X8_140 (by first | assumption | exact hUp_s) rfl ⟨by decide, by decide⟩ (Nat.le_of_ble_eq_true rfl) ⟨by omega, by omega⟩ rfl dX8_isHijack_4) (fun E h1 hp => ?_) (fun r h1 hp => ?_)
  · exact jx_out F hQ hex (by omega) (by omega) ⟨hp.1, (bx_sk hB hp.2).is⟩
  obtain ⟨c0, c1, c2, ⟨u, hu, rfl⟩, hk⟩ := hp
  have hB1 := bx_sk hB hk
  obtain ⟨⟨x1, x2, x3⟩, d, w3, w4, -⟩ := hB1.rt (Nat.le_refl _) hu
  have x2' : h1 (T.2.1 u) = some (.inr (3, [.int (nI ((sD s).2.1 u)), .int (nI (Nat.log2 ((sD s).2.1 u)))])) := x2
  obtain ⟨rr, x4, -⟩ := id x3
  have e0' := hB1.1
  obtain ⟨ca, cp, cb, ht⟩ := hB1.2.2.1
  have e1 := ht.1
  first | refine j_astore (pc := 7) F dX8_isHijack_7 (by decide) ?_ | refine j_astoreq (pc := 7) F dX8_isHijack_7 (by decide) ?_ | refine j_astoreN (pc := 7) F dX8_isHijack_7 (by decide) ?_
  first | refine j_aload_n (pc := 9) F dX8_isHijack_9 rfl ?_ | refine j_aload_nq (pc := 9) F dX8_isHijack_9 rfl ?_
  refine j_get (pc := 10) F fg_X8_19 (by first | assumption | exact hUp_s) (by rfl) dX8_isHijack_10 ?_
  first | refine j_aload (pc := 13) F dX8_isHijack_13 rfl ?_ | refine j_aloadq (pc := 13) F dX8_isHijack_13 rfl ?_
  refine j_getN (pc := 15) F fn_X8_181 (by first | assumption | exact hUp_s) (by rfl) dX8_isHijack_15 ?_
  refine j_getN (pc := 18) F fn_X8_108 (by first | assumption | exact hUp_s) (by rfl) dX8_isHijack_18 ?_
  refine j_ri (j_runV (pc := 21) F (c_X7_nearestAbove ht d.2.1) m_X7_nearestAbove mv_X7_nearestAbove lk_X8_185 (by first | assumption | exact hUp_s) rfl ⟨by decide, by decide⟩ (Nat.le_of_ble_eq_true rfl) ⟨by omega, by omega⟩ rfl dX8_isHijack_21) (fun r h2 hp => ?_)
  obtain ⟨rfl, rfl⟩ := hp
  have hlt : nab (fun a => decide (0 < cntQ (tb (sD s) (sm s)) a)) 9 ((sD s).2.1 u / 2) < 512 := Nat.lt_of_le_of_lt nab_le (by have := d.2.1.2; omega)
  by_cases z : nab (fun a => decide (0 < cntQ (tb (sD s) (sm s)) a)) 9 ((sD s).2.1 u / 2) = 0
  · rw [if_pos z]
    refine j_istore (pc := 24) F dX8_isHijack_24 (by decide) ?_
    refine j_iload (pc := 26) F dX8_isHijack_26 rfl ?_
    refine j_iconst (pc := 28) (v := (-1)) F dX8_isHijack_28 (by decide) ?_
    first | refine j_icmp_eqN (pc := 29) F 56 dX8_isHijack_29 (by decide) (by omega) (by omega) (fun c => ?_) (fun c => ?_) | refine j_icmp_eqIN (pc := 29) F 56 dX8_isHijack_29 (by decide) (by omega) (fun c => ?_) (fun c => ?_) | refine j_icmp_eqNI (pc := 29) F 56 dX8_isHijack_29 (by decide) (by omega) (fun c => ?_) (fun c => ?_) | refine j_icmp_eq (pc := 29) F 56 dX8_isHijack_29 (by decide) (fun c => ?_) (fun c => ?_)
    · refine j_iconst (pc := 56) (v := (nI 0)) F dX8_isHijack_56 (by decide) ?_
      exact jx_iret F hQ rfl rfl (by omega) (by omega) dX8_isHijack_57 ⟨c0, ⟨u, hu, by rw [vHij, z]; rfl⟩, hB1.is⟩
    · exact absurd rfl c
  · rw [if_neg z]
    refine j_istore (pc := 24) F dX8_isHijack_24 (by decide) ?_
    refine j_iload (pc := 26) F dX8_isHijack_26 rfl ?_
    refine j_iconst (pc := 28) (v := (-1)) F dX8_isHijack_28 (by decide) ?_
    refine j_icmp_eq (pc := 29) F 56 dX8_isHijack_29 (by decide) (fun c => ?_) (fun c => ?_)
    · exfalso
      have := congrArg Int32.toInt c
      rw [nI_toInt (by omega)] at this
      have e : (-1 : Int32).toInt = -1 := by decide
      omega
    · first | refine j_aload_n (pc := 32) F dX8_isHijack_32 rfl ?_ | refine j_aload_nq (pc := 32) F dX8_isHijack_32 rfl ?_
      refine j_get (pc := 33) F fg_X8_19 (by first | assumption | exact hUp_s) (by rfl) dX8_isHijack_33 ?_
      refine j_iload (pc := 36) F dX8_isHijack_36 rfl ?_
      first | refine j_aload (pc := 38) F dX8_isHijack_38 rfl ?_ | refine j_aloadq (pc := 38) F dX8_isHijack_38 rfl ?_
      refine j_getN (pc := 40) F fn_X8_155 (by first | assumption | exact hUp_s) (by rfl) dX8_isHijack_40 ?_
      refine j_ri (j_runV (pc := 43) F (c_X2_origin x3) m_X2_origin mv_X2_origin lk_X8_188 (by first | assumption | exact hUp_s) rfl ⟨by decide, by decide⟩ (Nat.le_of_ble_eq_true rfl) ⟨by omega, by omega⟩ rfl dX8_isHijack_43) (fun r h3 hp => ?_)
      obtain ⟨rfl, rfl⟩ := hp
      refine j_int (pAt_last d.2.2.1.1) ?_
      refine j_ri (j_runV (pc := 46) F (c_X7_hasOrigin ht (hB1.2.2.2.2.2.2.1.live hB1.2.2.2.2.2.2.2) ⟨by omega, hlt⟩ (d.2.2.2 _ (by have := d.2.2.1.1; omega)).2) m_X7_hasOrigin mv_X7_hasOrigin lk_X8_191 (by first | assumption | exact hUp_s) rfl ⟨by decide, by decide⟩ (Nat.le_of_ble_eq_true rfl) ⟨by omega, by omega⟩ rfl dX8_isHijack_46) (fun r h4 hp => ?_)
      obtain ⟨rfl, rfl⟩ := hp
      first | refine j_if_neB (pc := 49) F 56 dX8_isHijack_49 (by decide) (fun c5 => ?_) (fun c5 => ?_) | refine j_if_neN (pc := 49) F 56 dX8_isHijack_49 (by decide) (by omega) (fun c5 => ?_) (fun c5 => ?_) | refine j_if_neI (pc := 49) F 56 dX8_isHijack_49 (by decide) (fun c5 => ?_) (fun c5 => ?_)
      · refine j_iconst (pc := 56) (v := (nI 0)) F dX8_isHijack_56 (by decide) ?_
        refine jx_iret F hQ rfl rfl (by omega) (by omega) dX8_isHijack_57 ⟨c0, ⟨u, hu, ?_⟩, hB1.is⟩
        show _ = bI (decide (¬ _ = 0) && !_)
        rw [decide_eq_true z]
        show _ = bI (true && !((oBits s _).testBit (ogn (sD s) u)))
        rw [show (oBits s (nab (fun a => decide (0 < cntQ (tb (sD s) (sm s)) a)) 9 ((sD s).2.1 u / 2))).testBit (ogn (sD s) u) = true from c5]
        rfl
      · refine j_iconst (pc := 52) (v := (nI 1)) F dX8_isHijack_52 (by decide) ?_
        refine j_goto (pc := 53) F 57 dX8_isHijack_53 (by decide) ?_
        refine jx_iret F hQ rfl rfl (by omega) (by omega) dX8_isHijack_57 ⟨c0, ⟨u, hu, ?_⟩, hB1.is⟩
        show _ = bI (decide (¬ _ = 0) && !_)
        rw [decide_eq_true z]
        show _ = bI (true && !((oBits s _).testBit (ogn (sD s) u)))
        rw [show (oBits s (nab (fun a => decide (0 < cntQ (tb (sD s) (sm s)) a)) 9 ((sD s).2.1 u / 2))).testBit (ogn (sD s) u) = false from c5]
        rfl
theorem c_X8_verdict (hst : l.stackTraces = false) {p a b : Int32} (hB : isB g h x s) : XI l g A h yX8_verdict cX8_verdict 4 (some .int) 8 3 18 [.ref x, .int p, .int a, .int b] (fun r h1 => rcode s p a b = 0 ∧ (∃ u, tb (sD s) (sm s) (pN p) (pqN a b) = some u ∧ r = vVerd s u) ∧ isB g h1 x s) (fun u => nm [IOOB, IAE, NSEE] (rcode s p a b) u.2 ∧ isB g u.1 x s) := by
  obtain ⟨pm, am, tr, hi, rg, rl, T, E, kc, K, hB⟩ := hB
  have e0 := hB.1
  refine jx_met (by decide +kernel) (Nat.le_of_ble_eq_true rfl) (fun X F hex hQ => ?_)
  first | refine j_aload_n (pc := 0) F dX8_verdict_0 rfl ?_ | refine j_aload_nq (pc := 0) F dX8_verdict_0 rfl ?_
  refine j_get (pc := 1) F fg_X8_33 (by first | assumption | exact hUp_s) (by rfl) dX8_verdict_1 ?_
  first | refine j_aload_n (pc := 4) F dX8_verdict_4 rfl ?_ | refine j_aload_nq (pc := 4) F dX8_verdict_4 rfl ?_
  refine j_iload_n (pc := 5) F dX8_verdict_5 rfl ?_
  refine j_iload_n (pc := 6) F dX8_verdict_6 rfl ?_
  refine j_iload_n (pc := 7) F dX8_verdict_7 rfl ?_
  refine jx_rq (jx_runV (pc := 8) F (c_X8_needRoute hst hB) m_X8_needRoute mv_X8_needRoute lk_X8_140 (by first | assumption | exact hUp_s) rfl ⟨by decide, by decide⟩ (Nat.le_of_ble_eq_true rfl) ⟨by omega, by omega⟩ rfl dX8_verdict_8) (fun E h1 hp => ?_) (fun r h1 hp => ?_)
  · exact jx_out F hQ hex (by omega) (by omega) ⟨hp.1, (bx_sk hB hp.2).is⟩
  obtain ⟨c0, c1, c2, ⟨u, hu, rfl⟩, hk⟩ := hp
  have hB1 := bx_sk hB hk
  obtain ⟨hrt, d, w3, w4, -⟩ := hB1.rt (Nat.le_refl _) hu
  obtain ⟨ea, ad, pf, hr⟩ := hB1.2.2.2.2.1
  obtain ⟨rr, e5, -⟩ := id hr
  refine j_ri (j_runV (pc := 11) F (c_X4_judge hr hrt (d.r w3 w4) d.2.2.1.1 (fun j hj => (d.2.2.2 j hj).2)) m_X4_judge mv_X4_judge lk_X8_215 (by first | assumption | exact hUp_s) rfl ⟨by decide, by decide⟩ (Nat.le_of_ble_eq_true rfl) ⟨by omega, by omega⟩ rfl dX8_verdict_11) (fun r h2 hp => ?_)
  obtain ⟨rfl, rfl⟩ := hp
  exact jx_iret F hQ rfl rfl (by omega) (by omega) dX8_verdict_14 ⟨c0, ⟨u, hu, rfl⟩, hB1.is⟩
theorem c_X8_valley (hst : l.stackTraces = false) {p a b : Int32} (w : wf s) (hB : isB g h x s) : XI l g A h yX8_valley cX8_valley 4 (some .int) 8 3 18 [.ref x, .int p, .int a, .int b] (fun r h1 => rcode s p a b = 0 ∧ (∃ u, tb (sD s) (sm s) (pN p) (pqN a b) = some u ∧ r = vVal s u) ∧ isB g h1 x s) (fun u => nm [IOOB, IAE, NSEE] (rcode s p a b) u.2 ∧ isB g u.1 x s) := by
  obtain ⟨pm, am, tr, hi, rg, rl, T, E, kc, K, hB⟩ := hB
  have e0 := hB.1
  refine jx_met (by decide +kernel) (Nat.le_of_ble_eq_true rfl) (fun X F hex hQ => ?_)
  first | refine j_aload_n (pc := 0) F dX8_valley_0 rfl ?_ | refine j_aload_nq (pc := 0) F dX8_valley_0 rfl ?_
  refine j_get (pc := 1) F fg_X8_40 (by first | assumption | exact hUp_s) (by rfl) dX8_valley_1 ?_
  first | refine j_aload_n (pc := 4) F dX8_valley_4 rfl ?_ | refine j_aload_nq (pc := 4) F dX8_valley_4 rfl ?_
  refine j_iload_n (pc := 5) F dX8_valley_5 rfl ?_
  refine j_iload_n (pc := 6) F dX8_valley_6 rfl ?_
  refine j_iload_n (pc := 7) F dX8_valley_7 rfl ?_
  refine jx_rq (jx_runV (pc := 8) F (c_X8_needRoute hst hB) m_X8_needRoute mv_X8_needRoute lk_X8_140 (by first | assumption | exact hUp_s) rfl ⟨by decide, by decide⟩ (Nat.le_of_ble_eq_true rfl) ⟨by omega, by omega⟩ rfl dX8_valley_8) (fun E h1 hp => ?_) (fun r h1 hp => ?_)
  · exact jx_out F hQ hex (by omega) (by omega) ⟨hp.1, (bx_sk hB hp.2).is⟩
  obtain ⟨c0, c1, c2, ⟨u, hu, rfl⟩, hk⟩ := hp
  have hB1 := bx_sk hB hk
  obtain ⟨⟨x1, x2, x3⟩, d, w3, w4, -⟩ := hB1.rt (Nat.le_refl _) hu
  obtain ⟨ra, ad, hr⟩ := hB1.2.2.2.2.2.1
  have e5 := hr.1
  refine j_getN (pc := 11) F fn_X8_155 (by first | assumption | exact hUp_s) (by rfl) dX8_valley_11 ?_
  refine j_ri (j_runV (pc := 14) F (c_X5_shapeOf hr x3 d.2.2.1.1 d.2.2.2 w.2.2.2.2.1) m_X5_shapeOf mv_X5_shapeOf lk_X8_232 (by first | assumption | exact hUp_s) rfl ⟨by decide, by decide⟩ (Nat.le_of_ble_eq_true rfl) ⟨by omega, by omega⟩ rfl dX8_valley_14) (fun r h2 hp => ?_)
  obtain ⟨rfl, rfl⟩ := hp
  exact jx_iret F hQ rfl rfl (by omega) (by omega) dX8_valley_17 ⟨c0, ⟨u, hu, rfl⟩, hB1.is⟩
end BQ3
