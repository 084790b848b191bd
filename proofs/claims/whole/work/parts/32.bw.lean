def ncode (s : SG) (p a b : Int32) : Nat := if okPeer p = false then 1 else if okPfx a b = false then 2 else if ¬ pAt (sz s) (sN s) 0 = p + nI 1 ∨ 300 ≤ sm s then 3 else 0
section BW
variable {l : Launch} {g : GG} {A : Nat → Prop} {h h1 : HF} {x : Nat} {s : SG} {pm am tr hi rg rl : Nat} {T : RF} {D : UD} {C : Nat → Nat → Option Nat} {E : Nat → Nat} {kc : Nat} {K : Nat → Nat}
/-- one more route -/
def upT (T : RF) (m a b c d : Nat) : RF := (fun u => if u = m then a else T.1 u, fun u => if u = m then b else T.2.1 u, fun u => if u = m then c else T.2.2.1 u, fun u => if u = m then d else T.2.2.2 u)
theorem rt_T {m a b c d u : Nat} (r : isRt g h T D E u) (n : u ≠ m) : isRt g h (upT T m a b c d) D (fun v => if v = m then 300 else E v) u := by
  show isRoute g h (if u = m then a else T.1 u) (if u = m then b else T.2.1 u) (if u = m then c else T.2.2.1 u) (if u = m then d else T.2.2.2 u) _ _ _ _ _ _ (if u = m then 300 else E u)
  rw [if_neg n, if_neg n, if_neg n, if_neg n, if_neg n]
  exact r
theorem c_X8_announce (hst : l.stackTraces = false) {p a b : Int32} (w : wf s) (hB : isB g h x s) : XI l g A h yX8_announce cX8_announce 7 (some .boolean) 8 8 48 [.ref x, .int p, .int a, .int b] (fun r h1 => ncode s p a b = 0 ∧ r = bI (decide (tb (sD s) (sm s) (pN p) (pqN a b) = none)) ∧ isB g h1 x (sUp s (pN p) (pqN a b) (sz s))) (fun u => nm [IOOB, IAE, ISE] (ncode s p a b) u.2 ∧ isB g u.1 x s) := by
  obtain ⟨pm, am, tr, hi, rg, rl, T, E, kc, K, hB⟩ := hB
  have e0 := hB.1
  have ke := hB.2.2.2.2.2.2.2
  refine jx_met (by decide +kernel) (Nat.le_of_ble_eq_true rfl) (fun X F hex hQ => ?_)
  first | refine j_aload_n (pc := 0) F dX8_announce_0 rfl ?_ | refine j_aload_nq (pc := 0) F dX8_announce_0 rfl ?_
  refine j_iload_n (pc := 1) F dX8_announce_1 rfl ?_
  refine jx_rv (jx_runV (pc := 2) F (c_X8_needPeer hst) m_X8_needPeer mv_X8_needPeer lk_X8_89 (by first | assumption | exact hUp_s) rfl ⟨by decide, by decide⟩ (Nat.le_of_ble_eq_true rfl) ⟨by omega, by omega⟩ rfl dX8_announce_2) (fun E h1 hp => ?_) (fun h1 hp => ?_)
  · obtain ⟨c, hp⟩ := hp
    cases hp
    have ec : ncode s p a b = 1 := by rw [ncode, if_pos c]
    exact jx_out F hQ hex (by omega) (by omega) ⟨⟨by rw [ec]; decide, by rw [ec]; rfl⟩, hB.is⟩
  obtain ⟨c1, rfl⟩ := hp
  obtain ⟨n1, n2⟩ := okPeer.n c1
  have r1 : ¬ okPeer p = false := by rw [c1]; simp
  first | refine j_aload_n (pc := 5) F dX8_announce_5 rfl ?_ | refine j_aload_nq (pc := 5) F dX8_announce_5 rfl ?_
  refine j_iload_n (pc := 6) F dX8_announce_6 rfl ?_
  refine j_iload_n (pc := 7) F dX8_announce_7 rfl ?_
  refine jx_rq (jx_runV (pc := 8) F (c_X8_needPrefix hst) m_X8_needPrefix mv_X8_needPrefix lk_X8_92 (by first | assumption | exact hUp_s) rfl ⟨by decide, by decide⟩ (Nat.le_of_ble_eq_true rfl) ⟨by omega, by omega⟩ rfl dX8_announce_8) (fun E h1 hp => ?_) (fun r h1 hp => ?_)
  · obtain ⟨c, hp⟩ := hp
    cases hp
    have ec : ncode s p a b = 2 := by rw [ncode, if_neg r1, if_pos c]
    exact jx_out F hQ hex (by omega) (by omega) ⟨⟨by rw [ec]; decide, by rw [ec]; rfl⟩, hB.is⟩
  obtain ⟨c2, pf, rfl, w1, w2, w3⟩ := hp
  have r2 : ¬ okPfx a b = false := by rw [c2]; simp
  obtain ⟨m1, m2, m3, m4, -⟩ := okPfx.n c2
  have hB1 := hB.new w1 w3
  have e1 := hB1.1
  have p1 := hB1.2.1
  obtain ⟨rr, e2, -⟩ := id p1
  first | refine j_astore (pc := 11) F dX8_announce_11 (by decide) ?_ | refine j_astoreq (pc := 11) F dX8_announce_11 (by decide) ?_ | refine j_astoreN (pc := 11) F dX8_announce_11 (by decide) ?_
  first | refine j_aload_n (pc := 13) F dX8_announce_13 rfl ?_ | refine j_aload_nq (pc := 13) F dX8_announce_13 rfl ?_
  refine j_get (pc := 14) F fg_X8_12 (by first | assumption | exact hUp_s) (by rfl) dX8_announce_14 ?_
  refine j_iconst (pc := 17) (v := (nI 0)) F dX8_announce_17 (by decide) ?_
  refine j_ri (j_runV (pc := 18) F (c_X2_networkAt p1) m_X2_networkAt mv_X2_networkAt lk_X8_96 (by first | assumption | exact hUp_s) rfl ⟨by decide, by decide⟩ (Nat.le_of_ble_eq_true rfl) ⟨by omega, by omega⟩ rfl dX8_announce_18) (fun r h2 hp => ?_)
  obtain ⟨rfl, rfl⟩ := hp
  refine j_iload_n (pc := 21) F dX8_announce_21 rfl ?_
  refine j_ri (j_runS (pc := 22) F (c_X8_networkOf p) m_X8_networkOf ms_X8_networkOf lk_X8_100 ⟨by decide, by decide⟩ (Nat.le_of_ble_eq_true rfl) ⟨by omega, by omega⟩ rfl dX8_announce_22) (fun r h3 hp => ?_)
  obtain ⟨rfl, rfl⟩ := hp
  refine j_icmp_eq (pc := 25) F 38 dX8_announce_25 (by decide) (fun c3 => ?_) (fun c3 => ?_)
  · have c3 : pAt (sz s) (sN s) 0 = p + nI 1 := c3
    first | refine j_aload_n (pc := 38) F dX8_announce_38 rfl ?_ | refine j_aload_nq (pc := 38) F dX8_announce_38 rfl ?_
    refine jx_rv (jx_runV (pc := 39) F (c_X8_needRoomForUpdate hst hB1) m_X8_needRoomForUpdate mv_X8_needRoomForUpdate lk_X8_105 (by first | assumption | exact hUp_s) rfl ⟨by decide, by decide⟩ (Nat.le_of_ble_eq_true rfl) ⟨by omega, by omega⟩ rfl dX8_announce_39) (fun E h1 hp => ?_) (fun h1 hp => ?_)
    · obtain ⟨c, hp⟩ := hp
      cases hp
      have ec : ncode s p a b = 3 := by rw [ncode, if_neg r1, if_neg r2, if_pos (Or.inr (by omega))]
      exact jx_out F hQ hex (by omega) (by omega) ⟨⟨by rw [ec]; decide, by rw [ec]; rfl⟩, hB1.is⟩
    obtain ⟨hm, rfl⟩ := hp
    have ec : ncode s p a b = 0 := by rw [ncode, if_neg r1, if_neg r2, if_neg (fun z => z.elim (fun z => z c3) (by omega))]
    have hz0 : 0 < sz s := by
      rcases Nat.eq_zero_or_pos (sz s) with z | z
      · exfalso
        rw [pAt, if_neg (by omega), n1] at c3
        have := congrArg Int32.toInt c3
        rw [nI_add, nI_toInt (by omega)] at this
        have e : (-1 : Int32).toInt = -1 := by decide
        omega
      · exact z
    obtain ⟨ca, cp, cb, ht⟩ := hB1.2.2.1
    have e5 := ht.1
    first | refine j_aload_n (pc := 42) F dX8_announce_42 rfl ?_ | refine j_aload_nq (pc := 42) F dX8_announce_42 rfl ?_
    refine j_get (pc := 43) F fg_X8_19 (by first | assumption | exact hUp_s) (by rfl) dX8_announce_43 ?_
    refine j_iload_n (pc := 46) F dX8_announce_46 rfl ?_
    first | refine j_aload (pc := 47) F dX8_announce_47 rfl ?_ | refine j_aloadq (pc := 47) F dX8_announce_47 rfl ?_
    refine j_getN (pc := 49) F fn_X8_108 (by first | assumption | exact hUp_s) (by rfl) dX8_announce_49 ?_
    have hc := c_X7_routeOf (l := l) (A := A) ht n2 m4
    rw [← n1] at hc
    refine j_rq (j_runV (pc := 52) F (hc) m_X7_routeOf mv_X7_routeOf lk_X8_113 (by first | assumption | exact hUp_s) rfl ⟨by decide, by decide⟩ (Nat.le_of_ble_eq_true rfl) ⟨by omega, by omega⟩ rfl dX8_announce_52) (fun r h5 hp => ?_)
    obtain ⟨rfl, rfl⟩ := hp
    have rest : ∀ (h6 : HF) (lv : List (Nat × Value)) (C1 : Nat → Nat → Option Nat) (E1 : Nat → Nat), isBm g h6 x s pm am tr hi rg rl T (sD s) C1 E1 kc K → (∀ a2 b2, C1 a2 b2 = if a2 = pN p ∧ b2 = pqN a b then none else tb (sD s) (sm s) a2 b2) → (∀ v, v < sm s → annc (sD s) v → E1 v = if tb (sD s) (sm s) ((sD s).1 v) ((sD s).2.1 v) = some v ∧ (sD s).1 v = pN p ∧ (pqN a b = 0 ∨ pqN a b = (sD s).2.1 v) then sm s else E v) → h6 pf = some (.inr (3, [.int (nI (pqN a b)), .int (nI (Nat.log2 (pqN a b)))])) → lall lv [(0, .ref x), (1, .int p), (4, .ref pf), (5, va_rf ((tb (sD s) (sm s) (pN p) (pqN a b)).map T.1))] → J l X g A 7 (0 + 1 + 1 + 0 + 0 + 1 + 0) (0 + 6 + 6 + 0 + 0 + 6 + 0) h6 68 lv [] := by
      intro h6 lv C1 E1 q1 q2 q3 q4 q5
      have f0 := q1.1
      refine j_lv _ q5 ?_
      refine j_new (pc := 68) F (ci := 6) (fs := [.int 0, .null, .null, .int 0, .int 0]) tyX6_ok fw_X6 lc_X8_121 iw_X6 nw_X6 rfl (fun j hj => by rcases (show j = 0 ∨ j = 1 ∨ j = 2 ∨ j = 3 ∨ j = 4 by omega) with rfl | rfl | rfl | rfl | rfl <;> rfl) (by omega) (by omega) dX8_announce_68 (fun nr hnr hA => ?_)
      have k7 := fk.new (h1 := hUp h6 nr (.inr (6, [.int 0, .null, .null, .int 0, .int 0]))) hnr (fun b hb => hUp_n hb)
      have f7 : hUp h6 nr (.inr (6, [.int 0, .null, .null, .int 0, .int 0])) nr = some (.inr (6, [.int 0, .null, .null, .int 0, .int 0])) := hUp_s
      generalize hh7 : hUp h6 nr (.inr (6, [.int 0, .null, .null, .int 0, .int 0])) = h7 at *
      have q7 := bm_sk q1 k7
      have g0 := q7.1
      have g1 := q7.2.1
      obtain ⟨rr7, g2, -⟩ := id g1
      refine j_dup (pc := 71) F dX8_announce_71 rfl ?_
      refine j_iload_n (pc := 72) F dX8_announce_72 rfl ?_
      first | refine j_aload (pc := 73) F dX8_announce_73 rfl ?_ | refine j_aloadq (pc := 73) F dX8_announce_73 rfl ?_
      first | refine j_aload_n (pc := 75) F dX8_announce_75 rfl ?_ | refine j_aload_nq (pc := 75) F dX8_announce_75 rfl ?_
      refine j_get (pc := 76) F fg_X8_12 (by first | assumption | exact hUp_s) (by rfl) dX8_announce_76 ?_
      refine j_rq (j_runV (pc := 79) F (c_X2_copy g1) m_X2_copy mv_X2_copy lk_X8_123 (by first | assumption | exact hUp_s) rfl ⟨by decide, by decide⟩ (Nat.le_of_ble_eq_true rfl) ⟨by omega, by omega⟩ rfl dX8_announce_79) (fun r h8 hp => ?_)
      obtain ⟨na, nb, rfl, v1, v2, v3, v4⟩ := hp
      have k8 : fk [] h7 h8 := fun b z hb _ => (v4 b (nn_ne hb v1) (nn_ne hb v2)).trans hb
      have q8 := bm_sk q7 k8
      have g3 := q8.1
      obtain ⟨ti, kk, bo, bt, nbb, hh8⟩ := q8.2.2.2.1
      have g4 := hh8.1
      first | refine j_aload_n (pc := 82) F dX8_announce_82 rfl ?_ | refine j_aload_nq (pc := 82) F dX8_announce_82 rfl ?_
      refine j_get (pc := 83) F fg_X8_26 (by first | assumption | exact hUp_s) (by rfl) dX8_announce_83 ?_
      refine j_ri (j_runV (pc := 86) F (c_X1_size hh8) m_X1_size mv_X1_size lk_X8_127 (by first | assumption | exact hUp_s) rfl ⟨by decide, by decide⟩ (Nat.le_of_ble_eq_true rfl) ⟨by omega, by omega⟩ rfl dX8_announce_86) (fun r h9 hp => ?_)
      obtain ⟨rfl, rfl⟩ := hp
      have f9 := k8 _ _ f7 (by simp)
      refine j_rv (j_runI (pc := 89) F (c_X6_init f9) m_X6_init rfl mi_X6_init lk_X8_128 ⟨by decide, by decide⟩ (Nat.le_of_ble_eq_true rfl) ⟨by omega, by omega⟩ rfl dX8_announce_89) (fun hA0 hp => ?_)
      obtain ⟨u1, u2⟩ := hp
      have hne1 : ∀ c z, h6 c = some z → c ≠ nr := fun c z hz => nn_ne hz hnr
      have kA : fk [] h6 hA0 := fun b z hb _ => by
        rw [u2 b (nn_ne hb hnr)]
        exact k8 _ _ (k7 _ _ hb (by simp)) (by simp)
      have qA := bm_sk q1 kA
      have i0 := qA.1
      have na_nr : na ≠ nr := fun z => by rw [z, f7] at v1; cases v1
      have nb_nr : nb ≠ nr := fun z => by rw [z, f7] at v2; cases v2
      have v3' : isPath g hA0 na nb (sz s) (sN s) := v3.at (u2 _ na_nr) (u2 _ nb_nr)
      have hold : ∀ c z, h6 c = some z → c ≠ na ∧ c ≠ nb := fun c z hz => ⟨nn_ne (k7 _ _ hz (by simp)) v1, nn_ne (k7 _ _ hz (by simp)) v2⟩
      have hKm : ∀ j, j < kc → K j < sm s := fun j hj => (ke.2.1 j hj).1
      have hKn : ∀ j, j < kc → K j ≠ sm s := fun j hj => by have := hKm j hj; omega
      generalize hD' : upD (sD s) (sm s) (pN p) (pqN a b) (sz s) (sN s) = D'
      generalize hT' : upT T (sm s) nr pf na nb = T'
      generalize hE2 : (fun v => if v = sm s then 300 else E1 v) = E2
      have tT : T'.1 (sm s) = nr ∧ T'.2.1 (sm s) = pf ∧ T'.2.2.1 (sm s) = na ∧ T'.2.2.2 (sm s) = nb := by rw [← hT']; exact ⟨if_pos rfl, if_pos rfl, if_pos rfl, if_pos rfl⟩
      have tO : ∀ u, u ≠ sm s → T'.1 u = T.1 u ∧ T'.2.1 u = T.2.1 u ∧ T'.2.2.1 u = T.2.2.1 u ∧ T'.2.2.2 u = T.2.2.2 u := fun u hu => by rw [← hT']; exact ⟨if_neg hu, if_neg hu, if_neg hu, if_neg hu⟩
      obtain ⟨d1, d2, d3, d4⟩ := hD' ▸ upD_s (D := sD s) (m := sm s) (p := pN p) (q := pqN a b) (z := sz s) (N := sN s)
      have eE : E2 (sm s) = 300 := by rw [← hE2]; exact if_pos rfl
      have rtN : isRt g hA0 T' D' E2 (sm s) := by
        unfold isRt
        rw [tT.1, tT.2.1, tT.2.2.1, tT.2.2.2, d1, d2, d3, d4, eE]
        exact ⟨by rw [u1, ← n1], kA _ _ q4 (by simp), v3'⟩
      have dN : dOk D' (sm s) := by
        unfold dOk
        rw [d1, d2, d3, d4]
        exact ⟨n2, m4, ⟨hz0, w.2.1.1⟩, w.2.1.2⟩
      have bA : bKp g hA0 pm am T' D' E2 (kc + 1) (fun j => if j = kc then sm s else K j) := by
        have bU := qA.2.2.2.2.2.2.up (m := sm s) (p := pN p) (q := pqN a b) (z := sz s) (N := sN s) hKm
        rw [hD'] at bU
        obtain ⟨rrA, xA1, xA2, -⟩ := id q1.2.1
        intro j hj
        by_cases c : j = kc
        · simp only [c, if_true]
          refine ⟨rtN, dN, by omega, by rw [eE]; omega, by rw [tT.2.2.1]; exact Ne.symm (hold _ _ xA1).1, by rw [tT.2.2.2]; exact Ne.symm (hold _ _ xA2).2, fun i hi he => ?_⟩
          by_cases ci : i = kc
          · simp only [ci, if_true]
          · simp only [ci, if_false] at he ⊢
            exfalso
            obtain ⟨z1, -⟩ := (q1.2.2.2.2.2.2 i (by omega)).1
            rw [(tO _ (hKn i (by omega))).1, tT.1] at he
            exact hne1 _ _ z1 he
        · simp only [c, if_false]
          obtain ⟨z1, z2, z3, z4, z5, z6, z7⟩ := bU j (by omega)
          obtain ⟨t1, t2, t3, t4⟩ := tO _ (hKn j (by omega))
          have rj : isRt g hA0 T' D' E2 (K j) := by rw [← hT', ← hE2]; exact rt_T z1 (hKn j (by omega))
          refine ⟨rj, z2, z3, ?_, by rw [t3]; exact z5, by rw [t4]; exact z6, fun i hi he => ?_⟩
          · rw [← hE2]
            show (if K j = sm s then 300 else E1 (K j)) ≤ 300
            rw [if_neg (hKn j (by omega))]
            exact z4
          · by_cases ci : i = kc
            · simp only [ci, if_true] at he ⊢
              exfalso
              obtain ⟨y1, -⟩ := (q1.2.2.2.2.2.2 j (by omega)).1
              rw [t1, tT.1] at he
              exact hne1 _ _ y1 he.symm
            · simp only [ci, if_false] at he ⊢
              rw [(tO _ (hKn i (by omega))).1, t1] at he
              exact z7 i (by omega) he
      obtain ⟨ca, cp, cb, htA⟩ := qA.2.2.1
      have htA' : isTree g hA0 tr ca cp cb T'.1 C1 := htA.rt (fun a2 b2 u ha hb hu => by
        rw [q2] at hu
        split at hu
        · cases hu
        · exact ((tO u (by have := (tb_lt hu).1; omega)).1).symm)
      have hC1 : C1 (D'.1 (sm s)) (D'.2.1 (sm s)) = none := by rw [d1, d2, q2, if_pos ⟨rfl, rfl⟩]
      have i1 := htA'.1
      have nrT : va_rf (some nr) = .ref (T'.1 (sm s)) := by rw [tT.1]; rfl
      first | refine j_astore (pc := 92) F dX8_announce_92 (by decide) ?_ | refine j_astoreq (pc := 92) F dX8_announce_92 (by decide) ?_ | refine j_astoreN (pc := 92) F dX8_announce_92 (by decide) ?_
      first | refine j_aload_n (pc := 94) F dX8_announce_94 rfl ?_ | refine j_aload_nq (pc := 94) F dX8_announce_94 rfl ?_
      refine j_get (pc := 95) F fg_X8_19 (by first | assumption | exact hUp_s) (by rfl) dX8_announce_95 ?_
      first | refine j_aload (pc := 98) F dX8_announce_98 rfl ?_ | refine j_aloadq (pc := 98) F dX8_announce_98 rfl ?_
      have hcp := c_X7_put (l := l) (A := A) htA' rtN dN hC1
      rw [tT.1] at hcp
      refine j_rv (j_runV (pc := 100) F (hcp) m_X7_put mv_X7_put lk_X8_131 (by first | assumption | exact hUp_s) rfl ⟨by decide, by decide⟩ (Nat.le_of_ble_eq_true rfl) ⟨by omega, by omega⟩ rfl dX8_announce_100) (fun hB0 hp => ?_)
      obtain ⟨s1, s2⟩ := hp
      obtain ⟨t1, ⟨f1, t2, -⟩, ⟨f2, t3, -⟩, f3, t4, -⟩ := id htA'
      have kB : fk [(2, 3072), (1, 512), (1, 6)] hA0 hB0 := fun b z hb hne => (s2 b (kd_ne hb hne t2 (by simp [kd])) (kd_ne hb hne t3 (by simp [kd])) (kd_ne hb hne t4 (by simp [kd]))).trans hb
      have jB0 := kB _ _ i0 (by simp [kd])
      obtain ⟨ti, kk, bo, bt, nb2, hhA⟩ := qA.2.2.2.1.fk kB (by decide)
      have hhB : isHist g hB0 hi ti kk bo bt T'.1 (sm s) (sTm s) kc K := by
        obtain ⟨y1, y2, ⟨f2, y3, y4⟩, y5⟩ := hhA
        exact ⟨y1, y2, ⟨f2, y3, fun j hj => by rw [y4 j hj, (tO _ (hKn j hj)).1]⟩, y5⟩
      have j1 := hhB.1
      obtain ⟨-, ⟨ff1, yy1, -⟩, ⟨ff2, yy2, -⟩, ⟨ff3, yy3⟩, ⟨ff4, yy4⟩, -⟩ := id hhB
      have rtB := isRoute.fk (S := [(2, 3072), (1, 512), (1, 6)]) rtN kB (by decide)
      have hck := c_X1_keep (l := l) (A := A) (u := sm s) (T := T') (D := D') (E := E2) hhB rtB (by have := ke.1; omega) ⟨kd_n2 yy2 yy3 (by simp [kd]), kd_n2 yy2 yy4 (by simp [kd])⟩
      rw [tT.1] at hck
      first | refine j_aload_n (pc := 103) F dX8_announce_103 rfl ?_ | refine j_aload_nq (pc := 103) F dX8_announce_103 rfl ?_
      refine j_get (pc := 104) F fg_X8_26 (by first | assumption | exact hUp_s) (by rfl) dX8_announce_104 ?_
      first | refine j_aload (pc := 107) F dX8_announce_107 rfl ?_ | refine j_aloadq (pc := 107) F dX8_announce_107 rfl ?_
      refine j_rv (j_runV (pc := 109) F (hck) m_X1_keep mv_X1_keep lk_X8_134 (by first | assumption | exact hUp_s) rfl ⟨by decide, by decide⟩ (Nat.le_of_ble_eq_true rfl) ⟨by omega, by omega⟩ rfl dX8_announce_109) (fun hC0 hp => ?_)
      obtain ⟨hhC, o2⟩ := hp
      have kC : fk [(0, 1), (2, 300)] hB0 hC0 := fun b z hb hne => (o2 b (kd_ne hb hne j1 (by simp [kd])) (kd_ne hb hne yy2 (by simp [kd]))).trans hb
      have jC0 := kC _ _ jB0 (by simp [kd])
      have jC1 := hhC.1
      first | refine j_aload_n (pc := 112) F dX8_announce_112 rfl ?_ | refine j_aload_nq (pc := 112) F dX8_announce_112 rfl ?_
      refine j_get (pc := 113) F fg_X8_26 (by first | assumption | exact hUp_s) (by rfl) dX8_announce_113 ?_
      first | refine j_aload_n (pc := 116) F dX8_announce_116 rfl ?_ | refine j_aload_nq (pc := 116) F dX8_announce_116 rfl ?_
      refine j_get (pc := 117) F fg_X8_44 (by first | assumption | exact hUp_s) (by rfl) dX8_announce_117 ?_
      refine j_rv (j_runV (pc := 120) F (c_X1_noteUpdate hhC hm) m_X1_noteUpdate mv_X1_noteUpdate lk_X8_137 (by first | assumption | exact hUp_s) rfl ⟨by decide, by decide⟩ (Nat.le_of_ble_eq_true rfl) ⟨by omega, by omega⟩ rfl dX8_announce_120) (fun hD0 hp => ?_)
      obtain ⟨hhD, o3⟩ := hp
      obtain ⟨z0, z1, z2, z3, z4, z5, z6⟩ := qA
      have kBC : fk [(2, 3072), (1, 512), (1, 6), (0, 1), (2, 300)] hA0 hC0 := (kB.mono (by simp)).trans (kC.mono (by simp))
      have trB : bTr g hB0 tr T' (cUp C1 (D'.1 (sm s)) (D'.2.1 (sm s)) (some (sm s))) := ⟨ca, cp, cb, s1⟩
      have hM : isBm g hC0 x s pm am tr hi rg rl T' D' (cUp C1 (D'.1 (sm s)) (D'.2.1 (sm s)) (some (sm s))) E2 (kc + 1) (fun j => if j = kc then sm s else K j) :=
        ⟨jC0, z1.fk kBC (by decide) (by decide), trB.fk kC (by decide), ⟨ti, kk, bo, bt, nb2, hhC⟩, z4.fk kBC (by decide), z5.fk kBC (by decide), bA.fk kBC (by decide)⟩
      rw [← hD'] at hM
      have hBx : isBx g hD0 x (sUp s (pN p) (pqN a b) (sz s)) pm am tr hi rg rl T' E2 (kc + 1) (fun j => if j = kc then sm s else K j) := by
        refine bu_note hM (fun a2 b2 ha hb => ?_) (ke.ann hm ⟨by omega, hz0⟩ (fun v hv hav => ?_) eE) hhC nb2 hhD o3
        · obtain ⟨d1, d2, -⟩ := upD_s (D := sD s) (m := sm s) (p := pN p) (q := pqN a b) (z := sz s) (N := sN s)
          rw [tb_new, d1, d2]
          unfold cUp
          by_cases c : a2 = pN p ∧ b2 = pqN a b
          · rw [if_pos c, if_pos ⟨c.1, Or.inr c.2.symm⟩, if_pos ⟨by omega, hz0⟩]
          · rw [if_neg c, if_neg (fun z => c ⟨z.1, by omega⟩), q2, if_neg c]
        · rw [← hE2]
          show (if v = sm s then 300 else E1 v) = _
          rw [if_neg (by omega)]
          exact q3 v hv hav
      cases ht2 : tb (sD s) (sm s) (pN p) (pqN a b) with
      | none =>
        first | refine j_aload (pc := 123) F dX8_announce_123 rfl ?_ | refine j_aloadq (pc := 123) F dX8_announce_123 rfl ?_
        refine j_ifnonnullN (pc := 125) F dX8_announce_125 ?_
        refine j_iconst (pc := 128) (v := (nI 1)) F dX8_announce_128 (by decide) ?_
        refine j_goto (pc := 129) F 133 dX8_announce_129 (by decide) ?_
        exact jx_iret F hQ rfl rfl (by omega) (by omega) dX8_announce_133 ⟨ec, by rw [ht2]; rfl, hBx.is⟩
      | some u =>
        first | refine j_aload (pc := 123) F dX8_announce_123 rfl ?_ | refine j_aloadq (pc := 123) F dX8_announce_123 rfl ?_
        refine j_ifnonnull (pc := 125) F 132 dX8_announce_125 (by decide) ?_
        refine j_iconst (pc := 132) (v := (nI 0)) F dX8_announce_132 (by decide) ?_
        exact jx_iret F hQ rfl rfl (by omega) (by omega) dX8_announce_133 ⟨ec, by rw [ht2]; rfl, hBx.is⟩
    cases htb : tb (sD s) (sm s) (pN p) (pqN a b) with
    | none =>
      first | refine j_astore (pc := 55) F dX8_announce_55 (by decide) ?_ | refine j_astoreq (pc := 55) F dX8_announce_55 (by decide) ?_ | refine j_astoreN (pc := 55) F dX8_announce_55 (by decide) ?_
      first | refine j_aload (pc := 57) F dX8_announce_57 rfl ?_ | refine j_aloadq (pc := 57) F dX8_announce_57 rfl ?_
      refine j_ifnullN (pc := 59) F 68 dX8_announce_59 (by decide) ?_
      refine rest h5 _ _ E hB1.m (fun a2 b2 => ?_) (fun v hv hav => ?_) w2 ⟨rfl, rfl, rfl, by rw [htb]; rfl, trivial⟩
      · by_cases c : a2 = pN p ∧ b2 = pqN a b
        · rw [if_pos c, c.1, c.2]; exact htb
        · rw [if_neg c]
      · rw [if_neg]
        rintro ⟨z1, z2, z3⟩
        rw [z2, show (sD s).2.1 v = pqN a b by omega, htb] at z1
        cases z1
    | some u =>
      obtain ⟨-, t2, t3, -⟩ := tb_lt htb
      obtain ⟨j, hj, hju⟩ := (ke.ts (Nat.le_refl _) htb).2
      obtain ⟨⟨xx1, xx2, -⟩, -⟩ := hB1.2.2.2.2.2.2.1 j hj
      first | refine j_astore (pc := 55) F dX8_announce_55 (by decide) ?_ | refine j_astoreq (pc := 55) F dX8_announce_55 (by decide) ?_ | refine j_astoreN (pc := 55) F dX8_announce_55 (by decide) ?_
      first | refine j_aload (pc := 57) F dX8_announce_57 rfl ?_ | refine j_aloadq (pc := 57) F dX8_announce_57 rfl ?_
      refine j_ifnull (pc := 59) F dX8_announce_59 ?_
      first | refine j_aload_n (pc := 62) F dX8_announce_62 rfl ?_ | refine j_aload_nq (pc := 62) F dX8_announce_62 rfl ?_
      first | refine j_aload (pc := 63) F dX8_announce_63 rfl ?_ | refine j_aloadq (pc := 63) F dX8_announce_63 rfl ?_
      refine j_rv (j_runV (pc := 65) F (c_X8_endRoute hB1.m hj hju (by rw [t2, t3]; exact htb) (by omega)) m_X8_endRoute mv_X8_endRoute lk_X8_117 (by first | assumption | exact hUp_s) rfl ⟨by decide, by decide⟩ (Nat.le_of_ble_eq_true rfl) ⟨by omega, by omega⟩ rfl dX8_announce_65) (fun h7 hM => ?_)
      rw [t2, t3] at hM
      refine rest h7 _ _ _ hM.1 (fun a2 b2 => rfl) (fun v hv hav => ?_) ?_ ⟨rfl, rfl, rfl, by rw [htb]; rfl, trivial⟩
      · show (if v = u then sm s else E v) = _
        by_cases cu : v = u
        · rw [if_pos cu, if_pos]
          rw [cu, t2, t3]
          exact ⟨htb, rfl, Or.inr rfl⟩
        · rw [if_neg cu, if_neg]
          rintro ⟨z1, z2, z3⟩
          rw [z2, show (sD s).2.1 v = pqN a b by omega, htb] at z1
          exact cu (Option.some.inj z1).symm
      · exact hM.2 _ _ w2 (by simp [kd])
  · have c3 : ¬ pAt (sz s) (sN s) 0 = p + nI 1 := c3
    have ec : ncode s p a b = 3 := by rw [ncode, if_neg r1, if_neg r2, if_pos (Or.inl c3)]
    exact j_throwS (pc := 28) F hst hQ hex tw_60 es_103 lc_X8_56 xi_IllegalStateException (by decide) (Nat.le_of_ble_eq_true rfl) ⟨by omega, by omega⟩ dX8_announce_28 dX8_announce_31 dX8_announce_32 dX8_announce_34 dX8_announce_37 (⟨⟨by rw [ec]; decide, by rw [ec]; rfl⟩, hB1.is⟩)
end BW
