/-! ===== Bgpreplay: what is asked of it ===== -/
def vRoutes (s : SG) (p : Int32) : Int32 := nI (cntP (tb (sD s) (sm s)) (pN p))
def vPrefixes (s : SG) : Int32 := nI (cnt (fun j => decide (0 < cntQ (tb (sD s) (sm s)) (j + 1))) 511)
def pcode (s : SG) (p a b i : Int32) : Nat := if i.toInt < 0 then 1 else rcode s p a b
def xcode (a b : Int32) : Nat := if okPfx a b = true then 0 else 1
def vBest (s : SG) (q : Nat) : Int32 := match bstT (sD s) (sm s) q with | none => -1 | some u => nI ((sD s).1 u)
def vLook (s : SG) (n : Nat) (a : Int32) : Int32 := lenF (fndp (sD s) n (pN a) 9)
def vOrg (s : SG) (n : Nat) (a : Int32) : Int32 := match fnd (sD s) n (pN a) with | none => -1 | some u => nI (ogn (sD s) u)
def oBits (s : SG) (q : Nat) : Nat := obits (ogn (sD s)) (fun p => tb (sD s) (sm s) p q) 6
def vOrigins (s : SG) (q : Nat) : Int32 := bcI (nI (oBits s q))
def vCont (s : SG) : Int32 := nI (cnt (fun j => decide (1 < (vOrigins s (j + 1)).toInt)) 511)
def vHij (s : SG) (u : Nat) : Bool := let c := nab (fun a => decide (0 < cntQ (tb (sD s) (sm s)) a)) 9 ((sD s).2.1 u / 2); decide (¬ c = 0) && !((oBits s c).testBit (ogn (sD s) u))
def vVerd (s : SG) (u : Nat) : Int32 := nI (jud (sn s) (sQ s) (fun i => Nat.log2 (sQ s i)) (sL s) (sO s) ((sD s).2.1 u) (Nat.log2 ((sD s).2.1 u)) (ogn (sD s) u))
def vVal (s : SG) (u : Nat) : Int32 := nI (shp (sM s) ((sD s).2.2.2 u) ((sD s).2.2.1 u - 1) false false)
def vChg (s : SG) (n n2 : Nat) : Int32 := nI (cnt (fun j => unl (sD s) (bstT (sD s) n (j + 1)) (bstT (sD s) n2 (j + 1))) 511)
section BQ
variable {l : Launch} {g : GG} {A : Nat → Prop} {h : HF} {x : Nat} {s : SG}
theorem isBx.is {pm am tr hi rg rl : Nat} {T : RF} {E : Nat → Nat} {kc : Nat} {K : Nat → Nat} (z : isBx g h x s pm am tr hi rg rl T E kc K) : isB g h x s := ⟨pm, am, tr, hi, rg, rl, T, E, kc, K, z⟩
theorem bx_sk {pm am tr hi rg rl : Nat} {T : RF} {E : Nat → Nat} {kc : Nat} {K : Nat → Nat} {h1 : HF} (z : isBx g h x s pm am tr hi rg rl T E kc K) (k : fk [] h h1) : isBx g h1 x s pm am tr hi rg rl T E kc K := z.fk k (fun _ _ w => nomatch w)
/-- the route of a table, in the heap -/
theorem isBx.rt {pm am tr hi rg rl : Nat} {T : RF} {E : Nat → Nat} {kc : Nat} {K : Nat → Nat} (z : isBx g h x s pm am tr hi rg rl T E kc K) {n p q u : Nat} (hn : n ≤ sm s) (hu : tb (sD s) n p q = some u) : isRt g h T (sD s) E u ∧ dOk (sD s) u ∧ u < 300 ∧ E u ≤ 300 ∧ (sD s).1 u = p ∧ (sD s).2.1 u = q := by
  obtain ⟨e0, e1, e2, e3, e4, e5, e6, e7⟩ := z
  obtain ⟨h1, h2, h3, h4⟩ := tb_lt hu
  obtain ⟨j, hj, rfl⟩ := e7.2.2.1 u (by omega) h4
  obtain ⟨w1, w2, w3, w4, -⟩ := e6 j hj
  exact ⟨w1, w2, w3, w4, h2, h3⟩
theorem c_X8_now (hB : isB g h x s) : MI l g A h yX8_now cX8_now 1 (some .int) 0 0 0 [.ref x] (fun r h1 => r = nI (sT s) ∧ isB g h1 x s) := by
  have hB' := hB
  obtain ⟨pm, am, tr, hi, rg, rl, T, E, kc, K, hB⟩ := hB
  have e0 := hB.1
  refine j_met (by decide +kernel) (Nat.le_of_ble_eq_true rfl) (fun X F hn hQ => ?_)
  first | refine j_aload_n (pc := 0) F dX8_now_0 rfl ?_ | refine j_aload_nq (pc := 0) F dX8_now_0 rfl ?_
  refine j_get (pc := 1) F fg_X8_44 (by first | assumption | exact hUp_s) (by rfl) dX8_now_1 ?_
  exact j_iret F hQ rfl rfl (by omega) (by omega) dX8_now_4 ⟨rfl, hB'⟩
theorem c_X8_updates (hB : isB g h x s) : MI l g A h yX8_updates cX8_updates 1 (some .int) 1 0 0 [.ref x] (fun r h1 => r = nI (sm s) ∧ isB g h1 x s) := by
  have hB' := hB
  obtain ⟨pm, am, tr, hi, rg, rl, T, E, kc, K, hB⟩ := hB
  have e0 := hB.1
  obtain ⟨ti, ke, bo, bt, -, hh⟩ := hB.2.2.2.1
  have e1 := hh.1
  refine j_met (by decide +kernel) (Nat.le_of_ble_eq_true rfl) (fun X F hn hQ => ?_)
  first | refine j_aload_n (pc := 0) F dX8_updates_0 rfl ?_ | refine j_aload_nq (pc := 0) F dX8_updates_0 rfl ?_
  refine j_get (pc := 1) F fg_X8_26 (by first | assumption | exact hUp_s) (by rfl) dX8_updates_1 ?_
  refine j_ri (j_runV (pc := 4) F (c_X1_size hh) m_X1_size mv_X1_size lk_X8_127 (by first | assumption | exact hUp_s) rfl ⟨by decide, by decide⟩ (Nat.le_of_ble_eq_true rfl) ⟨by omega, by omega⟩ rfl dX8_updates_4) (fun r h1 hp => ?_)
  obtain ⟨rfl, rfl⟩ := hp
  exact j_iret F hQ rfl rfl (by omega) (by omega) dX8_updates_7 ⟨rfl, hB'⟩
theorem c_X8_routes (hst : l.stackTraces = false) {p : Int32} (hB : isB g h x s) : XI l g A h yX8_routes cX8_routes 2 (some .int) 8 3 18 [.ref x, .int p] (fun r h1 => okPeer p = true ∧ r = vRoutes s p ∧ isB g h1 x s) (fun u => okPeer p = false ∧ u.2 = IOOB ∧ isB g u.1 x s) := by
  have hB' := hB
  obtain ⟨pm, am, tr, hi, rg, rl, T, E, kc, K, hB⟩ := hB
  have e0 := hB.1
  obtain ⟨ca, cp, cb, ht⟩ := hB.2.2.1
  have e1 := ht.1
  refine jx_met (by decide +kernel) (Nat.le_of_ble_eq_true rfl) (fun X F hex hQ => ?_)
  first | refine j_aload_n (pc := 0) F dX8_routes_0 rfl ?_ | refine j_aload_nq (pc := 0) F dX8_routes_0 rfl ?_
  refine j_iload_n (pc := 1) F dX8_routes_1 rfl ?_
  refine jx_rv (jx_runV (pc := 2) F (c_X8_needPeer hst) m_X8_needPeer mv_X8_needPeer lk_X8_89 (by first | assumption | exact hUp_s) rfl ⟨by decide, by decide⟩ (Nat.le_of_ble_eq_true rfl) ⟨by omega, by omega⟩ rfl dX8_routes_2) (fun E h1 hp => ?_) (fun h1 hp => ?_)
  · obtain ⟨c, hp⟩ := hp
    cases hp
    exact jx_out F hQ hex (by omega) (by omega) ⟨c, rfl, hB'⟩
  obtain ⟨c1, rfl⟩ := hp
  obtain ⟨n1, n2⟩ := okPeer.n c1
  first | refine j_aload_n (pc := 5) F dX8_routes_5 rfl ?_ | refine j_aload_nq (pc := 5) F dX8_routes_5 rfl ?_
  refine j_get (pc := 6) F fg_X8_19 (by first | assumption | exact hUp_s) (by rfl) dX8_routes_6 ?_
  refine j_iload_n (pc := 9) F dX8_routes_9 rfl ?_
  have hc := c_X7_countOfPeer (l := l) (A := A) ht n2
  rw [← n1] at hc
  refine j_ri (j_runV (pc := 10) F (hc) m_X7_countOfPeer mv_X7_countOfPeer lk_X8_144 (by first | assumption | exact hUp_s) rfl ⟨by decide, by decide⟩ (Nat.le_of_ble_eq_true rfl) ⟨by omega, by omega⟩ rfl dX8_routes_10) (fun r h1 hp => ?_)
  obtain ⟨rfl, rfl⟩ := hp
  exact jx_iret F hQ rfl rfl (by omega) (by omega) dX8_routes_13 ⟨c1, rfl, hB'⟩
theorem c_X8_prefixes (hB : isB g h x s) : MI l g A h yX8_prefixes cX8_prefixes 1 (some .int) 8 0 0 [.ref x] (fun r h1 => r = vPrefixes s ∧ isB g h1 x s) := by
  have hB' := hB
  obtain ⟨pm, am, tr, hi, rg, rl, T, E, kc, K, hB⟩ := hB
  have e0 := hB.1
  obtain ⟨ca, cp, cb, ht⟩ := hB.2.2.1
  have e1 := ht.1
  refine j_met (by decide +kernel) (Nat.le_of_ble_eq_true rfl) (fun X F hn hQ => ?_)
  first | refine j_aload_n (pc := 0) F dX8_prefixes_0 rfl ?_ | refine j_aload_nq (pc := 0) F dX8_prefixes_0 rfl ?_
  refine j_get (pc := 1) F fg_X8_19 (by first | assumption | exact hUp_s) (by rfl) dX8_prefixes_1 ?_
  refine j_ri (j_runV (pc := 4) F (c_X7_countPrefixes ht) m_X7_countPrefixes mv_X7_countPrefixes lk_X8_147 (by first | assumption | exact hUp_s) rfl ⟨by decide, by decide⟩ (Nat.le_of_ble_eq_true rfl) ⟨by omega, by omega⟩ rfl dX8_prefixes_4) (fun r h1 hp => ?_)
  obtain ⟨rfl, rfl⟩ := hp
  exact j_iret F hQ rfl rfl (by omega) (by omega) dX8_prefixes_7 ⟨rfl, hB'⟩
theorem c_X8_pathAt (hst : l.stackTraces = false) {p a b i : Int32} (hB : isB g h x s) : XI l g A h yX8_pathAt cX8_pathAt 5 (some .int) 8 3 18 [.ref x, .int p, .int a, .int b, .int i] (fun r h1 => pcode s p a b i = 0 ∧ (∃ u, tb (sD s) (sm s) (pN p) (pqN a b) = some u ∧ r = pAt ((sD s).2.2.1 u) ((sD s).2.2.2 u) i.toInt) ∧ isB g h1 x s) (fun u => nm [IOOB, IAE, NSEE] (pcode s p a b i) u.2 ∧ isB g u.1 x s) := by
  have hB' := hB
  obtain ⟨pm, am, tr, hi, rg, rl, T, E, kc, K, hB⟩ := hB
  have e0 := hB.1
  refine jx_met (by decide +kernel) (Nat.le_of_ble_eq_true rfl) (fun X F hex hQ => ?_)
  refine j_iload (pc := 0) F dX8_pathAt_0 rfl ?_
  first | refine j_if_geN (pc := 2) F 15 dX8_pathAt_2 (by decide) (by omega) (fun c => ?_) (fun c => ?_) | refine j_if_geI (pc := 2) F 15 dX8_pathAt_2 (by decide) (fun c => ?_) (fun c => ?_)
  · have r0 : ¬ i.toInt < 0 := by omega
    first | refine j_aload_n (pc := 15) F dX8_pathAt_15 rfl ?_ | refine j_aload_nq (pc := 15) F dX8_pathAt_15 rfl ?_
    refine j_iload_n (pc := 16) F dX8_pathAt_16 rfl ?_
    refine j_iload_n (pc := 17) F dX8_pathAt_17 rfl ?_
    refine j_iload_n (pc := 18) F dX8_pathAt_18 rfl ?_
    refine jx_rq (jx_runV (pc := 19) F (c_X8_needRoute hst hB) m_X8_needRoute mv_X8_needRoute lk_X8_140 (by first | assumption | exact hUp_s) rfl ⟨by decide, by decide⟩ (Nat.le_of_ble_eq_true rfl) ⟨by omega, by omega⟩ rfl dX8_pathAt_19) (fun E h1 hp => ?_) (fun r h1 hp => ?_)
    · refine jx_out F hQ hex (by omega) (by omega) ⟨?_, (bx_sk hB hp.2).is⟩
      rw [pcode, if_neg r0]; exact hp.1
    obtain ⟨c0, c1, c2, ⟨u, hu, rfl⟩, hk⟩ := hp
    have hB1 := bx_sk hB hk
    obtain ⟨⟨x1, x2, x3⟩, w2, w3, w4, -⟩ := hB1.rt (Nat.le_refl _) hu
    obtain ⟨rr, x4, -⟩ := id x3
    refine j_getN (pc := 22) F fn_X8_155 (by first | assumption | exact hUp_s) (by rfl) dX8_pathAt_22 ?_
    refine j_iload (pc := 25) F dX8_pathAt_25 rfl ?_
    refine j_ri (j_runV (pc := 27) F (c_X2_networkAt x3) m_X2_networkAt mv_X2_networkAt lk_X8_96 (by first | assumption | exact hUp_s) rfl ⟨by decide, by decide⟩ (Nat.le_of_ble_eq_true rfl) ⟨by omega, by omega⟩ rfl dX8_pathAt_27) (fun r h2 hp => ?_)
    obtain ⟨rfl, rfl⟩ := hp
    exact jx_iret F hQ rfl rfl (by omega) (by omega) dX8_pathAt_30 ⟨by rw [pcode, if_neg r0]; exact c0, ⟨u, hu, rfl⟩, hB1.is⟩
  · have r0 : i.toInt < 0 := by omega
    exact j_throwS (pc := 5) F hst hQ hex tw_154 es_152 lc_X8_150 xi_IndexOutOfBoundsException (by decide) (Nat.le_of_ble_eq_true rfl) ⟨by omega, by omega⟩ dX8_pathAt_5 dX8_pathAt_8 dX8_pathAt_9 dX8_pathAt_11 dX8_pathAt_14 (⟨⟨by rw [pcode, if_pos r0]; decide, by rw [pcode, if_pos r0]; rfl⟩, hB'⟩)
theorem c_X8_bestPeer (hst : l.stackTraces = false) {a b : Int32} (hB : isB g h x s) : XI l g A h yX8_bestPeer cX8_bestPeer 4 (some .int) 8 3 18 [.ref x, .int a, .int b] (fun r h1 => okPfx a b = true ∧ r = vBest s (pqN a b) ∧ isB g h1 x s) (fun u => okPfx a b = false ∧ u.2 = IAE ∧ isB g u.1 x s) := by
  have hB' := hB
  obtain ⟨pm, am, tr, hi, rg, rl, T, E, kc, K, hB⟩ := hB
  have e0 := hB.1
  refine jx_met (by decide +kernel) (Nat.le_of_ble_eq_true rfl) (fun X F hex hQ => ?_)
  first | refine j_aload_n (pc := 0) F dX8_bestPeer_0 rfl ?_ | refine j_aload_nq (pc := 0) F dX8_bestPeer_0 rfl ?_
  refine j_get (pc := 1) F fg_X8_19 (by first | assumption | exact hUp_s) (by rfl) dX8_bestPeer_1 ?_
  first | refine j_aload_n (pc := 4) F dX8_bestPeer_4 rfl ?_ | refine j_aload_nq (pc := 4) F dX8_bestPeer_4 rfl ?_
  refine j_iload_n (pc := 5) F dX8_bestPeer_5 rfl ?_
  refine j_iload_n (pc := 6) F dX8_bestPeer_6 rfl ?_
  refine jx_rq (jx_runV (pc := 7) F (c_X8_needPrefix hst) m_X8_needPrefix mv_X8_needPrefix lk_X8_92 (by first | assumption | exact hUp_s) rfl ⟨by decide, by decide⟩ (Nat.le_of_ble_eq_true rfl) ⟨by omega, by omega⟩ rfl dX8_bestPeer_7) (fun E h1 hp => ?_) (fun r h1 hp => ?_)
  · obtain ⟨c, hp⟩ := hp
    cases hp
    exact jx_out F hQ hex (by omega) (by omega) ⟨c, rfl, hB'⟩
  obtain ⟨c2, q, rfl, w1, w2, w3⟩ := hp
  obtain ⟨m1, m2, m3, m4, -⟩ := okPfx.n c2
  have hB1 := hB.new w1 w3
  obtain ⟨ca, cp, cb, ht⟩ := hB1.2.2.1
  have e1 := ht.1
  refine j_getN (pc := 10) F fn_X8_108 (by first | assumption | exact hUp_s) (by rfl) dX8_bestPeer_10 ?_
  refine j_rq (j_runV (pc := 13) F (c_X7_bestOf ht (hB1.2.2.2.2.2.2.1.live hB1.2.2.2.2.2.2.2) m4) m_X7_bestOf mv_X7_bestOf lk_X8_158 (by first | assumption | exact hUp_s) rfl ⟨by decide, by decide⟩ (Nat.le_of_ble_eq_true rfl) ⟨by omega, by omega⟩ rfl dX8_bestPeer_13) (fun r h2 hp => ?_)
  obtain ⟨rfl, rfl⟩ := hp
  cases hb : bst (sD s).2.2.1 (fun p => tb (sD s) (sm s) p (pqN a b)) 6 with
  | none =>
    first | refine j_astore_n (pc := 16) F dX8_bestPeer_16 (by decide) ?_ | refine j_astore_nq (pc := 16) F dX8_bestPeer_16 (by decide) ?_ | refine j_astore_nN (pc := 16) F dX8_bestPeer_16 (by decide) ?_
    first | refine j_aload_n (pc := 17) F dX8_bestPeer_17 rfl ?_ | refine j_aload_nq (pc := 17) F dX8_bestPeer_17 rfl ?_
    refine j_ifnonnullN (pc := 18) F dX8_bestPeer_18 ?_
    refine j_iconst (pc := 21) (v := (-1)) F dX8_bestPeer_21 (by decide) ?_
    refine j_goto (pc := 22) F 29 dX8_bestPeer_22 (by decide) ?_
    exact jx_iret F hQ rfl rfl (by omega) (by omega) dX8_bestPeer_29 ⟨c2, by rw [vBest, bstT, hb], hB1.is⟩
  | some u =>
    obtain ⟨p, z1, z2⟩ := bst_in hb
    obtain ⟨⟨x1, x2, x3⟩, -⟩ := hB1.rt (Nat.le_refl _) z2
    first | refine j_astore_n (pc := 16) F dX8_bestPeer_16 (by decide) ?_ | refine j_astore_nq (pc := 16) F dX8_bestPeer_16 (by decide) ?_ | refine j_astore_nN (pc := 16) F dX8_bestPeer_16 (by decide) ?_
    first | refine j_aload_n (pc := 17) F dX8_bestPeer_17 rfl ?_ | refine j_aload_nq (pc := 17) F dX8_bestPeer_17 rfl ?_
    refine j_ifnonnull (pc := 18) F 25 dX8_bestPeer_18 (by decide) ?_
    first | refine j_aload_n (pc := 25) F dX8_bestPeer_25 rfl ?_ | refine j_aload_nq (pc := 25) F dX8_bestPeer_25 rfl ?_
    refine j_getN (pc := 26) F fn_X8_162 (by first | assumption | exact hUp_s) (by rfl) dX8_bestPeer_26 ?_
    exact jx_iret F hQ rfl rfl (by omega) (by omega) dX8_bestPeer_29 ⟨c2, by rw [vBest, bstT, hb], hB1.is⟩
theorem c_X8_lookUp (hst : l.stackTraces = false) {a : Int32} (hB : isB g h x s) : XI l g A h yX8_lookUp cX8_lookUp 2 (some .int) 8 3 18 [.ref x, .int a] (fun r h1 => okAdr a = true ∧ r = vLook s (sm s) a ∧ isB g h1 x s) (fun u => okAdr a = false ∧ u.2 = IOOB ∧ isB g u.1 x s) := by
  have hB' := hB
  obtain ⟨pm, am, tr, hi, rg, rl, T, E, kc, K, hB⟩ := hB
  have e0 := hB.1
  obtain ⟨ca, cp, cb, ht⟩ := hB.2.2.1
  have e1 := ht.1
  refine jx_met (by decide +kernel) (Nat.le_of_ble_eq_true rfl) (fun X F hex hQ => ?_)
  first | refine j_aload_n (pc := 0) F dX8_lookUp_0 rfl ?_ | refine j_aload_nq (pc := 0) F dX8_lookUp_0 rfl ?_
  refine j_iload_n (pc := 1) F dX8_lookUp_1 rfl ?_
  refine jx_rv (jx_runV (pc := 2) F (c_X8_needAddress hst) m_X8_needAddress mv_X8_needAddress lk_X8_165 (by first | assumption | exact hUp_s) rfl ⟨by decide, by decide⟩ (Nat.le_of_ble_eq_true rfl) ⟨by omega, by omega⟩ rfl dX8_lookUp_2) (fun E h1 hp => ?_) (fun h1 hp => ?_)
  · obtain ⟨c, hp⟩ := hp
    cases hp
    exact jx_out F hQ hex (by omega) (by omega) ⟨c, rfl, hB'⟩
  obtain ⟨c1, rfl⟩ := hp
  obtain ⟨n1, n2⟩ := okAdr.n c1
  first | refine j_aload_n (pc := 5) F dX8_lookUp_5 rfl ?_ | refine j_aload_nq (pc := 5) F dX8_lookUp_5 rfl ?_
  refine j_get (pc := 6) F fg_X8_19 (by first | assumption | exact hUp_s) (by rfl) dX8_lookUp_6 ?_
  refine j_iload_n (pc := 9) F dX8_lookUp_9 rfl ?_
  have hc := c_X7_longestLengthFor (l := l) (A := A) ht n2
  rw [← n1] at hc
  refine j_ri (j_runV (pc := 10) F (hc) m_X7_longestLengthFor mv_X7_longestLengthFor lk_X8_168 (by first | assumption | exact hUp_s) rfl ⟨by decide, by decide⟩ (Nat.le_of_ble_eq_true rfl) ⟨by omega, by omega⟩ rfl dX8_lookUp_10) (fun r h1 hp => ?_)
  obtain ⟨rfl, rfl⟩ := hp
  exact jx_iret F hQ rfl rfl (by omega) (by omega) dX8_lookUp_13 ⟨c1, lastL_f n2 (Nat.le_refl _), hB'⟩
end BQ
