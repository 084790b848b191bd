section BR
variable {l : Launch} {g : GG} {A : Nat → Prop} {h : HF} {x : Nat} {s : SG} {pm am tr hi rg rl : Nat} {T : RF} {E : Nat → Nat} {kc : Nat} {K : Nat → Nat}
def lenR (D : UD) : Option Nat → Int32
  | none => -1
  | some u => nI (Nat.log2 (D.2.1 u))
def rcode (s : SG) (p a b : Int32) : Nat := if okPeer p = false then 1 else if okPfx a b = false then 2 else if tb (sD s) (sm s) (pN p) (pqN a b) = none then 3 else 0
theorem c_X8_needRoute (hst : l.stackTraces = false) {p a b : Int32} (hB : isBx g h x s pm am tr hi rg rl T E kc K) : XQ l g A h yX8_needRoute cX8_needRoute 5 (some (.object "Bgpreplay$Route")) 7 3 18 [.ref x, .int p, .int a, .int b] (fun r h1 => rcode s p a b = 0 ∧ okPeer p = true ∧ okPfx a b = true ∧ (∃ u, tb (sD s) (sm s) (pN p) (pqN a b) = some u ∧ r = some (T.1 u)) ∧ fk [] h h1) (fun u => nm [IOOB, IAE, NSEE] (rcode s p a b) u.2 ∧ fk [] h u.1) := by
  have e0 := hB.1
  refine jx_met (by decide +kernel) (Nat.le_of_ble_eq_true rfl) (fun X F hex hQ => ?_)
  first | refine j_aload_n (pc := 0) F dX8_needRoute_0 rfl ?_ | refine j_aload_nq (pc := 0) F dX8_needRoute_0 rfl ?_
  refine j_iload_n (pc := 1) F dX8_needRoute_1 rfl ?_
  refine jx_rv (jx_runV (pc := 2) F (c_X8_needPeer hst) m_X8_needPeer mv_X8_needPeer lk_X8_89 (by first | assumption | exact hUp_s) rfl ⟨by decide, by decide⟩ (Nat.le_of_ble_eq_true rfl) ⟨by omega, by omega⟩ rfl dX8_needRoute_2) (fun E h1 hp => ?_) (fun h1 hp => ?_)
  · refine jx_out F hQ hex (by omega) (by omega) ?_
    obtain ⟨c, hp⟩ := hp
    cases hp
    exact ⟨⟨by rw [rcode, if_pos c]; decide, by rw [rcode, if_pos c]; rfl⟩, fk.refl⟩
  obtain ⟨c1, rfl⟩ := hp
  obtain ⟨n1, n2⟩ := okPeer.n c1
  have r1 : ¬ okPeer p = false := by rw [c1]; simp
  first | refine j_aload_n (pc := 5) F dX8_needRoute_5 rfl ?_ | refine j_aload_nq (pc := 5) F dX8_needRoute_5 rfl ?_
  refine j_get (pc := 6) F fg_X8_19 (by first | assumption | exact hUp_s) (by rfl) dX8_needRoute_6 ?_
  refine j_iload_n (pc := 9) F dX8_needRoute_9 rfl ?_
  first | refine j_aload_n (pc := 10) F dX8_needRoute_10 rfl ?_ | refine j_aload_nq (pc := 10) F dX8_needRoute_10 rfl ?_
  refine j_iload_n (pc := 11) F dX8_needRoute_11 rfl ?_
  refine j_iload_n (pc := 12) F dX8_needRoute_12 rfl ?_
  refine jx_rq (jx_runV (pc := 13) F (c_X8_needPrefix hst) m_X8_needPrefix mv_X8_needPrefix lk_X8_92 (by first | assumption | exact hUp_s) rfl ⟨by decide, by decide⟩ (Nat.le_of_ble_eq_true rfl) ⟨by omega, by omega⟩ rfl dX8_needRoute_13) (fun E h1 hp => ?_) (fun r h1 hp => ?_)
  · refine jx_out F hQ hex (by omega) (by omega) ?_
    obtain ⟨c, hp⟩ := hp
    cases hp
    exact ⟨⟨by rw [rcode, if_neg r1, if_pos c]; decide, by rw [rcode, if_neg r1, if_pos c]; rfl⟩, fk.refl⟩
  obtain ⟨c2, q, rfl, w1, w2, w3⟩ := hp
  have r2 : ¬ okPfx a b = false := by rw [c2]; simp
  obtain ⟨m1, m2, m3, m4, -⟩ := okPfx.n c2
  have hk := fk.new w1 w3
  obtain ⟨ca, cp, cb, ht⟩ := hB.2.2.1.fk hk ⟨List.not_mem_nil, List.not_mem_nil, List.not_mem_nil, List.not_mem_nil⟩
  have e1 := ht.1
  refine j_getN (pc := 16) F fn_X8_108 (by first | assumption | exact hUp_s) (by rfl) dX8_needRoute_16 ?_
  have hc := c_X7_routeOf (l := l) (A := A) ht n2 m4
  rw [← n1] at hc
  refine j_rq (j_runV (pc := 19) F (hc) m_X7_routeOf mv_X7_routeOf lk_X8_113 (by first | assumption | exact hUp_s) rfl ⟨by decide, by decide⟩ (Nat.le_of_ble_eq_true rfl) ⟨by omega, by omega⟩ rfl dX8_needRoute_19) (fun r h2 hp => ?_)
  obtain ⟨rfl, rfl⟩ := hp
  cases ht : tb (sD s) (sm s) (pN p) (pqN a b) with
  | none =>
    first | refine j_astore (pc := 22) F dX8_needRoute_22 (by decide) ?_ | refine j_astoreq (pc := 22) F dX8_needRoute_22 (by decide) ?_ | refine j_astoreN (pc := 22) F dX8_needRoute_22 (by decide) ?_
    first | refine j_aload (pc := 24) F dX8_needRoute_24 rfl ?_ | refine j_aloadq (pc := 24) F dX8_needRoute_24 rfl ?_
    refine j_ifnonnullN (pc := 26) F dX8_needRoute_26 ?_
    exact j_throwX (pc := 29) F hst hQ hex es_262 (by decide) (Nat.le_of_ble_eq_true rfl) ⟨by omega, by omega⟩ dX8_needRoute_29 dX8_needRoute_32 dX8_needRoute_33 dX8_needRoute_36 dX8_needRoute_39 (⟨⟨by rw [rcode, if_neg r1, if_neg r2, if_pos ht]; decide, by rw [rcode, if_neg r1, if_neg r2, if_pos ht]; rfl⟩, hk⟩)
  | some u =>
    first | refine j_astore (pc := 22) F dX8_needRoute_22 (by decide) ?_ | refine j_astoreq (pc := 22) F dX8_needRoute_22 (by decide) ?_ | refine j_astoreN (pc := 22) F dX8_needRoute_22 (by decide) ?_
    first | refine j_aload (pc := 24) F dX8_needRoute_24 rfl ?_ | refine j_aloadq (pc := 24) F dX8_needRoute_24 rfl ?_
    refine j_ifnonnull (pc := 26) F 40 dX8_needRoute_26 (by decide) ?_
    first | refine j_aload (pc := 40) F dX8_needRoute_40 rfl ?_ | refine j_aloadq (pc := 40) F dX8_needRoute_40 rfl ?_
    exact jx_aret F hQ rfl (by omega) (by omega) dX8_needRoute_42 (r := some (T.1 u)) ⟨by rw [rcode, if_neg r1, if_neg r2, if_neg (by rw [ht]; simp)], c1, c2, ⟨u, ht, rfl⟩, hk⟩
theorem c_X8_needRoomForUpdate (hst : l.stackTraces = false) (hB : isBx g h x s pm am tr hi rg rl T E kc K) : XV l g A h yX8_needRoomForUpdate cX8_needRoomForUpdate 1 6 1 6 [.ref x] (fun h1 => sm s < 300 ∧ h1 = h) (fun u => ¬ sm s < 300 ∧ u = (h, ISE)) := by
  have e0 := hB.1
  obtain ⟨ti, ke, bo, bt, -, hh⟩ := hB.2.2.2.1
  have e1 := hh.1
  refine jx_met (by decide +kernel) (Nat.le_of_ble_eq_true rfl) (fun X F hex hQ => ?_)
  first | refine j_aload_n (pc := 0) F dX8_needRoomForUpdate_0 rfl ?_ | refine j_aload_nq (pc := 0) F dX8_needRoomForUpdate_0 rfl ?_
  refine j_get (pc := 1) F fg_X8_26 (by first | assumption | exact hUp_s) (by rfl) dX8_needRoomForUpdate_1 ?_
  refine j_ri (j_runV (pc := 4) F (c_X1_isFull hh) m_X1_isFull mv_X1_isFull lk_X8_265 (by first | assumption | exact hUp_s) rfl ⟨by decide, by decide⟩ (Nat.le_of_ble_eq_true rfl) ⟨by omega, by omega⟩ rfl dX8_needRoomForUpdate_4) (fun r h1 hp => ?_)
  obtain ⟨rfl, rfl⟩ := hp
  first | refine j_if_eqB (pc := 7) F 21 dX8_needRoomForUpdate_7 (by decide) (fun c => ?_) (fun c => ?_) | refine j_if_eqN (pc := 7) F 21 dX8_needRoomForUpdate_7 (by decide) (by omega) (fun c => ?_) (fun c => ?_) | refine j_if_eqI (pc := 7) F 21 dX8_needRoomForUpdate_7 (by decide) (fun c => ?_) (fun c => ?_)
  · exact jx_vret F hQ rfl (by omega) (by omega) dX8_needRoomForUpdate_21 ⟨by have := of_decide_eq_false c; omega, rfl⟩
  · exact j_throwSW (pc := 10) F hst hQ hex tw_60 es_266 lc_X8_56 xi_IllegalStateException (by decide) (Nat.le_of_ble_eq_true rfl) ⟨by omega, by omega⟩ dX8_needRoomForUpdate_10 dX8_needRoomForUpdate_13 dX8_needRoomForUpdate_14 dX8_needRoomForUpdate_17 dX8_needRoomForUpdate_20 (⟨by have := of_decide_eq_true c; omega, rfl⟩)
theorem c_X8_lengthOf {o : Option Nat} {D : UD} (ho : ∀ u, o = some u → isRt g h T D E u) : MI l g A h yX8_lengthOf cX8_lengthOf 1 (some .int) 0 0 0 [va_rf (o.map T.1)] (fun r h1 => r = lenR D o ∧ h1 = h) := by
  cases o with
  | none =>
    refine j_met (by decide +kernel) (Nat.le_of_ble_eq_true rfl) (fun X F hn hQ => ?_)
    first | refine j_aload_n (pc := 0) F dX8_lengthOf_0 rfl ?_ | refine j_aload_nq (pc := 0) F dX8_lengthOf_0 rfl ?_
    refine j_ifnonnullN (pc := 1) F dX8_lengthOf_1 ?_
    refine j_iconst (pc := 4) (v := (-1)) F dX8_lengthOf_4 (by decide) ?_
    refine j_goto (pc := 5) F 15 dX8_lengthOf_5 (by decide) ?_
    exact j_iret F hQ rfl rfl (by omega) (by omega) dX8_lengthOf_15 ⟨rfl, rfl⟩
  | some u =>
    obtain ⟨x1, x2, x3⟩ := ho u rfl
    have x2' : h (T.2.1 u) = some (.inr (3, [.int (nI (D.2.1 u)), .int (nI (Nat.log2 (D.2.1 u)))])) := x2
    refine j_met (by decide +kernel) (Nat.le_of_ble_eq_true rfl) (fun X F hn hQ => ?_)
    first | refine j_aload_n (pc := 0) F dX8_lengthOf_0 rfl ?_ | refine j_aload_nq (pc := 0) F dX8_lengthOf_0 rfl ?_
    refine j_ifnonnull (pc := 1) F 8 dX8_lengthOf_1 (by decide) ?_
    first | refine j_aload_n (pc := 8) F dX8_lengthOf_8 rfl ?_ | refine j_aload_nq (pc := 8) F dX8_lengthOf_8 rfl ?_
    refine j_getN (pc := 9) F fn_X8_181 (by first | assumption | exact hUp_s) (by rfl) dX8_lengthOf_9 ?_
    refine j_getN (pc := 12) F fn_X8_274 (by first | assumption | exact hUp_s) (by rfl) dX8_lengthOf_12 ?_
    exact j_iret F hQ rfl rfl (by omega) (by omega) dX8_lengthOf_15 ⟨rfl, rfl⟩
end BR
