def wcode (s : SG) (p a b : Int32) : Nat := if rcode s p a b = 0 then (if 300 ≤ sm s then 4 else 0) else rcode s p a b
theorem rcode_le {s : SG} {p a b : Int32} : rcode s p a b ≤ 3 := by
  unfold rcode
  split
  · omega
  · split
    · omega
    · split
      · omega
      · omega
def dcode (s : SG) (p : Int32) : Nat := if okPeer p = true then (if 300 ≤ sm s then 2 else 0) else 1
section BV
variable {l : Launch} {g : GG} {A : Nat → Prop} {h h1 : HF} {x : Nat} {s : SG} {pm am tr hi rg rl : Nat} {T : RF} {D : UD} {C : Nat → Nat → Option Nat} {E : Nat → Nat} {kc : Nat} {K : Nat → Nat}
theorem isBm.up {m p q z : Nat} {N : Nat → Nat} (hB : isBm g h x s pm am tr hi rg rl T D C E kc K) (hk : ∀ j, j < kc → K j < m) : isBm g h x s pm am tr hi rg rl T (upD D m p q z N) C E kc K := by
  obtain ⟨e0, e1, e2, e3, e4, e5, e6⟩ := hB
  exact ⟨e0, e1, e2, e3, e4, e5, e6.up hk⟩
theorem c_X8_withdraw (hst : l.stackTraces = false) {p a b : Int32} (hB : isB g h x s) : XI l g A h yX8_withdraw cX8_withdraw 5 (some .int) 8 4 24 [.ref x, .int p, .int a, .int b] (fun r h1 => wcode s p a b = 0 ∧ r = vRoutes (sUp s (pN p) (pqN a b) 0) p ∧ isB g h1 x (sUp s (pN p) (pqN a b) 0)) (fun u => nm [IOOB, IAE, NSEE, ISE] (wcode s p a b) u.2 ∧ isB g u.1 x s) := by
  obtain ⟨pm, am, tr, hi, rg, rl, T, E, kc, K, hB⟩ := hB
  have e0 := hB.1
  refine jx_met (by decide +kernel) (Nat.le_of_ble_eq_true rfl) (fun X F hex hQ => ?_)
  first | refine j_aload_n (pc := 0) F dX8_withdraw_0 rfl ?_ | refine j_aload_nq (pc := 0) F dX8_withdraw_0 rfl ?_
  refine j_iload_n (pc := 1) F dX8_withdraw_1 rfl ?_
  refine j_iload_n (pc := 2) F dX8_withdraw_2 rfl ?_
  refine j_iload_n (pc := 3) F dX8_withdraw_3 rfl ?_
  refine jx_rq (jx_runV (pc := 4) F (c_X8_needRoute hst hB) m_X8_needRoute mv_X8_needRoute lk_X8_140 (by first | assumption | exact hUp_s) rfl ⟨by decide, by decide⟩ (Nat.le_of_ble_eq_true rfl) ⟨by omega, by omega⟩ rfl dX8_withdraw_4) (fun E h1 hp => ?_) (fun r h1 hp => ?_)
  · refine jx_out F hQ hex (by omega) (by omega) ⟨?_, (bx_sk hB hp.2).is⟩
    obtain ⟨⟨g1, g2⟩, -⟩ := hp
    have gc : rcode s p a b ≤ 3 := rcode_le
    rw [wcode, if_neg (by omega)]
    refine ⟨g1, ?_⟩
    rcases (show rcode s p a b = 1 ∨ rcode s p a b = 2 ∨ rcode s p a b = 3 by omega) with e | e | e <;> rw [e] at g2 ⊢ <;> exact g2
  obtain ⟨c0, c1, c2, ⟨u, hu, rfl⟩, hk⟩ := hp
  have hB1 := bx_sk hB hk
  obtain ⟨n1, n2⟩ := okPeer.n c1
  obtain ⟨m1, m2, m3, m4, -⟩ := okPfx.n c2
  obtain ⟨-, d, w3, w4, w5, w6⟩ := hB1.rt (Nat.le_refl _) hu
  have e0' := hB1.1
  have ke := hB1.2.2.2.2.2.2.2
  first | refine j_astore (pc := 7) F dX8_withdraw_7 (by decide) ?_ | refine j_astoreq (pc := 7) F dX8_withdraw_7 (by decide) ?_ | refine j_astoreN (pc := 7) F dX8_withdraw_7 (by decide) ?_
  first | refine j_aload_n (pc := 9) F dX8_withdraw_9 rfl ?_ | refine j_aload_nq (pc := 9) F dX8_withdraw_9 rfl ?_
  refine jx_rv (jx_runV (pc := 10) F (c_X8_needRoomForUpdate hst hB1) m_X8_needRoomForUpdate mv_X8_needRoomForUpdate lk_X8_105 (by first | assumption | exact hUp_s) rfl ⟨by decide, by decide⟩ (Nat.le_of_ble_eq_true rfl) ⟨by omega, by omega⟩ rfl dX8_withdraw_10) (fun E h1 hp => ?_) (fun h1 hp => ?_)
  · obtain ⟨c, hp⟩ := hp
    cases hp
    have ec : wcode s p a b = 4 := by rw [wcode, if_pos c0, if_pos (by omega)]
    exact jx_out F hQ hex (by omega) (by omega) ⟨⟨by rw [ec]; decide, by rw [ec]; rfl⟩, hB1.is⟩
  obtain ⟨hm, rfl⟩ := hp
  obtain ⟨j, hj, hju⟩ := (ke.ts (Nat.le_refl _) hu).2
  have hC0 : tb (sD s) (sm s) ((sD s).1 u) ((sD s).2.1 u) = some u := by rw [w5, w6]; exact hu
  first | refine j_aload_n (pc := 13) F dX8_withdraw_13 rfl ?_ | refine j_aload_nq (pc := 13) F dX8_withdraw_13 rfl ?_
  first | refine j_aload (pc := 14) F dX8_withdraw_14 rfl ?_ | refine j_aloadq (pc := 14) F dX8_withdraw_14 rfl ?_
  refine j_rv (j_runV (pc := 16) F (c_X8_endRoute hB1.m hj hju hC0 (by omega)) m_X8_endRoute mv_X8_endRoute lk_X8_117 (by first | assumption | exact hUp_s) rfl ⟨by decide, by decide⟩ (Nat.le_of_ble_eq_true rfl) ⟨by omega, by omega⟩ rfl dX8_withdraw_16) (fun h3 hM => ?_)
  have hM := hM.1
  rw [w5, w6] at hM
  have hM2 := hM.up (p := pN p) (q := pqN a b) (z := 0) (N := sN s) (fun j hj => (ke.2.1 j hj).1)
  have e3 := hM.1
  obtain ⟨ti, kk, bo, bt, nb, hh⟩ := hM.2.2.2.1
  have e4 := hh.1
  first | refine j_aload_n (pc := 19) F dX8_withdraw_19 rfl ?_ | refine j_aload_nq (pc := 19) F dX8_withdraw_19 rfl ?_
  refine j_get (pc := 20) F fg_X8_26 (by first | assumption | exact hUp_s) (by rfl) dX8_withdraw_20 ?_
  first | refine j_aload_n (pc := 23) F dX8_withdraw_23 rfl ?_ | refine j_aload_nq (pc := 23) F dX8_withdraw_23 rfl ?_
  refine j_get (pc := 24) F fg_X8_44 (by first | assumption | exact hUp_s) (by rfl) dX8_withdraw_24 ?_
  refine j_rv (j_runV (pc := 27) F (c_X1_noteUpdate hh hm) m_X1_noteUpdate mv_X1_noteUpdate lk_X8_137 (by first | assumption | exact hUp_s) rfl ⟨by decide, by decide⟩ (Nat.le_of_ble_eq_true rfl) ⟨by omega, by omega⟩ rfl dX8_withdraw_27) (fun h4 hp => ?_)
  obtain ⟨hp1, hp2⟩ := hp
  have hB4 : isBx g h4 x (sUp s (pN p) (pqN a b) 0) pm am tr hi rg rl T (fun v => if v = u then sm s else E v) kc K := by
    refine bu_note hM2 (fun a2 b2 ha hb => ?_) (ke.up hm (by omega) (fun v hv hav => ?_)) hh nb hp1 hp2
    · rw [tb_new]
      unfold cUp
      by_cases c : a2 = pN p ∧ b2 = pqN a b
      · rw [if_pos c, if_pos ⟨c.1, Or.inr c.2.symm⟩, if_neg (by omega)]
      · rw [if_neg c, if_neg (fun z => c ⟨z.1, by omega⟩)]
    · show (if v = u then sm s else E v) = _
      by_cases c : v = u
      · rw [if_pos c, if_pos]
        rw [c]
        exact ⟨hC0, w5, Or.inr w6.symm⟩
      · rw [if_neg c, if_neg]
        rintro ⟨z1, z2, z3⟩
        apply c
        rw [z2, show (sD s).2.1 v = pqN a b by omega, hu] at z1
        exact (Option.some.inj z1).symm
  obtain ⟨ca, cp, cb, ht⟩ := hB4.2.2.1
  have e5 := ht.1
  have e6 := hB4.1
  first | refine j_aload_n (pc := 30) F dX8_withdraw_30 rfl ?_ | refine j_aload_nq (pc := 30) F dX8_withdraw_30 rfl ?_
  refine j_get (pc := 31) F fg_X8_19 (by first | assumption | exact hUp_s) (by rfl) dX8_withdraw_31 ?_
  refine j_iload_n (pc := 34) F dX8_withdraw_34 rfl ?_
  have hc := c_X7_countOfPeer (l := l) (A := A) ht n2
  rw [← n1] at hc
  refine j_ri (j_runV (pc := 35) F (hc) m_X7_countOfPeer mv_X7_countOfPeer lk_X8_144 (by first | assumption | exact hUp_s) rfl ⟨by decide, by decide⟩ (Nat.le_of_ble_eq_true rfl) ⟨by omega, by omega⟩ rfl dX8_withdraw_35) (fun r h5 hp => ?_)
  obtain ⟨rfl, rfl⟩ := hp
  exact jx_iret F hQ rfl rfl (by omega) (by omega) dX8_withdraw_38 ⟨by rw [wcode, if_pos c0, if_neg (by omega)], rfl, hB4.is⟩
theorem c_X8_drop (hst : l.stackTraces = false) {p : Int32} (hB : isB g h x s) : XI l g A h yX8_drop cX8_drop 5 (some .int) 8 4 24 [.ref x, .int p] (fun r h1 => dcode s p = 0 ∧ r = vRoutes s p ∧ isB g h1 x (sUp s (pN p) 0 0)) (fun u => nm [IOOB, ISE] (dcode s p) u.2 ∧ isB g u.1 x s) := by
  obtain ⟨pm, am, tr, hi, rg, rl, T, E, kc, K, hB⟩ := hB
  have e0 := hB.1
  have ke := hB.2.2.2.2.2.2.2
  refine jx_met (by decide +kernel) (Nat.le_of_ble_eq_true rfl) (fun X F hex hQ => ?_)
  first | refine j_aload_n (pc := 0) F dX8_drop_0 rfl ?_ | refine j_aload_nq (pc := 0) F dX8_drop_0 rfl ?_
  refine j_iload_n (pc := 1) F dX8_drop_1 rfl ?_
  refine jx_rv (jx_runV (pc := 2) F (c_X8_needPeer hst) m_X8_needPeer mv_X8_needPeer lk_X8_89 (by first | assumption | exact hUp_s) rfl ⟨by decide, by decide⟩ (Nat.le_of_ble_eq_true rfl) ⟨by omega, by omega⟩ rfl dX8_drop_2) (fun E h1 hp => ?_) (fun h1 hp => ?_)
  · obtain ⟨c, hp⟩ := hp
    cases hp
    have ec : dcode s p = 1 := by rw [dcode, if_neg (by rw [c]; simp)]
    exact jx_out F hQ hex (by omega) (by omega) ⟨⟨by rw [ec]; decide, by rw [ec]; rfl⟩, hB.is⟩
  obtain ⟨c1, rfl⟩ := hp
  obtain ⟨n1, n2⟩ := okPeer.n c1
  first | refine j_aload_n (pc := 5) F dX8_drop_5 rfl ?_ | refine j_aload_nq (pc := 5) F dX8_drop_5 rfl ?_
  refine jx_rv (jx_runV (pc := 6) F (c_X8_needRoomForUpdate hst hB) m_X8_needRoomForUpdate mv_X8_needRoomForUpdate lk_X8_105 (by first | assumption | exact hUp_s) rfl ⟨by decide, by decide⟩ (Nat.le_of_ble_eq_true rfl) ⟨by omega, by omega⟩ rfl dX8_drop_6) (fun E h1 hp => ?_) (fun h1 hp => ?_)
  · obtain ⟨c, hp⟩ := hp
    cases hp
    have ec : dcode s p = 2 := by rw [dcode, if_pos c1, if_pos (by omega)]
    exact jx_out F hQ hex (by omega) (by omega) ⟨⟨by rw [ec]; decide, by rw [ec]; rfl⟩, hB.is⟩
  obtain ⟨hm, rfl⟩ := hp
  obtain ⟨ca, cp, cb, ht⟩ := hB.2.2.1
  have e5 := ht.1
  first | refine j_aload_n (pc := 9) F dX8_drop_9 rfl ?_ | refine j_aload_nq (pc := 9) F dX8_drop_9 rfl ?_
  refine j_get (pc := 10) F fg_X8_19 (by first | assumption | exact hUp_s) (by rfl) dX8_drop_10 ?_
  refine j_iload_n (pc := 13) F dX8_drop_13 rfl ?_
  have hc := c_X7_countOfPeer (l := l) (A := A) ht n2
  rw [← n1] at hc
  refine j_ri (j_runV (pc := 14) F (hc) m_X7_countOfPeer mv_X7_countOfPeer lk_X8_144 (by first | assumption | exact hUp_s) rfl ⟨by decide, by decide⟩ (Nat.le_of_ble_eq_true rfl) ⟨by omega, by omega⟩ rfl dX8_drop_14) (fun r h5 hp => ?_)
  obtain ⟨rfl, rfl⟩ := hp
  refine j_istore_n (pc := 17) F dX8_drop_17 (by decide) ?_
  refine j_iconst (pc := 18) (v := (nI 1)) F dX8_drop_18 (by decide) ?_
  refine j_istore_n (pc := 19) F dX8_drop_19 (by decide) ?_
  have loop : ∀ n k (h2 : HF) (lv : List (Nat × Value)) (C2 : Nat → Nat → Option Nat) (E2 : Nat → Nat), 512 < k + n → 1 ≤ k → k ≤ 512 → isBm g h2 x s pm am tr hi rg rl T (sD s) C2 E2 kc K → (∀ a b, C2 a b = if a = pN p ∧ b < k then none else tb (sD s) (sm s) a b) → (∀ v, E2 v = if (sD s).1 v = pN p ∧ (sD s).2.1 v < k ∧ tb (sD s) (sm s) ((sD s).1 v) ((sD s).2.1 v) = some v then sm s else E v) → lall lv [(0, .ref x), (1, .int p), (2, .int (vRoutes s p)), (3, .int (nI k))] → J l X g A 5 (0 + 1 + 1 + 0) (0 + 6 + 6 + 0) h2 20 lv [] := by
    intro n
    induction n with
    | zero => intro k h2 lv C2 E2 q1 q2 q3; omega
    | succ n ih =>
      intro k h2 lv C2 E2 q1 q2 q3 q4 q5 q6 q7
      have f0 := q4.1
      refine j_lv _ q7 ?_
      refine j_iload_n (pc := 20) F dX8_drop_20 rfl ?_
      refine j_sipush (pc := 21) (v := (nI 512)) F dX8_drop_21 (by decide) ?_
      first | refine j_icmp_geN (pc := 24) F 55 dX8_drop_24 (by decide) (by omega) (by omega) (fun c => ?_) (fun c => ?_) | refine j_icmp_geIN (pc := 24) F 55 dX8_drop_24 (by decide) (by omega) (fun c => ?_) (fun c => ?_) | refine j_icmp_geNI (pc := 24) F 55 dX8_drop_24 (by decide) (by omega) (fun c => ?_) (fun c => ?_) | refine j_icmp_geI (pc := 24) F 55 dX8_drop_24 (by decide) (fun c => ?_) (fun c => ?_)
      · have hk : k = 512 := by omega
        subst hk
        have hM2 := q4.up (p := pN p) (q := 0) (z := 0) (N := sN s) (fun j hj => (ke.2.1 j hj).1)
        obtain ⟨ti, kk, bo, bt, nb, hh⟩ := q4.2.2.2.1
        have e4 := hh.1
        first | refine j_aload_n (pc := 55) F dX8_drop_55 rfl ?_ | refine j_aload_nq (pc := 55) F dX8_drop_55 rfl ?_
        refine j_get (pc := 56) F fg_X8_26 (by first | assumption | exact hUp_s) (by rfl) dX8_drop_56 ?_
        first | refine j_aload_n (pc := 59) F dX8_drop_59 rfl ?_ | refine j_aload_nq (pc := 59) F dX8_drop_59 rfl ?_
        refine j_get (pc := 60) F fg_X8_44 (by first | assumption | exact hUp_s) (by rfl) dX8_drop_60 ?_
        refine j_rv (j_runV (pc := 63) F (c_X1_noteUpdate hh hm) m_X1_noteUpdate mv_X1_noteUpdate lk_X8_137 (by first | assumption | exact hUp_s) rfl ⟨by decide, by decide⟩ (Nat.le_of_ble_eq_true rfl) ⟨by omega, by omega⟩ rfl dX8_drop_63) (fun h4 hp => ?_)
        obtain ⟨hp1, hp2⟩ := hp
        have hB4 : isBx g h4 x (sUp s (pN p) 0 0) pm am tr hi rg rl T E2 kc K := by
          refine bu_note hM2 (fun a2 b2 ha hb => ?_) (ke.up hm (by omega) (fun v hv hav => ?_)) hh nb hp1 hp2
          · rw [tb_new, q5]
            by_cases c : a2 = pN p
            · rw [if_pos ⟨c, hb⟩, if_pos ⟨c, Or.inl rfl⟩, if_neg (by omega)]
            · rw [if_neg (fun z => c z.1), if_neg (fun z => c z.1)]
          · rw [q6]
            by_cases c : tb (sD s) (sm s) ((sD s).1 v) ((sD s).2.1 v) = some v ∧ (sD s).1 v = pN p ∧ (0 = 0 ∨ 0 = (sD s).2.1 v)
            · obtain ⟨j, hj, hju⟩ := (ke.ts (Nat.le_refl _) c.1).2
              have q9 := (hB.dk j hj).2
              rw [hju] at q9
              rw [if_pos c, if_pos ⟨c.2.1, q9, c.1⟩]
            · rw [if_neg c, if_neg (fun z => c ⟨z.2.2, z.1, Or.inl rfl⟩)]
        refine j_iload_n (pc := 66) F dX8_drop_66 rfl ?_
        exact jx_iret F hQ rfl rfl (by omega) (by omega) dX8_drop_67 ⟨by rw [dcode, if_pos c1, if_neg (by omega)], rfl, hB4.is⟩
      · obtain ⟨ca2, cp2, cb2, ht2⟩ := q4.2.2.1
        have e6 := ht2.1
        first | refine j_aload_n (pc := 27) F dX8_drop_27 rfl ?_ | refine j_aload_nq (pc := 27) F dX8_drop_27 rfl ?_
        refine j_get (pc := 28) F fg_X8_19 (by first | assumption | exact hUp_s) (by rfl) dX8_drop_28 ?_
        refine j_iload_n (pc := 31) F dX8_drop_31 rfl ?_
        refine j_iload_n (pc := 32) F dX8_drop_32 rfl ?_
        have hc := c_X7_routeOf (l := l) (A := A) ht2 n2 (show 1 ≤ k ∧ k < 512 by omega)
        rw [← n1] at hc
        refine j_rq (j_runV (pc := 33) F (hc) m_X7_routeOf mv_X7_routeOf lk_X8_113 (by first | assumption | exact hUp_s) rfl ⟨by decide, by decide⟩ (Nat.le_of_ble_eq_true rfl) ⟨by omega, by omega⟩ rfl dX8_drop_33) (fun r h6 hp => ?_)
        obtain ⟨rfl, rfl⟩ := hp
        have hkk : C2 (pN p) k = tb (sD s) (sm s) (pN p) k := by rw [q5, if_neg (by omega)]
        cases hr : C2 (pN p) k with
        | none =>
          first | refine j_astore (pc := 36) F dX8_drop_36 (by decide) ?_ | refine j_astoreq (pc := 36) F dX8_drop_36 (by decide) ?_ | refine j_astoreN (pc := 36) F dX8_drop_36 (by decide) ?_
          first | refine j_aload (pc := 38) F dX8_drop_38 rfl ?_ | refine j_aloadq (pc := 38) F dX8_drop_38 rfl ?_
          refine j_ifnullN (pc := 40) F 49 dX8_drop_40 (by decide) ?_
          first | refine j_iincN (pc := 49) F dX8_drop_49 rfl (by decide) ?_ | refine j_iincM (pc := 49) F dX8_drop_49 rfl (by decide) ?_ | refine j_iinc (pc := 49) F dX8_drop_49 rfl rfl (by decide) ?_
          refine j_goto (pc := 52) F 20 dX8_drop_52 (by decide) ?_
          refine ih (k + 1) h6 _ C2 E2 (by omega) (by omega) (by omega) q4 (fun a2 b2 => ?_) (fun v => ?_) ⟨rfl, rfl, rfl, rfl, trivial⟩
          · by_cases c : a2 = pN p ∧ b2 = k
            · rw [c.1, c.2, hr, if_pos ⟨rfl, by omega⟩]
            · rw [q5]
              by_cases c2 : a2 = pN p ∧ b2 < k
              · rw [if_pos c2, if_pos ⟨c2.1, by omega⟩]
              · rw [if_neg c2, if_neg (by omega)]
          · rw [q6]
            by_cases c : (sD s).1 v = pN p ∧ (sD s).2.1 v < k ∧ tb (sD s) (sm s) ((sD s).1 v) ((sD s).2.1 v) = some v
            · rw [if_pos c, if_pos ⟨c.1, by omega, c.2.2⟩]
            · rw [if_neg c, if_neg]
              rintro ⟨z1, z2, z3⟩
              have : (sD s).2.1 v = k := by
                rcases Nat.lt_or_ge ((sD s).2.1 v) k with w | w
                · exact absurd ⟨z1, w, z3⟩ c
                · omega
              rw [z1, this, ← hkk, hr] at z3
              cases z3
        | some u =>
          have hu : tb (sD s) (sm s) (pN p) k = some u := hkk.symm.trans hr
          obtain ⟨-, t2, t3, -⟩ := tb_lt hu
          obtain ⟨j, hj, hju⟩ := (ke.ts (Nat.le_refl _) hu).2
          first | refine j_astore (pc := 36) F dX8_drop_36 (by decide) ?_ | refine j_astoreq (pc := 36) F dX8_drop_36 (by decide) ?_ | refine j_astoreN (pc := 36) F dX8_drop_36 (by decide) ?_
          first | refine j_aload (pc := 38) F dX8_drop_38 rfl ?_ | refine j_aloadq (pc := 38) F dX8_drop_38 rfl ?_
          refine j_ifnull (pc := 40) F dX8_drop_40 ?_
          first | refine j_aload_n (pc := 43) F dX8_drop_43 rfl ?_ | refine j_aload_nq (pc := 43) F dX8_drop_43 rfl ?_
          first | refine j_aload (pc := 44) F dX8_drop_44 rfl ?_ | refine j_aloadq (pc := 44) F dX8_drop_44 rfl ?_
          refine j_rv (j_runV (pc := 46) F (c_X8_endRoute q4 hj hju (by rw [t2, t3]; exact hr) (by omega)) m_X8_endRoute mv_X8_endRoute lk_X8_117 (by first | assumption | exact hUp_s) rfl ⟨by decide, by decide⟩ (Nat.le_of_ble_eq_true rfl) ⟨by omega, by omega⟩ rfl dX8_drop_46) (fun h7 hM => ?_)
          have hM := hM.1
          rw [t2, t3] at hM
          first | refine j_iincN (pc := 49) F dX8_drop_49 rfl (by decide) ?_ | refine j_iincM (pc := 49) F dX8_drop_49 rfl (by decide) ?_ | refine j_iinc (pc := 49) F dX8_drop_49 rfl rfl (by decide) ?_
          refine j_goto (pc := 52) F 20 dX8_drop_52 (by decide) ?_
          refine ih (k + 1) h7 _ _ _ (by omega) (by omega) (by omega) hM (fun a2 b2 => ?_) (fun v => ?_) ⟨rfl, rfl, rfl, rfl, trivial⟩
          · unfold cUp
            by_cases c : a2 = pN p ∧ b2 = k
            · rw [if_pos c, if_pos ⟨c.1, by omega⟩]
            · rw [if_neg c, q5]
              by_cases c2 : a2 = pN p ∧ b2 < k
              · rw [if_pos c2, if_pos ⟨c2.1, by omega⟩]
              · rw [if_neg c2, if_neg (by omega)]
          · show (if v = u then sm s else E2 v) = _
            by_cases cu : v = u
            · rw [if_pos cu, if_pos]
              rw [cu]
              exact ⟨t2, by omega, by rw [t2, t3]; exact hu⟩
            · rw [if_neg cu, q6]
              by_cases c : (sD s).1 v = pN p ∧ (sD s).2.1 v < k ∧ tb (sD s) (sm s) ((sD s).1 v) ((sD s).2.1 v) = some v
              · rw [if_pos c, if_pos ⟨c.1, by omega, c.2.2⟩]
              · rw [if_neg c, if_neg]
                rintro ⟨z1, z2, z3⟩
                have : (sD s).2.1 v = k := by
                  rcases Nat.lt_or_ge ((sD s).2.1 v) k with w | w
                  · exact absurd ⟨z1, w, z3⟩ c
                  · omega
                rw [z1, this, hu] at z3
                exact cu (Option.some.inj z3).symm
  refine loop 512 1 h5 _ _ _ (by omega) (by omega) (by omega) hB.m (fun a2 b2 => ?_) (fun v => ?_) ⟨rfl, rfl, rfl, rfl, trivial⟩
  · by_cases c : a2 = pN p ∧ b2 < 1
    · rw [if_pos c, show b2 = 0 by omega]; exact tb_0
    · rw [if_neg c]
  · rw [if_neg]
    rintro ⟨z1, z2, z3⟩
    have := (tb_lt z3).2.2.2.1
    omega
end BV
