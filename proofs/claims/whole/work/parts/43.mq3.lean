def p1code (p : Int32) : Nat := if okPeer p = true then 0 else 1
def a1code (a : Int32) : Nat := if okAdr a = true then 0 else 1
section MQ3
variable {l : Launch} {g : GG} {A : Nat → Prop} {h h1 : HF} {y : Nat} {s s' : SG} {th th' : Nat} {a : Nat → Nat} {CC CC' : CT}
theorem inAdr {v : Int32} : decide ((nI 0).toInt ≤ v.toInt ∧ v.toInt ≤ (nI 255).toInt) = okAdr v := by
  rw [inN (by decide) (by decide), okAdr]
  exact decide_eq_decide.mpr (by omega)
theorem bstT_lt {D : UD} {n q u : Nat} (h : bstT D n q = some u) : u < n ∧ annc D u ∧ D.2.1 u = q := by
  obtain ⟨p, -, h2⟩ := bst_in h
  obtain ⟨h3, -, h4, h5⟩ := tb_lt h2
  exact ⟨h3, h5, h4⟩
theorem c_X9_routes {p : Int32} (w : wf s) (hM : isM g h y s th) : MI l g A h yX9_routes cX9_routes 2 (some .int) 2 0 0 [.ref y, .int p] (fun r h1 => isM g h1 y s (p1code p) ∧ (p1code p = 0 → r = vRoutes s p)) := by
  obtain ⟨a, CC, z, hC⟩ := hM
  have e0 := z.cl
  refine j_met (by decide +kernel) (Nat.le_of_ble_eq_true rfl) (fun X F hn hQ => ?_)
  first | refine j_aload_n (pc := 0) F dX9_routes_0 rfl ?_ | refine j_aload_nq (pc := 0) F dX9_routes_0 rfl ?_
  refine j_iload_n (pc := 1) F dX9_routes_1 rfl ?_
  refine j_ri (j_runS (pc := 2) F (c_X9_isPeer p) m_X9_isPeer ms_X9_isPeer lk_X9_80 ⟨by decide, by decide⟩ (Nat.le_of_ble_eq_true rfl) ⟨by omega, by omega⟩ rfl dX9_routes_2) (fun r h1 hp => ?_)
  obtain ⟨rfl, rfl⟩ := hp
  first | refine j_if_eqB (pc := 5) F 12 dX9_routes_5 (by decide) (fun c1 => ?_) (fun c1 => ?_) | refine j_if_eqN (pc := 5) F 12 dX9_routes_5 (by decide) (by omega) (fun c1 => ?_) (fun c1 => ?_) | refine j_if_eqI (pc := 5) F 12 dX9_routes_5 (by decide) (fun c1 => ?_) (fun c1 => ?_)
  · have ec : p1code p = 1 := by rw [p1code, if_neg (by rw [c1]; simp)]
    refine j_iconst (pc := 12) (v := (nI 1)) F dX9_routes_12 (by decide) ?_
    refine j_put (pc := 13) F fp_X9_47 (by first | assumption | exact hUp_s) (by rfl) (by rfl) (Nat.le_of_ble_eq_true rfl) dX9_routes_13 ?_
    generalize hh2 : hUp h1 y _ = h2
    have z2 : isMx g h2 y s 1 a CC := z.tw (by rw [← hh2]; exact hUp_s) (fun b hb => by rw [← hh2]; exact hUp_n hb)
    have e2 := z2.cl
    first | refine j_aload_n (pc := 16) F dX9_routes_16 rfl ?_ | refine j_aload_nq (pc := 16) F dX9_routes_16 rfl ?_
    refine j_get (pc := 17) F fg_X9_47 (by first | assumption | exact hUp_s) (by rfl) dX9_routes_17 ?_
    first | refine j_if_neB (pc := 20) F 31 dX9_routes_20 (by decide) (fun c4 => ?_) (fun c4 => ?_) | refine j_if_neN (pc := 20) F 31 dX9_routes_20 (by decide) (by omega) (fun c4 => ?_) (fun c4 => ?_) | refine j_if_neI (pc := 20) F 31 dX9_routes_20 (by decide) (fun c4 => ?_) (fun c4 => ?_)
    · refine j_iconst (pc := 31) (v := (nI 0)) F dX9_routes_31 (by decide) ?_
      exact j_iret F hQ rfl rfl (by omega) (by omega) dX9_routes_32 ⟨by rw [ec]; exact z2.is hC, fun e => by rw [ec] at e; cases e⟩
    · omega
  · obtain ⟨n1, n2⟩ := okPeer.n c1
    have ec : p1code p = 0 := if_pos c1
    refine j_iconst (pc := 8) (v := (nI 0)) F dX9_routes_8 (by decide) ?_
    refine j_goto (pc := 9) F 13 dX9_routes_9 (by decide) ?_
    refine j_put (pc := 13) F fp_X9_47 (by first | assumption | exact hUp_s) (by rfl) (by rfl) (Nat.le_of_ble_eq_true rfl) dX9_routes_13 ?_
    generalize hh2 : hUp h1 y _ = h2
    have z2 : isMx g h2 y s 0 a CC := z.tw (by rw [← hh2]; exact hUp_s) (fun b hb => by rw [← hh2]; exact hUp_n hb)
    have e2 := z2.cl
    first | refine j_aload_n (pc := 16) F dX9_routes_16 rfl ?_ | refine j_aload_nq (pc := 16) F dX9_routes_16 rfl ?_
    refine j_get (pc := 17) F fg_X9_47 (by first | assumption | exact hUp_s) (by rfl) dX9_routes_17 ?_
    first | refine j_if_neB (pc := 20) F 31 dX9_routes_20 (by decide) (fun c4 => ?_) (fun c4 => ?_) | refine j_if_neN (pc := 20) F 31 dX9_routes_20 (by decide) (by omega) (fun c4 => ?_) (fun c4 => ?_) | refine j_if_neI (pc := 20) F 31 dX9_routes_20 (by decide) (fun c4 => ?_) (fun c4 => ?_)
    · omega
    · first | refine j_aload_n (pc := 23) F dX9_routes_23 rfl ?_ | refine j_aload_nq (pc := 23) F dX9_routes_23 rfl ?_
      refine j_iload_n (pc := 24) F dX9_routes_24 rfl ?_
      have hcr := c_X9_routesOf (l := l) (A := A) n2 w.2.2.1.1 (fun q hq => hC (pN p) q n2 hq) z2
      rw [← n1] at hcr
      refine j_ri (j_runV (pc := 25) F (hcr) m_X9_routesOf mv_X9_routesOf lk_X9_95 (by first | assumption | exact hUp_s) rfl ⟨by decide, by decide⟩ (Nat.le_of_ble_eq_true rfl) ⟨by omega, by omega⟩ rfl dX9_routes_25) (fun r h6 hp => ?_)
      obtain ⟨rfl, rfl⟩ := hp
      refine j_goto (pc := 28) F 32 dX9_routes_28 (by decide) ?_
      exact j_iret F hQ rfl rfl (by omega) (by omega) dX9_routes_32 ⟨by rw [ec]; exact z2.is hC, fun _ => rfl⟩
theorem c_X9_prefixes (w : wf s) (hM : isM g h y s th) : MI l g A h yX9_prefixes cX9_prefixes 3 (some .int) 2 0 0 [.ref y] (fun r h1 => r = vPrefixes s ∧ isM g h1 y s 0) := by
  obtain ⟨a, CC, z, hC⟩ := hM
  have e0 := z.cl
  have hm := w.2.2.1.1
  refine j_met (by decide +kernel) (Nat.le_of_ble_eq_true rfl) (fun X F hn hQ => ?_)
  first | refine j_aload_n (pc := 0) F dX9_prefixes_0 rfl ?_ | refine j_aload_nq (pc := 0) F dX9_prefixes_0 rfl ?_
  refine j_iconst (pc := 1) (v := (nI 0)) F dX9_prefixes_1 (by decide) ?_
  refine j_put (pc := 2) F fp_X9_47 (by first | assumption | exact hUp_s) (by rfl) (by rfl) (Nat.le_of_ble_eq_true rfl) dX9_prefixes_2 ?_
  generalize hh2 : hUp h y _ = h2
  have z2 : isMx g h2 y s 0 a CC := z.tw (by rw [← hh2]; exact hUp_s) (fun b hb => by rw [← hh2]; exact hUp_n hb)
  have e2 := z2.cl
  refine j_iconst (pc := 5) (v := (nI 0)) F dX9_prefixes_5 (by decide) ?_
  refine j_istore_n (pc := 6) F dX9_prefixes_6 (by decide) ?_
  refine j_iconst (pc := 7) (v := (nI 1)) F dX9_prefixes_7 (by decide) ?_
  refine j_istore_n (pc := 8) F dX9_prefixes_8 (by decide) ?_
  have loop : ∀ m i (lv : List (Nat × Value)), 511 < i + m → i ≤ 511 → lall lv [(0, .ref y), (1, .int (nI (cnt (fun j => (bstT (sD s) (sm s) (j + 1)).isSome) i))), (2, .int (nI (i + 1)))] → J l X g A 3 0 0 h2 9 lv [] := by
    intro m
    induction m with
    | zero => intro i lv q1 q2; omega
    | succ m ih =>
      intro i lv q1 q2 q3
      refine j_lv _ q3 ?_
      refine j_iload_n (pc := 9) F dX9_prefixes_9 rfl ?_
      refine j_sipush (pc := 10) (v := (nI 512)) F dX9_prefixes_10 (by decide) ?_
      first | refine j_icmp_geN (pc := 13) F 40 dX9_prefixes_13 (by decide) (by omega) (by omega) (fun c => ?_) (fun c => ?_) | refine j_icmp_geIN (pc := 13) F 40 dX9_prefixes_13 (by decide) (by omega) (fun c => ?_) (fun c => ?_) | refine j_icmp_geNI (pc := 13) F 40 dX9_prefixes_13 (by decide) (by omega) (fun c => ?_) (fun c => ?_) | refine j_icmp_geI (pc := 13) F 40 dX9_prefixes_13 (by decide) (fun c => ?_) (fun c => ?_)
      · have : i = 511 := by omega
        subst this
        refine j_iload_n (pc := 40) F dX9_prefixes_40 rfl ?_
        refine j_iret F hQ rfl rfl (by omega) (by omega) dX9_prefixes_41 ⟨congrArg nI (cnt_congr (fun j _ => ?_)), z2.is hC⟩
        have e := cntQ_bst (C := tb (sD s) (sm s)) (q := j + 1) (sD s).2.2.1
        show (bstT (sD s) (sm s) (j + 1)).isSome = decide (0 < cntQ (tb (sD s) (sm s)) (j + 1))
        have e2 : 0 < cntQ (tb (sD s) (sm s)) (j + 1) ↔ ¬ bstT (sD s) (sm s) (j + 1) = none := e
        cases hb : bstT (sD s) (sm s) (j + 1) with
        | none => rw [hb] at e2; exact (decide_eq_false (fun t => e2.mp t rfl)).symm
        | some u => rw [hb] at e2; exact (decide_eq_true (e2.mpr (by simp))).symm
      · refine j_iload_n (pc := 16) F dX9_prefixes_16 rfl ?_
        first | refine j_aload_n (pc := 17) F dX9_prefixes_17 rfl ?_ | refine j_aload_nq (pc := 17) F dX9_prefixes_17 rfl ?_
        refine j_iconst (pc := 18) (v := (nI 0)) F dX9_prefixes_18 (by decide) ?_
        refine j_iload_n (pc := 19) F dX9_prefixes_19 rfl ?_
        refine j_ri (j_runV (pc := 20) F (c_X9_best (q := i + 1) (by decide) (by omega) (Nat.le_refl _) hm w.Z (fun p hp => hC p _ hp (by omega)) z2) m_X9_best mv_X9_best lk_X9_70 (by first | assumption | exact hUp_s) rfl ⟨by decide, by decide⟩ (Nat.le_of_ble_eq_true rfl) ⟨by omega, by omega⟩ rfl dX9_prefixes_20) (fun r h3 hp => ?_)
        obtain ⟨rfl, rfl⟩ := hp
        cases hb : bstT (sD s) (sm s) (i + 1) with
        | none =>
          refine j_iconst (pc := 23) (v := (-1)) F dX9_prefixes_23 (by decide) ?_
          refine j_icmp_ne (pc := 24) F 31 dX9_prefixes_24 (by decide) (fun c2 => ?_) (fun c2 => ?_)
          · exact absurd rfl c2
          · refine j_iconst (pc := 27) (v := (nI 0)) F dX9_prefixes_27 (by decide) ?_
            refine j_goto (pc := 28) F 32 dX9_prefixes_28 (by decide) ?_
            first | refine j_iaddN (pc := 32) F dX9_prefixes_32 ?_ | refine j_iadd (pc := 32) F dX9_prefixes_32 ?_
            refine j_istore_n (pc := 33) F dX9_prefixes_33 (by decide) ?_
            first | refine j_iincN (pc := 34) F dX9_prefixes_34 rfl (by decide) ?_ | refine j_iincM (pc := 34) F dX9_prefixes_34 rfl (by decide) ?_ | refine j_iinc (pc := 34) F dX9_prefixes_34 rfl rfl (by decide) ?_
            refine j_goto (pc := 37) F 9 dX9_prefixes_37 (by decide) ?_
            refine ih (i + 1) _ (by omega) (by omega) ⟨rfl, ?_, rfl, trivial⟩
            rw [show cnt (fun j => (bstT (sD s) (sm s) (j + 1)).isSome) (i + 1) = cnt (fun j => (bstT (sD s) (sm s) (j + 1)).isSome) i + 0 by rw [cnt, if_neg (by rw [hb]; simp)]]
            rfl
        | some u =>
          have hu := (bstT_lt hb).1
          refine j_iconst (pc := 23) (v := (-1)) F dX9_prefixes_23 (by decide) ?_
          refine j_icmp_ne (pc := 24) F 31 dX9_prefixes_24 (by decide) (fun c2 => ?_) (fun c2 => ?_)
          · refine j_iconst (pc := 31) (v := (nI 1)) F dX9_prefixes_31 (by decide) ?_
            first | refine j_iaddN (pc := 32) F dX9_prefixes_32 ?_ | refine j_iadd (pc := 32) F dX9_prefixes_32 ?_
            refine j_istore_n (pc := 33) F dX9_prefixes_33 (by decide) ?_
            first | refine j_iincN (pc := 34) F dX9_prefixes_34 rfl (by decide) ?_ | refine j_iincM (pc := 34) F dX9_prefixes_34 rfl (by decide) ?_ | refine j_iinc (pc := 34) F dX9_prefixes_34 rfl rfl (by decide) ?_
            refine j_goto (pc := 37) F 9 dX9_prefixes_37 (by decide) ?_
            refine ih (i + 1) _ (by omega) (by omega) ⟨rfl, ?_, rfl, trivial⟩
            rw [show cnt (fun j => (bstT (sD s) (sm s) (j + 1)).isSome) (i + 1) = cnt (fun j => (bstT (sD s) (sm s) (j + 1)).isSome) i + 1 by rw [cnt, if_pos (by rw [hb]; rfl)]]
            rfl
          · exact absurd c2 (oI_m1 (by omega))
  exact loop 512 0 _ (by omega) (by omega) ⟨rfl, rfl, rfl, trivial⟩
theorem c_X9_bestPeer {b c : Int32} (w : wf s) (hM : isM g h y s th) : MI l g A h yX9_bestPeer cX9_bestPeer 4 (some .int) 2 0 0 [.ref y, .int b, .int c] (fun r h1 => isM g h1 y s (xcode b c) ∧ (xcode b c = 0 → r = vBest s (pqN b c))) := by
  obtain ⟨a, CC, z, hC⟩ := hM
  have e0 := z.cl
  have hm := w.2.2.1.1
  refine j_met (by decide +kernel) (Nat.le_of_ble_eq_true rfl) (fun X F hn hQ => ?_)
  first | refine j_aload_n (pc := 0) F dX9_bestPeer_0 rfl ?_ | refine j_aload_nq (pc := 0) F dX9_bestPeer_0 rfl ?_
  refine j_iload_n (pc := 1) F dX9_bestPeer_1 rfl ?_
  refine j_iload_n (pc := 2) F dX9_bestPeer_2 rfl ?_
  refine j_ri (j_runS (pc := 3) F (c_X9_isPrefix b c) m_X9_isPrefix ms_X9_isPrefix lk_X9_84 ⟨by decide, by decide⟩ (Nat.le_of_ble_eq_true rfl) ⟨by omega, by omega⟩ rfl dX9_bestPeer_3) (fun r h1 hp => ?_)
  obtain ⟨rfl, rfl⟩ := hp
  first | refine j_if_eqB (pc := 6) F 13 dX9_bestPeer_6 (by decide) (fun c1 => ?_) (fun c1 => ?_) | refine j_if_eqN (pc := 6) F 13 dX9_bestPeer_6 (by decide) (by omega) (fun c1 => ?_) (fun c1 => ?_) | refine j_if_eqI (pc := 6) F 13 dX9_bestPeer_6 (by decide) (fun c1 => ?_) (fun c1 => ?_)
  · have ec : xcode b c = 1 := by rw [xcode, if_neg (by rw [c1]; simp)]
    refine j_iconst (pc := 13) (v := (nI 1)) F dX9_bestPeer_13 (by decide) ?_
    refine j_put (pc := 14) F fp_X9_47 (by first | assumption | exact hUp_s) (by rfl) (by rfl) (Nat.le_of_ble_eq_true rfl) dX9_bestPeer_14 ?_
    generalize hh2 : hUp h1 y _ = h2
    have z2 : isMx g h2 y s 1 a CC := z.tw (by rw [← hh2]; exact hUp_s) (fun b hb => by rw [← hh2]; exact hUp_n hb)
    have e2 := z2.cl
    first | refine j_aload_n (pc := 17) F dX9_bestPeer_17 rfl ?_ | refine j_aload_nq (pc := 17) F dX9_bestPeer_17 rfl ?_
    refine j_get (pc := 18) F fg_X9_47 (by first | assumption | exact hUp_s) (by rfl) dX9_bestPeer_18 ?_
    first | refine j_if_leN (pc := 21) F 26 dX9_bestPeer_21 (by decide) (by omega) (fun c4 => ?_) (fun c4 => ?_) | refine j_if_leI (pc := 21) F 26 dX9_bestPeer_21 (by decide) (fun c4 => ?_) (fun c4 => ?_)
    · omega
    · refine j_iconst (pc := 24) (v := (nI 0)) F dX9_bestPeer_24 (by decide) ?_
      exact j_iret F hQ rfl rfl (by omega) (by omega) dX9_bestPeer_25 ⟨by rw [ec]; exact z2.is hC, fun e => by rw [ec] at e; cases e⟩
  · obtain ⟨m1, m2, m3, m4, -⟩ := okPfx.n c1
    have ec : xcode b c = 0 := if_pos c1
    refine j_iconst (pc := 9) (v := (nI 0)) F dX9_bestPeer_9 (by decide) ?_
    refine j_goto (pc := 10) F 14 dX9_bestPeer_10 (by decide) ?_
    refine j_put (pc := 14) F fp_X9_47 (by first | assumption | exact hUp_s) (by rfl) (by rfl) (Nat.le_of_ble_eq_true rfl) dX9_bestPeer_14 ?_
    generalize hh2 : hUp h1 y _ = h2
    have z2 : isMx g h2 y s 0 a CC := z.tw (by rw [← hh2]; exact hUp_s) (fun b hb => by rw [← hh2]; exact hUp_n hb)
    have e2 := z2.cl
    obtain ⟨f5, q5, p5⟩ := z2.a5
    first | refine j_aload_n (pc := 17) F dX9_bestPeer_17 rfl ?_ | refine j_aload_nq (pc := 17) F dX9_bestPeer_17 rfl ?_
    refine j_get (pc := 18) F fg_X9_47 (by first | assumption | exact hUp_s) (by rfl) dX9_bestPeer_18 ?_
    first | refine j_if_leN (pc := 21) F 26 dX9_bestPeer_21 (by decide) (by omega) (fun c4 => ?_) (fun c4 => ?_) | refine j_if_leI (pc := 21) F 26 dX9_bestPeer_21 (by decide) (fun c4 => ?_) (fun c4 => ?_)
    · first | refine j_aload_n (pc := 26) F dX9_bestPeer_26 rfl ?_ | refine j_aload_nq (pc := 26) F dX9_bestPeer_26 rfl ?_
      refine j_iconst (pc := 27) (v := (nI 0)) F dX9_bestPeer_27 (by decide) ?_
      refine j_iload_n (pc := 28) F dX9_bestPeer_28 rfl ?_
      refine j_iload_n (pc := 29) F dX9_bestPeer_29 rfl ?_
      refine j_ri (j_runS (pc := 30) F (c_X9_prefixOfX c1) m_X9_prefixOf ms_X9_prefixOf lk_X9_66 ⟨by decide, by decide⟩ (Nat.le_of_ble_eq_true rfl) ⟨by omega, by omega⟩ rfl dX9_bestPeer_30) (fun r h3 hp => ?_)
      obtain ⟨rfl, rfl⟩ := hp
      refine j_ri (j_runV (pc := 33) F (c_X9_best (q := pqN b c) (by decide) m4.2 (Nat.le_refl _) hm w.Z (fun p hp => hC p _ hp m4.2) z2) m_X9_best mv_X9_best lk_X9_70 (by first | assumption | exact hUp_s) rfl ⟨by decide, by decide⟩ (Nat.le_of_ble_eq_true rfl) ⟨by omega, by omega⟩ rfl dX9_bestPeer_33) (fun r h4 hp => ?_)
      obtain ⟨rfl, rfl⟩ := hp
      cases hb : bstT (sD s) (sm s) (pqN b c) with
      | none =>
        refine j_istore_n (pc := 36) F dX9_bestPeer_36 (by decide) ?_
        refine j_iload_n (pc := 37) F dX9_bestPeer_37 rfl ?_
        refine j_iconst (pc := 38) (v := (-1)) F dX9_bestPeer_38 (by decide) ?_
        refine j_icmp_ne (pc := 39) F 46 dX9_bestPeer_39 (by decide) (fun c2 => ?_) (fun c2 => ?_)
        · exact absurd rfl c2
        · refine j_iconst (pc := 42) (v := (-1)) F dX9_bestPeer_42 (by decide) ?_
          refine j_goto (pc := 43) F 52 dX9_bestPeer_43 (by decide) ?_
          exact j_iret F hQ rfl rfl (by omega) (by omega) dX9_bestPeer_52 ⟨by rw [ec]; exact z2.is hC, fun _ => by rw [vBest, hb]⟩
      | some u =>
        have hu := (bstT_lt hb).1
        refine j_istore_n (pc := 36) F dX9_bestPeer_36 (by decide) ?_
        refine j_iload_n (pc := 37) F dX9_bestPeer_37 rfl ?_
        refine j_iconst (pc := 38) (v := (-1)) F dX9_bestPeer_38 (by decide) ?_
        refine j_icmp_ne (pc := 39) F 46 dX9_bestPeer_39 (by decide) (fun c2 => ?_) (fun c2 => ?_)
        · refine j_lv [(0, .ref y), (3, .int (nI u))] ⟨rfl, rfl, trivial⟩ ?_
          first | refine j_aload_n (pc := 46) F dX9_bestPeer_46 rfl ?_ | refine j_aload_nq (pc := 46) F dX9_bestPeer_46 rfl ?_
          refine j_get (pc := 47) F fg_X9_16 (by first | assumption | exact hUp_s) (by rfl) dX9_bestPeer_47 ?_
          refine j_iload_n (pc := 50) F dX9_bestPeer_50 rfl ?_
          refine j_ialdN (pc := 51) F (by first | assumption | exact hUp_s) (by omega) (by decide) dX9_bestPeer_51 ?_
          exact j_iret F hQ rfl rfl (by omega) (by omega) dX9_bestPeer_52 ⟨by rw [ec]; exact z2.is hC, fun _ => by rw [vBest, hb]; exact p5 u hu⟩
        · exact absurd c2 (oI_m1 (by omega))
    · omega
theorem c_X9_lookUp {b : Int32} (w : wf s) (hM : isM g h y s th) : MI l g A h yX9_lookUp cX9_lookUp 2 (some .int) 4 0 0 [.ref y, .int b] (fun r h1 => isM g h1 y s (a1code b) ∧ (a1code b = 0 → r = vLook s (sm s) b)) := by
  obtain ⟨a, CC, z, hC⟩ := hM
  have e0 := z.cl
  refine j_met (by decide +kernel) (Nat.le_of_ble_eq_true rfl) (fun X F hn hQ => ?_)
  first | refine j_aload_n (pc := 0) F dX9_lookUp_0 rfl ?_ | refine j_aload_nq (pc := 0) F dX9_lookUp_0 rfl ?_
  refine j_iload_n (pc := 1) F dX9_lookUp_1 rfl ?_
  refine j_iconst (pc := 2) (v := (nI 0)) F dX9_lookUp_2 (by decide) ?_
  refine j_sipush (pc := 3) (v := (nI 255)) F dX9_lookUp_3 (by decide) ?_
  refine j_ri (j_runS (pc := 6) F (c_X9_in _ _ _) m_X9_in ms_X9_in lk_X9_51 ⟨by decide, by decide⟩ (Nat.le_of_ble_eq_true rfl) ⟨by omega, by omega⟩ rfl dX9_lookUp_6) (fun r h1 hp => ?_)
  obtain ⟨rfl, rfl⟩ := hp
  refine j_int (congrArg bI inAdr) ?_
  first | refine j_if_eqB (pc := 9) F 16 dX9_lookUp_9 (by decide) (fun c1 => ?_) (fun c1 => ?_) | refine j_if_eqN (pc := 9) F 16 dX9_lookUp_9 (by decide) (by omega) (fun c1 => ?_) (fun c1 => ?_) | refine j_if_eqI (pc := 9) F 16 dX9_lookUp_9 (by decide) (fun c1 => ?_) (fun c1 => ?_)
  · have ec : a1code b = 1 := by rw [a1code, if_neg (by rw [c1]; simp)]
    refine j_iconst (pc := 16) (v := (nI 1)) F dX9_lookUp_16 (by decide) ?_
    refine j_put (pc := 17) F fp_X9_47 (by first | assumption | exact hUp_s) (by rfl) (by rfl) (Nat.le_of_ble_eq_true rfl) dX9_lookUp_17 ?_
    generalize hh2 : hUp h1 y _ = h2
    have z2 : isMx g h2 y s 1 a CC := z.tw (by rw [← hh2]; exact hUp_s) (fun b hb => by rw [← hh2]; exact hUp_n hb)
    have e2 := z2.cl
    first | refine j_aload_n (pc := 20) F dX9_lookUp_20 rfl ?_ | refine j_aload_nq (pc := 20) F dX9_lookUp_20 rfl ?_
    refine j_get (pc := 21) F fg_X9_47 (by first | assumption | exact hUp_s) (by rfl) dX9_lookUp_21 ?_
    first | refine j_if_neB (pc := 24) F 36 dX9_lookUp_24 (by decide) (fun c4 => ?_) (fun c4 => ?_) | refine j_if_neN (pc := 24) F 36 dX9_lookUp_24 (by decide) (by omega) (fun c4 => ?_) (fun c4 => ?_) | refine j_if_neI (pc := 24) F 36 dX9_lookUp_24 (by decide) (fun c4 => ?_) (fun c4 => ?_)
    · refine j_iconst (pc := 36) (v := (nI 0)) F dX9_lookUp_36 (by decide) ?_
      exact j_iret F hQ rfl rfl (by omega) (by omega) dX9_lookUp_37 ⟨by rw [ec]; exact z2.is hC, fun e => by rw [ec] at e; cases e⟩
    · omega
  · obtain ⟨n1, n2⟩ := okAdr.n c1
    have ec : a1code b = 0 := if_pos c1
    refine j_iconst (pc := 12) (v := (nI 0)) F dX9_lookUp_12 (by decide) ?_
    refine j_goto (pc := 13) F 17 dX9_lookUp_13 (by decide) ?_
    refine j_put (pc := 17) F fp_X9_47 (by first | assumption | exact hUp_s) (by rfl) (by rfl) (Nat.le_of_ble_eq_true rfl) dX9_lookUp_17 ?_
    generalize hh2 : hUp h1 y _ = h2
    have z2 : isMx g h2 y s 0 a CC := z.tw (by rw [← hh2]; exact hUp_s) (fun b hb => by rw [← hh2]; exact hUp_n hb)
    have e2 := z2.cl
    first | refine j_aload_n (pc := 20) F dX9_lookUp_20 rfl ?_ | refine j_aload_nq (pc := 20) F dX9_lookUp_20 rfl ?_
    refine j_get (pc := 21) F fg_X9_47 (by first | assumption | exact hUp_s) (by rfl) dX9_lookUp_21 ?_
    first | refine j_if_neB (pc := 24) F 36 dX9_lookUp_24 (by decide) (fun c4 => ?_) (fun c4 => ?_) | refine j_if_neN (pc := 24) F 36 dX9_lookUp_24 (by decide) (by omega) (fun c4 => ?_) (fun c4 => ?_) | refine j_if_neI (pc := 24) F 36 dX9_lookUp_24 (by decide) (fun c4 => ?_) (fun c4 => ?_)
    · omega
    · first | refine j_aload_n (pc := 27) F dX9_lookUp_27 rfl ?_ | refine j_aload_nq (pc := 27) F dX9_lookUp_27 rfl ?_
      refine j_iconst (pc := 28) (v := (nI 0)) F dX9_lookUp_28 (by decide) ?_
      refine j_iload_n (pc := 29) F dX9_lookUp_29 rfl ?_
      have hcl := c_X9_lengthFound (l := l) (A := A) (k := 0) (n := sm s) (by decide) n2 w (Nat.le_refl _) (fun p q hp hq => hC p q hp hq) z2
      rw [← n1] at hcl
      refine j_ri (j_runV (pc := 30) F (hcl) m_X9_lengthFound mv_X9_lengthFound lk_X9_105 (by first | assumption | exact hUp_s) rfl ⟨by decide, by decide⟩ (Nat.le_of_ble_eq_true rfl) ⟨by omega, by omega⟩ rfl dX9_lookUp_30) (fun r h6 hp => ?_)
      obtain ⟨rfl, rfl⟩ := hp
      refine j_goto (pc := 33) F 37 dX9_lookUp_33 (by decide) ?_
      exact j_iret F hQ rfl rfl (by omega) (by omega) dX9_lookUp_37 ⟨by rw [ec]; exact z2.is hC, fun _ => rfl⟩
theorem c_X9_lookUpByScan {b : Int32} (w : wf s) (hM : isM g h y s th) : MI l g A h yX9_lookUpByScan cX9_lookUpByScan 2 (some .int) 5 0 0 [.ref y, .int b] (fun r h1 => isM g h1 y s (a1code b) ∧ (a1code b = 0 → r = vLook s (sm s) b)) := by
  have hM' := hM
  obtain ⟨a, CC, z, hC⟩ := hM
  have e0 := z.cl
  refine j_met (by decide +kernel) (Nat.le_of_ble_eq_true rfl) (fun X F hn hQ => ?_)
  first | refine j_aload_n (pc := 0) F dX9_lookUpByScan_0 rfl ?_ | refine j_aload_nq (pc := 0) F dX9_lookUpByScan_0 rfl ?_
  refine j_iload_n (pc := 1) F dX9_lookUpByScan_1 rfl ?_
  refine j_ri (j_runV (pc := 2) F (c_X9_lookUp w hM') m_X9_lookUp mv_X9_lookUp lk_X9_108 (by first | assumption | exact hUp_s) rfl ⟨by decide, by decide⟩ (Nat.le_of_ble_eq_true rfl) ⟨by omega, by omega⟩ rfl dX9_lookUpByScan_2) (fun r h1 hp => ?_)
  exact j_iret F hQ rfl rfl (by omega) (by omega) dX9_lookUpByScan_5 hp
theorem og30 (w : wf s) {q : Nat} : ∀ p u, p < 6 → tb (sD s) (sm s) p q = some u → ogn (sD s) u ≤ 30 := fun p u _ hu => by
  obtain ⟨h1, -, -, h4⟩ := tb_lt hu
  exact ((w.2.2.1.2.2.2 u h1).2.2.2.2 _ (by have := h4.2; omega)).2
theorem vOrigins_d (w : wf s) {q : Nat} : vOrigins s q = nI (dcnt (ogn (sD s)) (fun p => tb (sD s) (sm s) p q) 6) := bc_dcnt (og30 w)
theorem dcnt_le {O : Nat → Nat} {c : Nat → Option Nat} : ∀ {n : Nat}, dcnt O c n ≤ n
  | 0 => Nat.le_refl _
  | n + 1 => by
    have := dcnt_le (O := O) (c := c) (n := n)
    unfold dcnt
    split
    · omega
    · split <;> omega
theorem c_X9_origins {b c : Int32} (w : wf s) (hM : isM g h y s th) : MI l g A h yX9_origins cX9_origins 3 (some .int) 2 0 0 [.ref y, .int b, .int c] (fun r h1 => isM g h1 y s (xcode b c) ∧ (xcode b c = 0 → r = vOrigins s (pqN b c))) := by
  obtain ⟨a, CC, z, hC⟩ := hM
  have e0 := z.cl
  refine j_met (by decide +kernel) (Nat.le_of_ble_eq_true rfl) (fun X F hn hQ => ?_)
  first | refine j_aload_n (pc := 0) F dX9_origins_0 rfl ?_ | refine j_aload_nq (pc := 0) F dX9_origins_0 rfl ?_
  refine j_iload_n (pc := 1) F dX9_origins_1 rfl ?_
  refine j_iload_n (pc := 2) F dX9_origins_2 rfl ?_
  refine j_ri (j_runS (pc := 3) F (c_X9_isPrefix b c) m_X9_isPrefix ms_X9_isPrefix lk_X9_84 ⟨by decide, by decide⟩ (Nat.le_of_ble_eq_true rfl) ⟨by omega, by omega⟩ rfl dX9_origins_3) (fun r h1 hp => ?_)
  obtain ⟨rfl, rfl⟩ := hp
  first | refine j_if_eqB (pc := 6) F 13 dX9_origins_6 (by decide) (fun c1 => ?_) (fun c1 => ?_) | refine j_if_eqN (pc := 6) F 13 dX9_origins_6 (by decide) (by omega) (fun c1 => ?_) (fun c1 => ?_) | refine j_if_eqI (pc := 6) F 13 dX9_origins_6 (by decide) (fun c1 => ?_) (fun c1 => ?_)
  · have ec : xcode b c = 1 := by rw [xcode, if_neg (by rw [c1]; simp)]
    refine j_iconst (pc := 13) (v := (nI 1)) F dX9_origins_13 (by decide) ?_
    refine j_put (pc := 14) F fp_X9_47 (by first | assumption | exact hUp_s) (by rfl) (by rfl) (Nat.le_of_ble_eq_true rfl) dX9_origins_14 ?_
    generalize hh2 : hUp h1 y _ = h2
    have z2 : isMx g h2 y s 1 a CC := z.tw (by rw [← hh2]; exact hUp_s) (fun b hb => by rw [← hh2]; exact hUp_n hb)
    have e2 := z2.cl
    first | refine j_aload_n (pc := 17) F dX9_origins_17 rfl ?_ | refine j_aload_nq (pc := 17) F dX9_origins_17 rfl ?_
    refine j_get (pc := 18) F fg_X9_47 (by first | assumption | exact hUp_s) (by rfl) dX9_origins_18 ?_
    first | refine j_if_neB (pc := 21) F 36 dX9_origins_21 (by decide) (fun c4 => ?_) (fun c4 => ?_) | refine j_if_neN (pc := 21) F 36 dX9_origins_21 (by decide) (by omega) (fun c4 => ?_) (fun c4 => ?_) | refine j_if_neI (pc := 21) F 36 dX9_origins_21 (by decide) (fun c4 => ?_) (fun c4 => ?_)
    · refine j_iconst (pc := 36) (v := (nI 0)) F dX9_origins_36 (by decide) ?_
      exact j_iret F hQ rfl rfl (by omega) (by omega) dX9_origins_37 ⟨by rw [ec]; exact z2.is hC, fun e => by rw [ec] at e; cases e⟩
    · omega
  · obtain ⟨m1, m2, m3, m4, -⟩ := okPfx.n c1
    have ec : xcode b c = 0 := if_pos c1
    refine j_iconst (pc := 9) (v := (nI 0)) F dX9_origins_9 (by decide) ?_
    refine j_goto (pc := 10) F 14 dX9_origins_10 (by decide) ?_
    refine j_put (pc := 14) F fp_X9_47 (by first | assumption | exact hUp_s) (by rfl) (by rfl) (Nat.le_of_ble_eq_true rfl) dX9_origins_14 ?_
    generalize hh2 : hUp h1 y _ = h2
    have z2 : isMx g h2 y s 0 a CC := z.tw (by rw [← hh2]; exact hUp_s) (fun b hb => by rw [← hh2]; exact hUp_n hb)
    have e2 := z2.cl
    first | refine j_aload_n (pc := 17) F dX9_origins_17 rfl ?_ | refine j_aload_nq (pc := 17) F dX9_origins_17 rfl ?_
    refine j_get (pc := 18) F fg_X9_47 (by first | assumption | exact hUp_s) (by rfl) dX9_origins_18 ?_
    first | refine j_if_neB (pc := 21) F 36 dX9_origins_21 (by decide) (fun c4 => ?_) (fun c4 => ?_) | refine j_if_neN (pc := 21) F 36 dX9_origins_21 (by decide) (by omega) (fun c4 => ?_) (fun c4 => ?_) | refine j_if_neI (pc := 21) F 36 dX9_origins_21 (by decide) (fun c4 => ?_) (fun c4 => ?_)
    · omega
    · first | refine j_aload_n (pc := 24) F dX9_origins_24 rfl ?_ | refine j_aload_nq (pc := 24) F dX9_origins_24 rfl ?_
      refine j_iload_n (pc := 25) F dX9_origins_25 rfl ?_
      refine j_iload_n (pc := 26) F dX9_origins_26 rfl ?_
      refine j_ri (j_runS (pc := 27) F (c_X9_prefixOfX c1) m_X9_prefixOf ms_X9_prefixOf lk_X9_66 ⟨by decide, by decide⟩ (Nat.le_of_ble_eq_true rfl) ⟨by omega, by omega⟩ rfl dX9_origins_27) (fun r h3 hp => ?_)
      obtain ⟨rfl, rfl⟩ := hp
      refine j_ri (j_runV (pc := 30) F (c_X9_originsOf (q := pqN b c) m4.2 w (fun p hp => hC p _ hp m4.2) z2) m_X9_originsOf mv_X9_originsOf lk_X9_114 (by first | assumption | exact hUp_s) rfl ⟨by decide, by decide⟩ (Nat.le_of_ble_eq_true rfl) ⟨by omega, by omega⟩ rfl dX9_origins_30) (fun r h4 hp => ?_)
      obtain ⟨rfl, rfl⟩ := hp
      refine j_goto (pc := 33) F 37 dX9_origins_33 (by decide) ?_
      exact j_iret F hQ rfl rfl (by omega) (by omega) dX9_origins_37 ⟨by rw [ec]; exact z2.is hC, fun _ => (vOrigins_d w).symm⟩
theorem c_X9_contested (w : wf s) (hM : isM g h y s th) : MI l g A h yX9_contested cX9_contested 3 (some .int) 2 0 0 [.ref y] (fun r h1 => r = vCont s ∧ isM g h1 y s 0) := by
  obtain ⟨a, CC, z, hC⟩ := hM
  have e0 := z.cl
  refine j_met (by decide +kernel) (Nat.le_of_ble_eq_true rfl) (fun X F hn hQ => ?_)
  first | refine j_aload_n (pc := 0) F dX9_contested_0 rfl ?_ | refine j_aload_nq (pc := 0) F dX9_contested_0 rfl ?_
  refine j_iconst (pc := 1) (v := (nI 0)) F dX9_contested_1 (by decide) ?_
  refine j_put (pc := 2) F fp_X9_47 (by first | assumption | exact hUp_s) (by rfl) (by rfl) (Nat.le_of_ble_eq_true rfl) dX9_contested_2 ?_
  generalize hh2 : hUp h y _ = h2
  have z2 : isMx g h2 y s 0 a CC := z.tw (by rw [← hh2]; exact hUp_s) (fun b hb => by rw [← hh2]; exact hUp_n hb)
  have e2 := z2.cl
  refine j_iconst (pc := 5) (v := (nI 0)) F dX9_contested_5 (by decide) ?_
  refine j_istore_n (pc := 6) F dX9_contested_6 (by decide) ?_
  refine j_iconst (pc := 7) (v := (nI 1)) F dX9_contested_7 (by decide) ?_
  refine j_istore_n (pc := 8) F dX9_contested_8 (by decide) ?_
  have loop : ∀ m i (lv : List (Nat × Value)), 511 < i + m → i ≤ 511 → lall lv [(0, .ref y), (1, .int (nI (cnt (fun j => decide (1 < (vOrigins s (j + 1)).toInt)) i))), (2, .int (nI (i + 1)))] → J l X g A 3 0 0 h2 9 lv [] := by
    intro m
    induction m with
    | zero => intro i lv q1 q2; omega
    | succ m ih =>
      intro i lv q1 q2 q3
      have dl : dcnt (ogn (sD s)) (fun p => tb (sD s) (sm s) p (i + 1)) 6 ≤ 6 := dcnt_le
      have ev : (vOrigins s (i + 1)).toInt = (dcnt (ogn (sD s)) (fun p => tb (sD s) (sm s) p (i + 1)) 6 : Int) := by rw [vOrigins_d w, nI_toInt (by omega)]
      refine j_lv _ q3 ?_
      refine j_iload_n (pc := 9) F dX9_contested_9 rfl ?_
      refine j_sipush (pc := 10) (v := (nI 512)) F dX9_contested_10 (by decide) ?_
      first | refine j_icmp_geN (pc := 13) F 39 dX9_contested_13 (by decide) (by omega) (by omega) (fun c => ?_) (fun c => ?_) | refine j_icmp_geIN (pc := 13) F 39 dX9_contested_13 (by decide) (by omega) (fun c => ?_) (fun c => ?_) | refine j_icmp_geNI (pc := 13) F 39 dX9_contested_13 (by decide) (by omega) (fun c => ?_) (fun c => ?_) | refine j_icmp_geI (pc := 13) F 39 dX9_contested_13 (by decide) (fun c => ?_) (fun c => ?_)
      · have : i = 511 := by omega
        subst this
        refine j_iload_n (pc := 39) F dX9_contested_39 rfl ?_
        exact j_iret F hQ rfl rfl (by omega) (by omega) dX9_contested_40 ⟨rfl, z2.is hC⟩
      · refine j_iload_n (pc := 16) F dX9_contested_16 rfl ?_
        first | refine j_aload_n (pc := 17) F dX9_contested_17 rfl ?_ | refine j_aload_nq (pc := 17) F dX9_contested_17 rfl ?_
        refine j_iload_n (pc := 18) F dX9_contested_18 rfl ?_
        refine j_ri (j_runV (pc := 19) F (c_X9_originsOf (q := i + 1) (by omega) w (fun p hp => hC p _ hp (by omega)) z2) m_X9_originsOf mv_X9_originsOf lk_X9_114 (by first | assumption | exact hUp_s) rfl ⟨by decide, by decide⟩ (Nat.le_of_ble_eq_true rfl) ⟨by omega, by omega⟩ rfl dX9_contested_19) (fun r h3 hp => ?_)
        obtain ⟨rfl, rfl⟩ := hp
        refine j_iconst (pc := 22) (v := (nI 1)) F dX9_contested_22 (by decide) ?_
        refine j_icmp_leN (pc := 23) F 30 dX9_contested_23 (by decide) (by omega) (by omega) (fun c2 => ?_) (fun c2 => ?_)
        · refine j_iconst (pc := 30) (v := (nI 0)) F dX9_contested_30 (by decide) ?_
          first | refine j_iaddN (pc := 31) F dX9_contested_31 ?_ | refine j_iadd (pc := 31) F dX9_contested_31 ?_
          refine j_istore_n (pc := 32) F dX9_contested_32 (by decide) ?_
          first | refine j_iincN (pc := 33) F dX9_contested_33 rfl (by decide) ?_ | refine j_iincM (pc := 33) F dX9_contested_33 rfl (by decide) ?_ | refine j_iinc (pc := 33) F dX9_contested_33 rfl rfl (by decide) ?_
          refine j_goto (pc := 36) F 9 dX9_contested_36 (by decide) ?_
          refine ih (i + 1) _ (by omega) (by omega) ⟨rfl, ?_, rfl, trivial⟩
          rw [show cnt (fun j => decide (1 < (vOrigins s (j + 1)).toInt)) (i + 1) = cnt (fun j => decide (1 < (vOrigins s (j + 1)).toInt)) i + 0 by rw [cnt, if_neg (by rw [decide_eq_true_iff, ev]; omega)]]
          rfl
        · refine j_iconst (pc := 26) (v := (nI 1)) F dX9_contested_26 (by decide) ?_
          refine j_goto (pc := 27) F 31 dX9_contested_27 (by decide) ?_
          first | refine j_iaddN (pc := 31) F dX9_contested_31 ?_ | refine j_iadd (pc := 31) F dX9_contested_31 ?_
          refine j_istore_n (pc := 32) F dX9_contested_32 (by decide) ?_
          first | refine j_iincN (pc := 33) F dX9_contested_33 rfl (by decide) ?_ | refine j_iincM (pc := 33) F dX9_contested_33 rfl (by decide) ?_ | refine j_iinc (pc := 33) F dX9_contested_33 rfl rfl (by decide) ?_
          refine j_goto (pc := 36) F 9 dX9_contested_36 (by decide) ?_
          refine ih (i + 1) _ (by omega) (by omega) ⟨rfl, ?_, rfl, trivial⟩
          rw [show cnt (fun j => decide (1 < (vOrigins s (j + 1)).toInt)) (i + 1) = cnt (fun j => decide (1 < (vOrigins s (j + 1)).toInt)) i + 1 by rw [cnt, if_pos (by rw [decide_eq_true_iff, ev]; omega)]]
          rfl
  exact loop 512 0 _ (by omega) (by omega) ⟨rfl, rfl, rfl, trivial⟩
end MQ3
