def rtv (s : SG) (p a b : Int32) : Option Nat := if okPeer p = true ∧ okPfx a b = true then tb (sD s) (sm s) (pN p) (pqN a b) else none
theorem ix_or {k : Nat} (h : ix k = true) : k = 1 ∨ k = 4 ∨ k = 5 ∨ k = 6 ∨ k = 7 ∨ k = 8 ∨ k = 9 ∨ k = 11 ∨ k = 12 ∨ k = 13 ∨ k = 14 := by
  have := of_decide_eq_true h
  omega
section MP3
variable {l : Launch} {g : GG} {A : Nat → Prop} {h h1 : HF} {y : Nat} {s s' : SG} {th th' : Nat} {a : Nat → Nat} {CC CC' : CT}
theorem c_X9_route {p b c : Int32} (hm : sm s ≤ 300) (hC : ∀ p q, p < 6 → q < 512 → CC 0 p q = tb (sD s) (sm s) p q) (z : isMx g h y s th a CC) : MI l g A h yX9_route cX9_route 5 (some .int) 3 0 0 [.ref y, .int p, .int b, .int c] (fun r h1 => r = oI (rtv s p b c) ∧ isMx g h1 y s (rcode s p b c) a CC) := by
  have e0 := z.cl
  refine j_met (by decide +kernel) (Nat.le_of_ble_eq_true rfl) (fun X F hn hQ => ?_)
  first | refine j_aload_n (pc := 0) F dX9_route_0 rfl ?_ | refine j_aload_nq (pc := 0) F dX9_route_0 rfl ?_
  refine j_iload_n (pc := 1) F dX9_route_1 rfl ?_
  refine j_ri (j_runS (pc := 2) F (c_X9_isPeer p) m_X9_isPeer ms_X9_isPeer lk_X9_80 ⟨by decide, by decide⟩ (Nat.le_of_ble_eq_true rfl) ⟨by omega, by omega⟩ rfl dX9_route_2) (fun r h1 hp => ?_)
  obtain ⟨rfl, rfl⟩ := hp
  first | refine j_if_neB (pc := 5) F 12 dX9_route_5 (by decide) (fun c1 => ?_) (fun c1 => ?_) | refine j_if_neN (pc := 5) F 12 dX9_route_5 (by decide) (by omega) (fun c1 => ?_) (fun c1 => ?_) | refine j_if_neI (pc := 5) F 12 dX9_route_5 (by decide) (fun c1 => ?_) (fun c1 => ?_)
  · have ⟨n1, n2⟩ := okPeer.n c1
    have r1 : ¬ okPeer p = false := by rw [c1]; simp
    refine j_iload_n (pc := 12) F dX9_route_12 rfl ?_
    refine j_iload_n (pc := 13) F dX9_route_13 rfl ?_
    refine j_ri (j_runS (pc := 14) F (c_X9_isPrefix b c) m_X9_isPrefix ms_X9_isPrefix lk_X9_84 ⟨by decide, by decide⟩ (Nat.le_of_ble_eq_true rfl) ⟨by omega, by omega⟩ rfl dX9_route_14) (fun r h1 hp => ?_)
    obtain ⟨rfl, rfl⟩ := hp
    first | refine j_if_neB (pc := 17) F 24 dX9_route_17 (by decide) (fun c2 => ?_) (fun c2 => ?_) | refine j_if_neN (pc := 17) F 24 dX9_route_17 (by decide) (by omega) (fun c2 => ?_) (fun c2 => ?_) | refine j_if_neI (pc := 17) F 24 dX9_route_17 (by decide) (fun c2 => ?_) (fun c2 => ?_)
    · have r2 : ¬ okPfx b c = false := by rw [c2]; simp
      obtain ⟨m1, m2, m3, m4, -⟩ := okPfx.n c2
      refine j_iconst (pc := 24) (v := (nI 0)) F dX9_route_24 (by decide) ?_
      refine j_put (pc := 25) F fp_X9_47 (by first | assumption | exact hUp_s) (by rfl) (by rfl) (Nat.le_of_ble_eq_true rfl) dX9_route_25 ?_
      generalize hh2 : hUp h1 y _ = h2
      have z2 : isMx g h2 y s 0 a CC := z.tw (by rw [← hh2]; exact hUp_s) (fun b hb => by rw [← hh2]; exact hUp_n hb)
      have e2 := z2.cl
      obtain ⟨f9, q9, p9⟩ := z2.a9
      first | refine j_aload_n (pc := 28) F dX9_route_28 rfl ?_ | refine j_aload_nq (pc := 28) F dX9_route_28 rfl ?_
      refine j_get (pc := 29) F fg_X9_47 (by first | assumption | exact hUp_s) (by rfl) dX9_route_29 ?_
      first | refine j_if_leN (pc := 32) F 37 dX9_route_32 (by decide) (by omega) (fun c4 => ?_) (fun c4 => ?_) | refine j_if_leI (pc := 32) F 37 dX9_route_32 (by decide) (fun c4 => ?_) (fun c4 => ?_)
      · first | refine j_aload_n (pc := 37) F dX9_route_37 rfl ?_ | refine j_aload_nq (pc := 37) F dX9_route_37 rfl ?_
        refine j_get (pc := 38) F fg_X9_28 (by first | assumption | exact hUp_s) (by rfl) dX9_route_38 ?_
        refine j_iconst (pc := 41) (v := (nI 0)) F dX9_route_41 (by decide) ?_
        refine j_iload_n (pc := 42) F dX9_route_42 rfl ?_
        refine j_iload_n (pc := 43) F dX9_route_43 rfl ?_
        refine j_iload_n (pc := 44) F dX9_route_44 rfl ?_
        refine j_ri (j_runS (pc := 45) F (c_X9_prefixOfX c2) m_X9_prefixOf ms_X9_prefixOf lk_X9_66 ⟨by decide, by decide⟩ (Nat.le_of_ble_eq_true rfl) ⟨by omega, by omega⟩ rfl dX9_route_45) (fun r h3 hp => ?_)
        obtain ⟨rfl, rfl⟩ := hp
        have hpl := c_X9_placeOf (l := l) (g := g) (A := A) (h := h3) (k := 0) (p := pN p) (q := pqN b c)
        rw [← n1] at hpl
        refine j_ri (j_runS (pc := 48) F (hpl) m_X9_placeOf ms_X9_placeOf lk_X9_55 ⟨by decide, by decide⟩ (Nat.le_of_ble_eq_true rfl) ⟨by omega, by omega⟩ rfl dX9_route_48) (fun r h4 hp => ?_)
        obtain ⟨rfl, rfl⟩ := hp
        have hlt : 3072 * 0 + 512 * pN p + pqN b c < 9216 := by omega
        refine j_ialdN (pc := 51) F (by first | assumption | exact hUp_s) (by omega) (by decide) dX9_route_51 ?_
        refine j_int ((p9 0 (pN p) (pqN b c) (by omega) n2 m4.2).trans (congrArg oI (hC _ _ n2 m4.2))) ?_
        have er : rtv s p b c = tb (sD s) (sm s) (pN p) (pqN b c) := if_pos ⟨c1, c2⟩
        cases hc : tb (sD s) (sm s) (pN p) (pqN b c) with
        | none =>
          have ec : rcode s p b c = 3 := by rw [rcode, if_neg r1, if_neg r2, if_pos hc]
          refine j_istore (pc := 52) F dX9_route_52 (by decide) ?_
          first | refine j_aload_n (pc := 54) F dX9_route_54 rfl ?_ | refine j_aload_nq (pc := 54) F dX9_route_54 rfl ?_
          refine j_iload (pc := 55) F dX9_route_55 rfl ?_
          refine j_iconst (pc := 57) (v := (-1)) F dX9_route_57 (by decide) ?_
          refine j_icmp_ne (pc := 58) F 65 dX9_route_58 (by decide) (fun c3 => ?_) (fun c3 => ?_)
          · exact absurd rfl c3
          refine j_iconst (pc := 61) (v := (nI 3)) F dX9_route_61 (by decide) ?_
          refine j_goto (pc := 62) F 66 dX9_route_62 (by decide) ?_
          refine j_put (pc := 66) F fp_X9_47 (by first | assumption | exact hUp_s) (by rfl) (by rfl) (Nat.le_of_ble_eq_true rfl) dX9_route_66 ?_
          refine j_iload (pc := 69) F dX9_route_69 rfl ?_
          refine j_iret F hQ rfl rfl (by omega) (by omega) dX9_route_71 ⟨by rw [er, hc], ?_⟩
          rw [ec]
          exact z2.tw hUp_s (fun b hb => hUp_n hb)
        | some u =>
          have hu := (tb_lt hc).1
          have ec : rcode s p b c = 0 := by rw [rcode, if_neg r1, if_neg r2, if_neg (by rw [hc]; simp)]
          refine j_istore (pc := 52) F dX9_route_52 (by decide) ?_
          first | refine j_aload_n (pc := 54) F dX9_route_54 rfl ?_ | refine j_aload_nq (pc := 54) F dX9_route_54 rfl ?_
          refine j_iload (pc := 55) F dX9_route_55 rfl ?_
          refine j_iconst (pc := 57) (v := (-1)) F dX9_route_57 (by decide) ?_
          refine j_icmp_ne (pc := 58) F 65 dX9_route_58 (by decide) (fun c3 => ?_) (fun c3 => ?_)
          · refine j_iconst (pc := 65) (v := (nI 0)) F dX9_route_65 (by decide) ?_
            refine j_put (pc := 66) F fp_X9_47 (by first | assumption | exact hUp_s) (by rfl) (by rfl) (Nat.le_of_ble_eq_true rfl) dX9_route_66 ?_
            refine j_iload (pc := 69) F dX9_route_69 rfl ?_
            refine j_iret F hQ rfl rfl (by omega) (by omega) dX9_route_71 ⟨by rw [er, hc], ?_⟩
            rw [ec]
            exact z2.tw hUp_s (fun b hb => hUp_n hb)
          · exact absurd c3 (oI_m1 (by omega))
      · omega
    · have ec : rcode s p b c = 2 := by rw [rcode, if_neg r1, if_pos c2]
      refine j_iconst (pc := 20) (v := (nI 2)) F dX9_route_20 (by decide) ?_
      refine j_goto (pc := 21) F 25 dX9_route_21 (by decide) ?_
      refine j_put (pc := 25) F fp_X9_47 (by first | assumption | exact hUp_s) (by rfl) (by rfl) (Nat.le_of_ble_eq_true rfl) dX9_route_25 ?_
      generalize hh2 : hUp h1 y _ = h2
      have z2 : isMx g h2 y s 2 a CC := z.tw (by rw [← hh2]; exact hUp_s) (fun b hb => by rw [← hh2]; exact hUp_n hb)
      have e2 := z2.cl
      first | refine j_aload_n (pc := 28) F dX9_route_28 rfl ?_ | refine j_aload_nq (pc := 28) F dX9_route_28 rfl ?_
      refine j_get (pc := 29) F fg_X9_47 (by first | assumption | exact hUp_s) (by rfl) dX9_route_29 ?_
      first | refine j_if_leN (pc := 32) F 37 dX9_route_32 (by decide) (by omega) (fun c4 => ?_) (fun c4 => ?_) | refine j_if_leI (pc := 32) F 37 dX9_route_32 (by decide) (fun c4 => ?_) (fun c4 => ?_)
      · omega
      · refine j_iconst (pc := 35) (v := (-1)) F dX9_route_35 (by decide) ?_
        exact j_iret F hQ rfl rfl (by omega) (by omega) dX9_route_36 ⟨by rw [rtv, if_neg (fun w => by rw [c2] at w; cases w.2)]; rfl, by rw [ec]; exact z2⟩
  · have ec : rcode s p b c = 1 := by rw [rcode, if_pos c1]
    refine j_iconst (pc := 8) (v := (nI 1)) F dX9_route_8 (by decide) ?_
    refine j_goto (pc := 9) F 25 dX9_route_9 (by decide) ?_
    refine j_put (pc := 25) F fp_X9_47 (by first | assumption | exact hUp_s) (by rfl) (by rfl) (Nat.le_of_ble_eq_true rfl) dX9_route_25 ?_
    generalize hh2 : hUp h1 y _ = h2
    have z2 : isMx g h2 y s 1 a CC := z.tw (by rw [← hh2]; exact hUp_s) (fun b hb => by rw [← hh2]; exact hUp_n hb)
    have e2 := z2.cl
    first | refine j_aload_n (pc := 28) F dX9_route_28 rfl ?_ | refine j_aload_nq (pc := 28) F dX9_route_28 rfl ?_
    refine j_get (pc := 29) F fg_X9_47 (by first | assumption | exact hUp_s) (by rfl) dX9_route_29 ?_
    first | refine j_if_leN (pc := 32) F 37 dX9_route_32 (by decide) (by omega) (fun c4 => ?_) (fun c4 => ?_) | refine j_if_leI (pc := 32) F 37 dX9_route_32 (by decide) (fun c4 => ?_) (fun c4 => ?_)
    · omega
    · refine j_iconst (pc := 35) (v := (-1)) F dX9_route_35 (by decide) ?_
      exact j_iret F hQ rfl rfl (by omega) (by omega) dX9_route_36 ⟨by rw [rtv, if_neg (fun w => by rw [c1] at w; cases w.1)]; rfl, by rw [ec]; exact z2⟩
theorem c_X9_areAlike {u v : Option Nat} (w : wf s) (hu : ∀ x, u = some x → x < sm s) (hv : ∀ x, v = some x → x < sm s) (z : isMx g h y s th a CC) : MI l g A h yX9_areAlike cX9_areAlike 5 (some .boolean) 1 0 0 [.ref y, .int (oI u), .int (oI v)] (fun r h1 => r = bI (!(unl (sD s) u v)) ∧ h1 = h) := by
  have e0 := z.cl
  have hm := w.2.2.1.1
  obtain ⟨f5, q5, p5⟩ := z.a5
  obtain ⟨f7, q7, p7⟩ := z.a7
  obtain ⟨f8, q8, p8⟩ := z.a8
  refine j_met (by decide +kernel) (Nat.le_of_ble_eq_true rfl) (fun X F hn hQ => ?_)
  cases u with
  | none =>
    refine j_iload_n (pc := 0) F dX9_areAlike_0 rfl ?_
    refine j_iconst (pc := 1) (v := (-1)) F dX9_areAlike_1 (by decide) ?_
    refine j_icmp_eq (pc := 2) F 10 dX9_areAlike_2 (by decide) (fun c => ?_) (fun c => ?_)
    · cases v with
      | none =>
        refine j_iload_n (pc := 10) F dX9_areAlike_10 rfl ?_
        refine j_iload_n (pc := 11) F dX9_areAlike_11 rfl ?_
        refine j_icmp_ne (pc := 12) F 19 dX9_areAlike_12 (by decide) (fun c2 => ?_) (fun c2 => ?_)
        · exact absurd rfl c2
        · refine j_iconst (pc := 15) (v := (nI 1)) F dX9_areAlike_15 (by decide) ?_
          refine j_goto (pc := 16) F 20 dX9_areAlike_16 (by decide) ?_
          exact j_iret F hQ rfl rfl (by omega) (by omega) dX9_areAlike_20 ⟨rfl, rfl⟩
      | some x =>
        have := hv x rfl
        refine j_iload_n (pc := 10) F dX9_areAlike_10 rfl ?_
        refine j_iload_n (pc := 11) F dX9_areAlike_11 rfl ?_
        refine j_icmp_ne (pc := 12) F 19 dX9_areAlike_12 (by decide) (fun c2 => ?_) (fun c2 => ?_)
        · refine j_iconst (pc := 19) (v := (nI 0)) F dX9_areAlike_19 (by decide) ?_
          exact j_iret F hQ rfl rfl (by omega) (by omega) dX9_areAlike_20 ⟨rfl, rfl⟩
        · exact absurd c2.symm (oI_m1 (by omega))
    · exact absurd rfl c
  | some x =>
    have hx := hu x rfl
    refine j_iload_n (pc := 0) F dX9_areAlike_0 rfl ?_
    refine j_iconst (pc := 1) (v := (-1)) F dX9_areAlike_1 (by decide) ?_
    refine j_icmp_eq (pc := 2) F 10 dX9_areAlike_2 (by decide) (fun c => ?_) (fun c => ?_)
    · exact absurd c (oI_m1 (by omega))
    cases v with
    | none =>
      refine j_iload_n (pc := 5) F dX9_areAlike_5 rfl ?_
      refine j_iconst (pc := 6) (v := (-1)) F dX9_areAlike_6 (by decide) ?_
      refine j_icmp_ne (pc := 7) F 21 dX9_areAlike_7 (by decide) (fun c2 => ?_) (fun c2 => ?_)
      · exact absurd rfl c2
      · refine j_iload_n (pc := 10) F dX9_areAlike_10 rfl ?_
        refine j_iload_n (pc := 11) F dX9_areAlike_11 rfl ?_
        refine j_icmp_ne (pc := 12) F 19 dX9_areAlike_12 (by decide) (fun c3 => ?_) (fun c3 => ?_)
        · refine j_iconst (pc := 19) (v := (nI 0)) F dX9_areAlike_19 (by decide) ?_
          exact j_iret F hQ rfl rfl (by omega) (by omega) dX9_areAlike_20 ⟨rfl, rfl⟩
        · exact absurd c3 (oI_m1 (by omega))
    | some x2 =>
      have hx2 := hv x2 rfl
      refine j_iload_n (pc := 5) F dX9_areAlike_5 rfl ?_
      refine j_iconst (pc := 6) (v := (-1)) F dX9_areAlike_6 (by decide) ?_
      refine j_icmp_ne (pc := 7) F 21 dX9_areAlike_7 (by decide) (fun c2 => ?_) (fun c2 => ?_)
      · refine j_lv [(0, .ref y), (1, .int (nI x)), (2, .int (nI x2))] ⟨rfl, rfl, rfl, trivial⟩ ?_
        have z1 := w.Z x hx
        have z2 := w.Z x2 hx2
        have z18 := (w.2.2.1.2.2.2 x hx).2.2.1
        have z28 := (w.2.2.1.2.2.2 x2 hx2).2.2.1
        have k1 := (w.2.2.1.2.2.2 x hx).1
        have k2 := (w.2.2.1.2.2.2 x2 hx2).1
        have h301 := (w.2.2.1.2.2.2 x hx).2.2.2.2
        have h302 := (w.2.2.1.2.2.2 x2 hx2).2.2.2.2
        have loop : ∀ m i (be : Bool) (lv : List (Nat × Value)), (sD s).2.2.1 x < i + m → i ≤ (sD s).2.2.1 x → be = decide ((sD s).1 x = (sD s).1 x2 ∧ (sD s).2.2.1 x = (sD s).2.2.1 x2 ∧ ∀ j, j < i → (sD s).2.2.2 x j = (sD s).2.2.2 x2 j) → lall lv [(0, .ref y), (1, .int (nI x)), (2, .int (nI x2)), (3, .int (bI be)), (4, .int (nI i))] → J l X g A 5 0 0 h 60 lv [] := by
          intro m
          induction m with
          | zero => intro i be lv w1 w2; omega
          | succ m ih =>
            intro i be lv w1 w2 w3 w4
            have fin : (i = (sD s).2.2.1 x ∨ be = false) → bI be = bI (!(unl (sD s) (some x) (some x2))) := fun hh => by
              apply congrArg bI
              rw [w3, unl, Bool.not_not, pLike]
              by_cases cp : (sD s).1 x = (sD s).1 x2
              · rw [decide_eq_true cp, Bool.true_and]
                apply decide_eq_decide.mpr
                constructor
                · intro t
                  refine ⟨t.2.1, fun j hj => ?_⟩
                  rcases hh with e | e
                  · exact t.2.2 j (by omega)
                  · rw [w3] at e
                    exact absurd t (of_decide_eq_false e)
                · intro t
                  exact ⟨cp, t.1, fun j hj => t.2 j (by omega)⟩
              · rw [decide_eq_false cp, Bool.false_and]
                exact decide_eq_false (fun t => cp t.1)
            refine j_lv _ w4 ?_
            refine j_iload (pc := 60) F dX9_areAlike_60 rfl ?_
            first | refine j_aload_n (pc := 62) F dX9_areAlike_62 rfl ?_ | refine j_aload_nq (pc := 62) F dX9_areAlike_62 rfl ?_
            refine j_get (pc := 63) F fg_X9_22 (by first | assumption | exact hUp_s) (by rfl) dX9_areAlike_63 ?_
            refine j_iload_n (pc := 66) F dX9_areAlike_66 rfl ?_
            refine j_ialdN (pc := 67) F (by first | assumption | exact hUp_s) (by omega) (by decide) dX9_areAlike_67 ?_
            refine j_int (p7 x hx) ?_
            refine j_icmp_geN (pc := 68) F 114 dX9_areAlike_68 (by decide) (by omega) (by omega) (fun c3 => ?_) (fun c3 => ?_)
            · refine j_iload_n (pc := 114) F dX9_areAlike_114 rfl ?_
              exact j_iret F hQ rfl (bI_n _) (by omega) (by omega) dX9_areAlike_115 ⟨fin (Or.inl (by omega)), rfl⟩
            · refine j_iload_n (pc := 71) F dX9_areAlike_71 rfl ?_
              first | refine j_if_eqB (pc := 72) F 114 dX9_areAlike_72 (by decide) (fun c4 => ?_) (fun c4 => ?_) | refine j_if_eqN (pc := 72) F 114 dX9_areAlike_72 (by decide) (by omega) (fun c4 => ?_) (fun c4 => ?_) | refine j_if_eqI (pc := 72) F 114 dX9_areAlike_72 (by decide) (fun c4 => ?_) (fun c4 => ?_)
              · refine j_iload_n (pc := 114) F dX9_areAlike_114 rfl ?_
                exact j_iret F hQ rfl (bI_n _) (by omega) (by omega) dX9_areAlike_115 ⟨fin (Or.inr c4), rfl⟩
              · have t := of_decide_eq_true (w3.symm.trans c4)
                have q1 := h301 i c3
                have q2 := h302 i (by omega)
                first | refine j_aload_n (pc := 75) F dX9_areAlike_75 rfl ?_ | refine j_aload_nq (pc := 75) F dX9_areAlike_75 rfl ?_
                refine j_get (pc := 76) F fg_X9_25 (by first | assumption | exact hUp_s) (by rfl) dX9_areAlike_76 ?_
                refine j_bipush (pc := 79) (v := (nI 8)) F dX9_areAlike_79 (by decide) ?_
                refine j_iload_n (pc := 81) F dX9_areAlike_81 rfl ?_
                first | refine j_imulN (pc := 82) F dX9_areAlike_82 ?_ | refine j_imul (pc := 82) F dX9_areAlike_82 ?_
                refine j_iload (pc := 83) F dX9_areAlike_83 rfl ?_
                first | refine j_iaddN (pc := 85) F dX9_areAlike_85 ?_ | refine j_iadd (pc := 85) F dX9_areAlike_85 ?_
                refine j_ialdN (pc := 86) F (by first | assumption | exact hUp_s) (by omega) (by decide) dX9_areAlike_86 ?_
                refine j_int (p8 x i hx c3) ?_
                first | refine j_aload_n (pc := 87) F dX9_areAlike_87 rfl ?_ | refine j_aload_nq (pc := 87) F dX9_areAlike_87 rfl ?_
                refine j_get (pc := 88) F fg_X9_25 (by first | assumption | exact hUp_s) (by rfl) dX9_areAlike_88 ?_
                refine j_bipush (pc := 91) (v := (nI 8)) F dX9_areAlike_91 (by decide) ?_
                refine j_iload_n (pc := 93) F dX9_areAlike_93 rfl ?_
                first | refine j_imulN (pc := 94) F dX9_areAlike_94 ?_ | refine j_imul (pc := 94) F dX9_areAlike_94 ?_
                refine j_iload (pc := 95) F dX9_areAlike_95 rfl ?_
                first | refine j_iaddN (pc := 97) F dX9_areAlike_97 ?_ | refine j_iadd (pc := 97) F dX9_areAlike_97 ?_
                refine j_ialdN (pc := 98) F (by first | assumption | exact hUp_s) (by omega) (by decide) dX9_areAlike_98 ?_
                refine j_int (p8 x2 i hx2 (by omega)) ?_
                first | refine j_icmp_neN (pc := 99) F 106 dX9_areAlike_99 (by decide) (by omega) (by omega) (fun c5 => ?_) (fun c5 => ?_) | refine j_icmp_neIN (pc := 99) F 106 dX9_areAlike_99 (by decide) (by omega) (fun c5 => ?_) (fun c5 => ?_) | refine j_icmp_neNI (pc := 99) F 106 dX9_areAlike_99 (by decide) (by omega) (fun c5 => ?_) (fun c5 => ?_) | refine j_icmp_ne (pc := 99) F 106 dX9_areAlike_99 (by decide) (fun c5 => ?_) (fun c5 => ?_)
                · refine j_iconst (pc := 106) (v := (nI 0)) F dX9_areAlike_106 (by decide) ?_
                  refine j_istore_n (pc := 107) F dX9_areAlike_107 (by decide) ?_
                  first | refine j_iincN (pc := 108) F dX9_areAlike_108 rfl (by decide) ?_ | refine j_iincM (pc := 108) F dX9_areAlike_108 rfl (by decide) ?_ | refine j_iinc (pc := 108) F dX9_areAlike_108 rfl rfl (by decide) ?_
                  refine j_goto (pc := 111) F 60 dX9_areAlike_111 (by decide) ?_
                  refine ih (i + 1) false _ (by omega) (by omega) (decide_eq_false (fun t2 => c5 (t2.2.2 i (by omega)))).symm ⟨rfl, rfl, rfl, rfl, rfl, trivial⟩
                · refine j_iconst (pc := 102) (v := (nI 1)) F dX9_areAlike_102 (by decide) ?_
                  refine j_goto (pc := 103) F 107 dX9_areAlike_103 (by decide) ?_
                  refine j_istore_n (pc := 107) F dX9_areAlike_107 (by decide) ?_
                  first | refine j_iincN (pc := 108) F dX9_areAlike_108 rfl (by decide) ?_ | refine j_iincM (pc := 108) F dX9_areAlike_108 rfl (by decide) ?_ | refine j_iinc (pc := 108) F dX9_areAlike_108 rfl rfl (by decide) ?_
                  refine j_goto (pc := 111) F 60 dX9_areAlike_111 (by decide) ?_
                  refine ih (i + 1) true _ (by omega) (by omega) (decide_eq_true ⟨t.1, t.2.1, fun j hj => ?_⟩).symm ⟨rfl, rfl, rfl, rfl, rfl, trivial⟩
                  by_cases e : j = i
                  · rw [e]; exact c5
                  · exact t.2.2 j (by omega)
        first | refine j_aload_n (pc := 21) F dX9_areAlike_21 rfl ?_ | refine j_aload_nq (pc := 21) F dX9_areAlike_21 rfl ?_
        refine j_get (pc := 22) F fg_X9_16 (by first | assumption | exact hUp_s) (by rfl) dX9_areAlike_22 ?_
        refine j_iload_n (pc := 25) F dX9_areAlike_25 rfl ?_
        refine j_ialdN (pc := 26) F (by first | assumption | exact hUp_s) (by omega) (by decide) dX9_areAlike_26 ?_
        refine j_int (p5 x hx) ?_
        first | refine j_aload_n (pc := 27) F dX9_areAlike_27 rfl ?_ | refine j_aload_nq (pc := 27) F dX9_areAlike_27 rfl ?_
        refine j_get (pc := 28) F fg_X9_16 (by first | assumption | exact hUp_s) (by rfl) dX9_areAlike_28 ?_
        refine j_iload_n (pc := 31) F dX9_areAlike_31 rfl ?_
        refine j_ialdN (pc := 32) F (by first | assumption | exact hUp_s) (by omega) (by decide) dX9_areAlike_32 ?_
        refine j_int (p5 x2 hx2) ?_
        first | refine j_icmp_neN (pc := 33) F 55 dX9_areAlike_33 (by decide) (by omega) (by omega) (fun c3 => ?_) (fun c3 => ?_) | refine j_icmp_neIN (pc := 33) F 55 dX9_areAlike_33 (by decide) (by omega) (fun c3 => ?_) (fun c3 => ?_) | refine j_icmp_neNI (pc := 33) F 55 dX9_areAlike_33 (by decide) (by omega) (fun c3 => ?_) (fun c3 => ?_) | refine j_icmp_ne (pc := 33) F 55 dX9_areAlike_33 (by decide) (fun c3 => ?_) (fun c3 => ?_)
        · refine j_iconst (pc := 55) (v := (nI 0)) F dX9_areAlike_55 (by decide) ?_
          refine j_istore_n (pc := 56) F dX9_areAlike_56 (by decide) ?_
          refine j_iconst (pc := 57) (v := (nI 0)) F dX9_areAlike_57 (by decide) ?_
          refine j_istore (pc := 58) F dX9_areAlike_58 (by decide) ?_
          exact loop ((sD s).2.2.1 x + 1) 0 false _ (by omega) (by omega) (decide_eq_false (fun t => c3 t.1)).symm ⟨rfl, rfl, rfl, rfl, rfl, trivial⟩
        · first | refine j_aload_n (pc := 36) F dX9_areAlike_36 rfl ?_ | refine j_aload_nq (pc := 36) F dX9_areAlike_36 rfl ?_
          refine j_get (pc := 37) F fg_X9_22 (by first | assumption | exact hUp_s) (by rfl) dX9_areAlike_37 ?_
          refine j_iload_n (pc := 40) F dX9_areAlike_40 rfl ?_
          refine j_ialdN (pc := 41) F (by first | assumption | exact hUp_s) (by omega) (by decide) dX9_areAlike_41 ?_
          refine j_int (p7 x hx) ?_
          first | refine j_aload_n (pc := 42) F dX9_areAlike_42 rfl ?_ | refine j_aload_nq (pc := 42) F dX9_areAlike_42 rfl ?_
          refine j_get (pc := 43) F fg_X9_22 (by first | assumption | exact hUp_s) (by rfl) dX9_areAlike_43 ?_
          refine j_iload_n (pc := 46) F dX9_areAlike_46 rfl ?_
          refine j_ialdN (pc := 47) F (by first | assumption | exact hUp_s) (by omega) (by decide) dX9_areAlike_47 ?_
          refine j_int (p7 x2 hx2) ?_
          first | refine j_icmp_neN (pc := 48) F 55 dX9_areAlike_48 (by decide) (by omega) (by omega) (fun c4 => ?_) (fun c4 => ?_) | refine j_icmp_neIN (pc := 48) F 55 dX9_areAlike_48 (by decide) (by omega) (fun c4 => ?_) (fun c4 => ?_) | refine j_icmp_neNI (pc := 48) F 55 dX9_areAlike_48 (by decide) (by omega) (fun c4 => ?_) (fun c4 => ?_) | refine j_icmp_ne (pc := 48) F 55 dX9_areAlike_48 (by decide) (fun c4 => ?_) (fun c4 => ?_)
          · refine j_iconst (pc := 55) (v := (nI 0)) F dX9_areAlike_55 (by decide) ?_
            refine j_istore_n (pc := 56) F dX9_areAlike_56 (by decide) ?_
            refine j_iconst (pc := 57) (v := (nI 0)) F dX9_areAlike_57 (by decide) ?_
            refine j_istore (pc := 58) F dX9_areAlike_58 (by decide) ?_
            exact loop ((sD s).2.2.1 x + 1) 0 false _ (by omega) (by omega) (decide_eq_false (fun t => c4 t.2.1)).symm ⟨rfl, rfl, rfl, rfl, rfl, trivial⟩
          · refine j_iconst (pc := 51) (v := (nI 1)) F dX9_areAlike_51 (by decide) ?_
            refine j_goto (pc := 52) F 56 dX9_areAlike_52 (by decide) ?_
            refine j_istore_n (pc := 56) F dX9_areAlike_56 (by decide) ?_
            refine j_iconst (pc := 57) (v := (nI 0)) F dX9_areAlike_57 (by decide) ?_
            refine j_istore (pc := 58) F dX9_areAlike_58 (by decide) ?_
            exact loop ((sD s).2.2.1 x + 1) 0 true _ (by omega) (by omega) (decide_eq_true ⟨c3, c4, fun j hj => absurd hj (Nat.not_lt_zero j)⟩).symm ⟨rfl, rfl, rfl, rfl, rfl, trivial⟩
      · exact absurd c2 (oI_m1 (by omega))
end MP3
