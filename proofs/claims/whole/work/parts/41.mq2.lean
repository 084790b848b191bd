section MQ2
variable {l : Launch} {g : GG} {A : Nat → Prop} {h h1 : HF} {y : Nat} {s s' : SG} {th th' : Nat} {a : Nat → Nat} {CC CC' : CT}
theorem c_X9_announce {p b c : Int32} (w : wf s) (hM : isM g h y s th) : MI l g A h yX9_announce cX9_announce 6 (some .boolean) 3 0 0 [.ref y, .int p, .int b, .int c] (fun r h1 => isM g h1 y (nxt (ncode s p b c) (sUp s (pN p) (pqN b c) (sz s)) s) (ncode s p b c) ∧ (ncode s p b c = 0 → r = bI (decide (tb (sD s) (sm s) (pN p) (pqN b c) = none)))) := by
  obtain ⟨a, CC, z, hC⟩ := hM
  have e0 := z.cl
  have hz8 := w.2.1.1
  have hm3 := w.2.2.1.1
  refine j_met (by decide +kernel) (Nat.le_of_ble_eq_true rfl) (fun X F hn hQ => ?_)
  have exit2 : ∀ (h2 : HF) (t : Nat) (lv : List (Nat × Value)), 0 < t → t < 9 → isMx g h2 y s t a CC → ncode s p b c = t → lall lv [(0, .ref y)] → J l X g A 6 0 0 h2 61 lv [] := by
    intro h2 t lv t0 t9 z2 ec hl
    have e2 := z2.cl
    refine j_lv _ hl ?_
    first | refine j_aload_n (pc := 61) F dX9_announce_61 rfl ?_ | refine j_aload_nq (pc := 61) F dX9_announce_61 rfl ?_
    refine j_get (pc := 62) F fg_X9_47 (by first | assumption | exact hUp_s) (by rfl) dX9_announce_62 ?_
    first | refine j_if_leN (pc := 65) F 70 dX9_announce_65 (by decide) (by omega) (fun c4 => ?_) (fun c4 => ?_) | refine j_if_leI (pc := 65) F 70 dX9_announce_65 (by decide) (fun c4 => ?_) (fun c4 => ?_)
    · omega
    · refine j_iconst (pc := 68) (v := (nI 0)) F dX9_announce_68 (by decide) ?_
      exact j_iret F hQ rfl rfl (by omega) (by omega) dX9_announce_69 ⟨by rw [ec, nxt_n (by omega)]; exact z2.is hC, fun e => by omega⟩
  first | refine j_aload_n (pc := 0) F dX9_announce_0 rfl ?_ | refine j_aload_nq (pc := 0) F dX9_announce_0 rfl ?_
  refine j_iload_n (pc := 1) F dX9_announce_1 rfl ?_
  refine j_ri (j_runS (pc := 2) F (c_X9_isPeer p) m_X9_isPeer ms_X9_isPeer lk_X9_80 ⟨by decide, by decide⟩ (Nat.le_of_ble_eq_true rfl) ⟨by omega, by omega⟩ rfl dX9_announce_2) (fun r h1 hp => ?_)
  obtain ⟨rfl, rfl⟩ := hp
  first | refine j_if_neB (pc := 5) F 12 dX9_announce_5 (by decide) (fun c1 => ?_) (fun c1 => ?_) | refine j_if_neN (pc := 5) F 12 dX9_announce_5 (by decide) (by omega) (fun c1 => ?_) (fun c1 => ?_) | refine j_if_neI (pc := 5) F 12 dX9_announce_5 (by decide) (fun c1 => ?_) (fun c1 => ?_)
  · obtain ⟨n1, n2⟩ := okPeer.n c1
    have r1 : ¬ okPeer p = false := by rw [c1]; simp
    refine j_iload_n (pc := 12) F dX9_announce_12 rfl ?_
    refine j_iload_n (pc := 13) F dX9_announce_13 rfl ?_
    refine j_ri (j_runS (pc := 14) F (c_X9_isPrefix b c) m_X9_isPrefix ms_X9_isPrefix lk_X9_84 ⟨by decide, by decide⟩ (Nat.le_of_ble_eq_true rfl) ⟨by omega, by omega⟩ rfl dX9_announce_14) (fun r h1 hp => ?_)
    obtain ⟨rfl, rfl⟩ := hp
    first | refine j_if_neB (pc := 17) F 24 dX9_announce_17 (by decide) (fun c2 => ?_) (fun c2 => ?_) | refine j_if_neN (pc := 17) F 24 dX9_announce_17 (by decide) (by omega) (fun c2 => ?_) (fun c2 => ?_) | refine j_if_neI (pc := 17) F 24 dX9_announce_17 (by decide) (fun c2 => ?_) (fun c2 => ?_)
    · have r2 : ¬ okPfx b c = false := by rw [c2]; simp
      obtain ⟨m1, m2, m3, m4, -⟩ := okPfx.n c2
      have ec3 : ∀ {P : Prop}, P → (P → ¬ pAt (sz s) (sN s) 0 = p + nI 1 ∨ 300 ≤ sm s) → ncode s p b c = 3 := fun hP hh => by rw [ncode, if_neg r1, if_neg r2, if_pos (hh hP)]
      obtain ⟨f1, q1, p1⟩ := z.a1
      have to3 : ncode s p b c = 3 → ∀ lv, lall lv [(0, .ref y)] → J l X g A 6 0 0 h1 53 lv [.ref y] := fun ec lv hl => by
        refine j_lv _ hl ?_
        refine j_iconst (pc := 53) (v := (nI 3)) F dX9_announce_53 (by decide) ?_
        refine j_goto (pc := 54) F 58 dX9_announce_54 (by decide) ?_
        refine j_put (pc := 58) F fp_X9_47 (by first | assumption | exact hUp_s) (by rfl) (by rfl) (Nat.le_of_ble_eq_true rfl) dX9_announce_58 ?_
        exact exit2 _ 3 _ (by omega) (by omega) (z.tw hUp_s (fun b hb => hUp_n hb)) ec ⟨rfl, trivial⟩
      first | refine j_aload_n (pc := 24) F dX9_announce_24 rfl ?_ | refine j_aload_nq (pc := 24) F dX9_announce_24 rfl ?_
      refine j_get (pc := 25) F fg_X9_77 (by first | assumption | exact hUp_s) (by rfl) dX9_announce_25 ?_
      first | refine j_if_eqB (pc := 28) F 53 dX9_announce_28 (by decide) (fun c3 => ?_) (fun c3 => ?_) | refine j_if_eqN (pc := 28) F 53 dX9_announce_28 (by decide) (by omega) (fun c3 => ?_) (fun c3 => ?_) | refine j_if_eqI (pc := 28) F 53 dX9_announce_28 (by decide) (fun c3 => ?_) (fun c3 => ?_)
      · refine to3 (ec3 c3 (fun t => Or.inl (fun e => ?_))) _ ⟨rfl, trivial⟩
        rw [pAt, if_neg (by omega), n1] at e
        have := congrArg Int32.toInt e
        rw [nI_add, nI_toInt (by omega)] at this
        have e : (-1 : Int32).toInt = -1 := by decide
        omega
      · have p0 : pAt (sz s) (sN s) 0 = nI (sN s 0) := by rw [pAt, if_pos (by omega)]; rfl
        first | refine j_aload_n (pc := 31) F dX9_announce_31 rfl ?_ | refine j_aload_nq (pc := 31) F dX9_announce_31 rfl ?_
        refine j_get (pc := 32) F fg_X9_7 (by first | assumption | exact hUp_s) (by rfl) dX9_announce_32 ?_
        refine j_iconst (pc := 35) (v := (nI 0)) F dX9_announce_35 (by decide) ?_
        refine j_ialdN (pc := 36) F (by first | assumption | exact hUp_s) (by omega) (by decide) dX9_announce_36 ?_
        refine j_int ((p1 0 (by omega)).trans p0.symm) ?_
        refine j_iload_n (pc := 37) F dX9_announce_37 rfl ?_
        refine j_iconst (pc := 38) (v := (nI 1)) F dX9_announce_38 (by decide) ?_
        refine j_iadd (pc := 39) F dX9_announce_39 ?_
        refine j_icmp_ne (pc := 40) F 53 dX9_announce_40 (by decide) (fun c4 => ?_) (fun c4 => ?_)
        · exact to3 (ec3 c4 (fun t => Or.inl t)) _ ⟨rfl, trivial⟩
        · first | refine j_aload_n (pc := 43) F dX9_announce_43 rfl ?_ | refine j_aload_nq (pc := 43) F dX9_announce_43 rfl ?_
          refine j_get (pc := 44) F fg_X9_59 (by first | assumption | exact hUp_s) (by rfl) dX9_announce_44 ?_
          refine j_sipush (pc := 47) (v := (nI 300)) F dX9_announce_47 (by decide) ?_
          first | refine j_icmp_neN (pc := 50) F 57 dX9_announce_50 (by decide) (by omega) (by omega) (fun c5 => ?_) (fun c5 => ?_) | refine j_icmp_neIN (pc := 50) F 57 dX9_announce_50 (by decide) (by omega) (fun c5 => ?_) (fun c5 => ?_) | refine j_icmp_neNI (pc := 50) F 57 dX9_announce_50 (by decide) (by omega) (fun c5 => ?_) (fun c5 => ?_) | refine j_icmp_ne (pc := 50) F 57 dX9_announce_50 (by decide) (fun c5 => ?_) (fun c5 => ?_)
          · have ec : ncode s p b c = 0 := by rw [ncode, if_neg r1, if_neg r2, if_neg (fun t => t.elim (fun t => t c4) (by omega))]
            refine j_iconst (pc := 57) (v := (nI 0)) F dX9_announce_57 (by decide) ?_
            refine j_put (pc := 58) F fp_X9_47 (by first | assumption | exact hUp_s) (by rfl) (by rfl) (Nat.le_of_ble_eq_true rfl) dX9_announce_58 ?_
            generalize hh2 : hUp h1 y _ = h2
            have z2 : isMx g h2 y s 0 a CC := z.tw (by rw [← hh2]; exact hUp_s) (fun b hb => by rw [← hh2]; exact hUp_n hb)
            have e2 := z2.cl
            obtain ⟨f9, q9, p9⟩ := z2.a9
            first | refine j_aload_n (pc := 61) F dX9_announce_61 rfl ?_ | refine j_aload_nq (pc := 61) F dX9_announce_61 rfl ?_
            refine j_get (pc := 62) F fg_X9_47 (by first | assumption | exact hUp_s) (by rfl) dX9_announce_62 ?_
            first | refine j_if_leN (pc := 65) F 70 dX9_announce_65 (by decide) (by omega) (fun c6 => ?_) (fun c6 => ?_) | refine j_if_leI (pc := 65) F 70 dX9_announce_65 (by decide) (fun c6 => ?_) (fun c6 => ?_)
            · refine j_iload_n (pc := 70) F dX9_announce_70 rfl ?_
              refine j_iload_n (pc := 71) F dX9_announce_71 rfl ?_
              refine j_ri (j_runS (pc := 72) F (c_X9_prefixOfX c2) m_X9_prefixOf ms_X9_prefixOf lk_X9_66 ⟨by decide, by decide⟩ (Nat.le_of_ble_eq_true rfl) ⟨by omega, by omega⟩ rfl dX9_announce_72) (fun r h3 hp => ?_)
              obtain ⟨rfl, rfl⟩ := hp
              have hpl := c_X9_placeOf (l := l) (g := g) (A := A) (h := h3) (k := 0) (p := pN p) (q := pqN b c)
              rw [← n1] at hpl
              refine j_istore (pc := 75) F dX9_announce_75 (by decide) ?_
              first | refine j_aload_n (pc := 77) F dX9_announce_77 rfl ?_ | refine j_aload_nq (pc := 77) F dX9_announce_77 rfl ?_
              refine j_get (pc := 78) F fg_X9_28 (by first | assumption | exact hUp_s) (by rfl) dX9_announce_78 ?_
              refine j_iconst (pc := 81) (v := (nI 0)) F dX9_announce_81 (by decide) ?_
              refine j_iload_n (pc := 82) F dX9_announce_82 rfl ?_
              refine j_iload (pc := 83) F dX9_announce_83 rfl ?_
              refine j_ri (j_runS (pc := 85) F (hpl) m_X9_placeOf ms_X9_placeOf lk_X9_55 ⟨by decide, by decide⟩ (Nat.le_of_ble_eq_true rfl) ⟨by omega, by omega⟩ rfl dX9_announce_85) (fun r h4 hp => ?_)
              obtain ⟨rfl, rfl⟩ := hp
              refine j_ialdN (pc := 88) F (by first | assumption | exact hUp_s) (by omega) (by decide) dX9_announce_88 ?_
              refine j_int ((p9 0 (pN p) (pqN b c) (by omega) n2 m4.2).trans (congrArg oI (hC _ _ n2 m4.2))) ?_
              have fin : ∀ (bb : Bool) (lv : List (Nat × Value)), bb = decide (tb (sD s) (sm s) (pN p) (pqN b c) = none) → lall lv [(0, .ref y), (1, .int p), (4, .int (nI (pqN b c))), (5, .int (bI bb))] → J l X g A 6 (0 + 0) (0 + 0) h4 100 lv [] := fun bb lv hbb hl => by
                refine j_lv _ hl ?_
                first | refine j_aload_n (pc := 100) F dX9_announce_100 rfl ?_ | refine j_aload_nq (pc := 100) F dX9_announce_100 rfl ?_
                refine j_iload_n (pc := 101) F dX9_announce_101 rfl ?_
                refine j_iload (pc := 102) F dX9_announce_102 rfl ?_
                first | refine j_aload_n (pc := 104) F dX9_announce_104 rfl ?_ | refine j_aload_nq (pc := 104) F dX9_announce_104 rfl ?_
                refine j_get (pc := 105) F fg_X9_77 (by first | assumption | exact hUp_s) (by rfl) dX9_announce_105 ?_
                have hcu := c_X9_update (l := l) (A := A) w (show sm s < 300 by omega) n2 m4.2 (Or.inr ⟨rfl, by omega⟩) hC z2
                rw [← n1] at hcu
                refine j_rv (j_runV (pc := 108) F (hcu) m_X9_update mv_X9_update lk_X9_88 (by first | assumption | exact hUp_s) rfl ⟨by decide, by decide⟩ (Nat.le_of_ble_eq_true rfl) ⟨by omega, by omega⟩ rfl dX9_announce_108) (fun h5 hp => ?_)
                obtain ⟨CC', z5, hC5⟩ := hp
                refine j_iload (pc := 111) F dX9_announce_111 rfl ?_
                refine j_iret F hQ rfl (bI_n _) (by omega) (by omega) dX9_announce_113 ⟨?_, fun _ => congrArg bI hbb⟩
                rw [ec, nxt_0]
                exact z5.is hC5
              cases hc : tb (sD s) (sm s) (pN p) (pqN b c) with
              | none =>
                refine j_iconst (pc := 89) (v := (-1)) F dX9_announce_89 (by decide) ?_
                refine j_icmp_ne (pc := 90) F 97 dX9_announce_90 (by decide) (fun c7 => ?_) (fun c7 => ?_)
                · exact absurd rfl c7
                · refine j_iconst (pc := 93) (v := (nI 1)) F dX9_announce_93 (by decide) ?_
                  refine j_goto (pc := 94) F 98 dX9_announce_94 (by decide) ?_
                  refine j_istore (pc := 98) F dX9_announce_98 (by decide) ?_
                  exact fin true _ (by rw [hc]; rfl) ⟨rfl, rfl, rfl, rfl, trivial⟩
              | some u =>
                have hu := (tb_lt hc).1
                refine j_iconst (pc := 89) (v := (-1)) F dX9_announce_89 (by decide) ?_
                refine j_icmp_ne (pc := 90) F 97 dX9_announce_90 (by decide) (fun c7 => ?_) (fun c7 => ?_)
                · refine j_iconst (pc := 97) (v := (nI 0)) F dX9_announce_97 (by decide) ?_
                  refine j_istore (pc := 98) F dX9_announce_98 (by decide) ?_
                  exact fin false _ (by rw [hc]; rfl) ⟨rfl, rfl, rfl, rfl, trivial⟩
                · exact absurd c7 (oI_m1 (by omega))
            · omega
          · exact to3 (ec3 c5 (fun t => Or.inr (by omega))) _ ⟨rfl, trivial⟩
    · have ec : ncode s p b c = 2 := by rw [ncode, if_neg r1, if_pos c2]
      refine j_iconst (pc := 20) (v := (nI 2)) F dX9_announce_20 (by decide) ?_
      refine j_goto (pc := 21) F 58 dX9_announce_21 (by decide) ?_
      refine j_put (pc := 58) F fp_X9_47 (by first | assumption | exact hUp_s) (by rfl) (by rfl) (Nat.le_of_ble_eq_true rfl) dX9_announce_58 ?_
      exact exit2 _ 2 _ (by omega) (by omega) (z.tw hUp_s (fun b hb => hUp_n hb)) ec ⟨rfl, trivial⟩
  · have ec : ncode s p b c = 1 := by rw [ncode, if_pos c1]
    refine j_iconst (pc := 8) (v := (nI 1)) F dX9_announce_8 (by decide) ?_
    refine j_goto (pc := 9) F 58 dX9_announce_9 (by decide) ?_
    refine j_put (pc := 58) F fp_X9_47 (by first | assumption | exact hUp_s) (by rfl) (by rfl) (Nat.le_of_ble_eq_true rfl) dX9_announce_58 ?_
    exact exit2 _ 1 _ (by omega) (by omega) (z.tw hUp_s (fun b hb => hUp_n hb)) ec ⟨rfl, trivial⟩
theorem rtv_0 {p b c : Int32} (h : rcode s p b c = 0) : okPeer p = true ∧ okPfx b c = true ∧ ∃ u, tb (sD s) (sm s) (pN p) (pqN b c) = some u ∧ rtv s p b c = some u := by
  unfold rcode at h
  split at h
  · cases h
  · split at h
    · cases h
    · split at h
      · cases h
      · rename_i h1 h2 h3
        have h1 : okPeer p = true := by cases e : okPeer p <;> simp_all
        have h2 : okPfx b c = true := by cases e : okPfx b c <;> simp_all
        refine ⟨h1, h2, ?_⟩
        cases e : tb (sD s) (sm s) (pN p) (pqN b c) with
        | none => exact absurd e h3
        | some u => exact ⟨u, rfl, by rw [rtv, if_pos ⟨h1, h2⟩, e]⟩
theorem c_X9_withdraw {p b c : Int32} (w : wf s) (hM : isM g h y s th) : MI l g A h yX9_withdraw cX9_withdraw 5 (some .int) 4 0 0 [.ref y, .int p, .int b, .int c] (fun r h1 => isM g h1 y (nxt (wcode s p b c) (sUp s (pN p) (pqN b c) 0) s) (wcode s p b c) ∧ (wcode s p b c = 0 → r = vRoutes (sUp s (pN p) (pqN b c) 0) p)) := by
  obtain ⟨a, CC, z, hC⟩ := hM
  have e0 := z.cl
  have hm3 := w.2.2.1.1
  refine j_met (by decide +kernel) (Nat.le_of_ble_eq_true rfl) (fun X F hn hQ => ?_)
  have exit2 : ∀ (h2 : HF) (t : Nat) (lv : List (Nat × Value)), 0 < t → t < 9 → isMx g h2 y s t a CC → wcode s p b c = t → lall lv [(0, .ref y)] → J l X g A 5 (0 + 0) (0 + 0) h2 31 lv [] := by
    intro h2 t lv t0 t9 z2 ec hl
    have e2 := z2.cl
    refine j_lv _ hl ?_
    first | refine j_aload_n (pc := 31) F dX9_withdraw_31 rfl ?_ | refine j_aload_nq (pc := 31) F dX9_withdraw_31 rfl ?_
    refine j_get (pc := 32) F fg_X9_47 (by first | assumption | exact hUp_s) (by rfl) dX9_withdraw_32 ?_
    first | refine j_if_leN (pc := 35) F 40 dX9_withdraw_35 (by decide) (by omega) (fun c4 => ?_) (fun c4 => ?_) | refine j_if_leI (pc := 35) F 40 dX9_withdraw_35 (by decide) (fun c4 => ?_) (fun c4 => ?_)
    · omega
    · refine j_iconst (pc := 38) (v := (nI 0)) F dX9_withdraw_38 (by decide) ?_
      exact j_iret F hQ rfl rfl (by omega) (by omega) dX9_withdraw_39 ⟨by rw [ec, nxt_n (by omega)]; exact z2.is hC, fun e => by omega⟩
  first | refine j_aload_n (pc := 0) F dX9_withdraw_0 rfl ?_ | refine j_aload_nq (pc := 0) F dX9_withdraw_0 rfl ?_
  refine j_iload_n (pc := 1) F dX9_withdraw_1 rfl ?_
  refine j_iload_n (pc := 2) F dX9_withdraw_2 rfl ?_
  refine j_iload_n (pc := 3) F dX9_withdraw_3 rfl ?_
  refine j_ri (j_runV (pc := 4) F (c_X9_route (p := p) (b := b) (c := c) hm3 hC z) m_X9_route mv_X9_route lk_X9_92 (by first | assumption | exact hUp_s) rfl ⟨by decide, by decide⟩ (Nat.le_of_ble_eq_true rfl) ⟨by omega, by omega⟩ rfl dX9_withdraw_4) (fun r h2 hp => ?_)
  obtain ⟨rfl, z2⟩ := hp
  have e2 := z2.cl
  have hr3 : rcode s p b c ≤ 3 := rcode_le
  refine j_istore (pc := 7) F dX9_withdraw_7 (by decide) ?_
  first | refine j_aload_n (pc := 9) F dX9_withdraw_9 rfl ?_ | refine j_aload_nq (pc := 9) F dX9_withdraw_9 rfl ?_
  refine j_get (pc := 10) F fg_X9_47 (by first | assumption | exact hUp_s) (by rfl) dX9_withdraw_10 ?_
  first | refine j_if_neB (pc := 13) F 31 dX9_withdraw_13 (by decide) (fun c1 => ?_) (fun c1 => ?_) | refine j_if_neN (pc := 13) F 31 dX9_withdraw_13 (by decide) (by omega) (fun c1 => ?_) (fun c1 => ?_) | refine j_if_neI (pc := 13) F 31 dX9_withdraw_13 (by decide) (fun c1 => ?_) (fun c1 => ?_)
  · refine exit2 _ _ _ (by omega) (by omega) z2 ?_ ⟨rfl, trivial⟩
    rw [wcode, if_neg c1]
  · obtain ⟨k1, k2, u, hu, hrt⟩ := rtv_0 c1
    obtain ⟨n1, n2⟩ := okPeer.n k1
    obtain ⟨m1, m2, m3, m4, -⟩ := okPfx.n k2
    obtain ⟨t1, t2, t3, -⟩ := tb_lt hu
    rw [hrt]
    refine j_lv [(0, .ref y), (1, .int p), (4, .int (nI u))] ⟨rfl, rfl, rfl, trivial⟩ ?_
    first | refine j_aload_n (pc := 16) F dX9_withdraw_16 rfl ?_ | refine j_aload_nq (pc := 16) F dX9_withdraw_16 rfl ?_
    refine j_get (pc := 17) F fg_X9_59 (by first | assumption | exact hUp_s) (by rfl) dX9_withdraw_17 ?_
    refine j_sipush (pc := 20) (v := (nI 300)) F dX9_withdraw_20 (by decide) ?_
    first | refine j_icmp_neN (pc := 23) F 31 dX9_withdraw_23 (by decide) (by omega) (by omega) (fun c2 => ?_) (fun c2 => ?_) | refine j_icmp_neIN (pc := 23) F 31 dX9_withdraw_23 (by decide) (by omega) (fun c2 => ?_) (fun c2 => ?_) | refine j_icmp_neNI (pc := 23) F 31 dX9_withdraw_23 (by decide) (by omega) (fun c2 => ?_) (fun c2 => ?_) | refine j_icmp_ne (pc := 23) F 31 dX9_withdraw_23 (by decide) (fun c2 => ?_) (fun c2 => ?_)
    · have ec : wcode s p b c = 0 := by rw [wcode, if_pos c1, if_neg (by omega)]
      rw [c1] at z2
      have e3 := z2.cl
      obtain ⟨f6, q6, p6⟩ := z2.a6
      first | refine j_aload_n (pc := 31) F dX9_withdraw_31 rfl ?_ | refine j_aload_nq (pc := 31) F dX9_withdraw_31 rfl ?_
      refine j_get (pc := 32) F fg_X9_47 (by first | assumption | exact hUp_s) (by rfl) dX9_withdraw_32 ?_
      first | refine j_if_leN (pc := 35) F 40 dX9_withdraw_35 (by decide) (by omega) (fun c4 => ?_) (fun c4 => ?_) | refine j_if_leI (pc := 35) F 40 dX9_withdraw_35 (by decide) (fun c4 => ?_) (fun c4 => ?_)
      · first | refine j_aload_n (pc := 40) F dX9_withdraw_40 rfl ?_ | refine j_aload_nq (pc := 40) F dX9_withdraw_40 rfl ?_
        refine j_iload_n (pc := 41) F dX9_withdraw_41 rfl ?_
        first | refine j_aload_n (pc := 42) F dX9_withdraw_42 rfl ?_ | refine j_aload_nq (pc := 42) F dX9_withdraw_42 rfl ?_
        refine j_get (pc := 43) F fg_X9_19 (by first | assumption | exact hUp_s) (by rfl) dX9_withdraw_43 ?_
        refine j_iload (pc := 46) F dX9_withdraw_46 rfl ?_
        refine j_ialdN (pc := 48) F (by first | assumption | exact hUp_s) (by omega) (by decide) dX9_withdraw_48 ?_
        refine j_int ((p6 u t1).trans (congrArg nI t3)) ?_
        refine j_iconst (pc := 49) (v := (nI 0)) F dX9_withdraw_49 (by decide) ?_
        have hcu := c_X9_update (l := l) (A := A) w (show sm s < 300 by omega) n2 m4.2 (Or.inl rfl) hC z2
        rw [← n1] at hcu
        refine j_rv (j_runV (pc := 50) F (hcu) m_X9_update mv_X9_update lk_X9_88 (by first | assumption | exact hUp_s) rfl ⟨by decide, by decide⟩ (Nat.le_of_ble_eq_true rfl) ⟨by omega, by omega⟩ rfl dX9_withdraw_50) (fun h5 hp => ?_)
        obtain ⟨CC', z5, hC5⟩ := hp
        have e5 := z5.cl
        first | refine j_aload_n (pc := 53) F dX9_withdraw_53 rfl ?_ | refine j_aload_nq (pc := 53) F dX9_withdraw_53 rfl ?_
        refine j_iload_n (pc := 54) F dX9_withdraw_54 rfl ?_
        have hcr := c_X9_routesOf (l := l) (A := A) n2 (show sm (sUp s (pN p) (pqN b c) 0) ≤ 300 by show sm s + 1 ≤ 300; omega) (fun q hq => hC5 (pN p) q n2 hq) z5
        rw [← n1] at hcr
        refine j_ri (j_runV (pc := 55) F (hcr) m_X9_routesOf mv_X9_routesOf lk_X9_95 (by first | assumption | exact hUp_s) rfl ⟨by decide, by decide⟩ (Nat.le_of_ble_eq_true rfl) ⟨by omega, by omega⟩ rfl dX9_withdraw_55) (fun r h6 hp => ?_)
        obtain ⟨rfl, rfl⟩ := hp
        refine j_iret F hQ rfl rfl (by omega) (by omega) dX9_withdraw_58 ⟨?_, fun _ => rfl⟩
        rw [ec, nxt_0]
        exact z5.is hC5
      · omega
    · have ec : wcode s p b c = 4 := by rw [wcode, if_pos c1, if_pos (by omega)]
      first | refine j_aload_n (pc := 26) F dX9_withdraw_26 rfl ?_ | refine j_aload_nq (pc := 26) F dX9_withdraw_26 rfl ?_
      refine j_iconst (pc := 27) (v := (nI 4)) F dX9_withdraw_27 (by decide) ?_
      refine j_put (pc := 28) F fp_X9_47 (by first | assumption | exact hUp_s) (by rfl) (by rfl) (Nat.le_of_ble_eq_true rfl) dX9_withdraw_28 ?_
      exact exit2 _ 4 _ (by omega) (by omega) (z2.tw hUp_s (fun b hb => hUp_n hb)) ec ⟨rfl, trivial⟩
theorem c_X9_drop {p : Int32} (w : wf s) (hM : isM g h y s th) : MI l g A h yX9_drop cX9_drop 3 (some .int) 4 0 0 [.ref y, .int p] (fun r h1 => isM g h1 y (nxt (dcode s p) (sUp s (pN p) 0 0) s) (dcode s p) ∧ (dcode s p = 0 → r = vRoutes s p)) := by
  obtain ⟨a, CC, z, hC⟩ := hM
  have e0 := z.cl
  have hm3 := w.2.2.1.1
  refine j_met (by decide +kernel) (Nat.le_of_ble_eq_true rfl) (fun X F hn hQ => ?_)
  have exit2 : ∀ (h2 : HF) (t : Nat) (lv : List (Nat × Value)), 0 < t → t < 9 → isMx g h2 y s t a CC → dcode s p = t → lall lv [(0, .ref y)] → J l X g A 3 (0 + 0) (0 + 0) h2 30 lv [] := by
    intro h2 t lv t0 t9 z2 ec hl
    have e2 := z2.cl
    refine j_lv _ hl ?_
    first | refine j_aload_n (pc := 30) F dX9_drop_30 rfl ?_ | refine j_aload_nq (pc := 30) F dX9_drop_30 rfl ?_
    refine j_get (pc := 31) F fg_X9_47 (by first | assumption | exact hUp_s) (by rfl) dX9_drop_31 ?_
    first | refine j_if_leN (pc := 34) F 39 dX9_drop_34 (by decide) (by omega) (fun c4 => ?_) (fun c4 => ?_) | refine j_if_leI (pc := 34) F 39 dX9_drop_34 (by decide) (fun c4 => ?_) (fun c4 => ?_)
    · omega
    · refine j_iconst (pc := 37) (v := (nI 0)) F dX9_drop_37 (by decide) ?_
      exact j_iret F hQ rfl rfl (by omega) (by omega) dX9_drop_38 ⟨by rw [ec, nxt_n (by omega)]; exact z2.is hC, fun e => by omega⟩
  first | refine j_aload_n (pc := 0) F dX9_drop_0 rfl ?_ | refine j_aload_nq (pc := 0) F dX9_drop_0 rfl ?_
  refine j_iload_n (pc := 1) F dX9_drop_1 rfl ?_
  refine j_ri (j_runS (pc := 2) F (c_X9_isPeer p) m_X9_isPeer ms_X9_isPeer lk_X9_80 ⟨by decide, by decide⟩ (Nat.le_of_ble_eq_true rfl) ⟨by omega, by omega⟩ rfl dX9_drop_2) (fun r h1 hp => ?_)
  obtain ⟨rfl, rfl⟩ := hp
  first | refine j_if_neB (pc := 5) F 12 dX9_drop_5 (by decide) (fun c1 => ?_) (fun c1 => ?_) | refine j_if_neN (pc := 5) F 12 dX9_drop_5 (by decide) (by omega) (fun c1 => ?_) (fun c1 => ?_) | refine j_if_neI (pc := 5) F 12 dX9_drop_5 (by decide) (fun c1 => ?_) (fun c1 => ?_)
  · obtain ⟨n1, n2⟩ := okPeer.n c1
    first | refine j_aload_n (pc := 12) F dX9_drop_12 rfl ?_ | refine j_aload_nq (pc := 12) F dX9_drop_12 rfl ?_
    refine j_get (pc := 13) F fg_X9_59 (by first | assumption | exact hUp_s) (by rfl) dX9_drop_13 ?_
    refine j_sipush (pc := 16) (v := (nI 300)) F dX9_drop_16 (by decide) ?_
    first | refine j_icmp_neN (pc := 19) F 26 dX9_drop_19 (by decide) (by omega) (by omega) (fun c2 => ?_) (fun c2 => ?_) | refine j_icmp_neIN (pc := 19) F 26 dX9_drop_19 (by decide) (by omega) (fun c2 => ?_) (fun c2 => ?_) | refine j_icmp_neNI (pc := 19) F 26 dX9_drop_19 (by decide) (by omega) (fun c2 => ?_) (fun c2 => ?_) | refine j_icmp_ne (pc := 19) F 26 dX9_drop_19 (by decide) (fun c2 => ?_) (fun c2 => ?_)
    · have ec : dcode s p = 0 := by rw [dcode, if_pos c1, if_neg (by omega)]
      refine j_iconst (pc := 26) (v := (nI 0)) F dX9_drop_26 (by decide) ?_
      refine j_put (pc := 27) F fp_X9_47 (by first | assumption | exact hUp_s) (by rfl) (by rfl) (Nat.le_of_ble_eq_true rfl) dX9_drop_27 ?_
      generalize hh2 : hUp h1 y _ = h2
      have z2 : isMx g h2 y s 0 a CC := z.tw (by rw [← hh2]; exact hUp_s) (fun b hb => by rw [← hh2]; exact hUp_n hb)
      have e2 := z2.cl
      first | refine j_aload_n (pc := 30) F dX9_drop_30 rfl ?_ | refine j_aload_nq (pc := 30) F dX9_drop_30 rfl ?_
      refine j_get (pc := 31) F fg_X9_47 (by first | assumption | exact hUp_s) (by rfl) dX9_drop_31 ?_
      first | refine j_if_leN (pc := 34) F 39 dX9_drop_34 (by decide) (by omega) (fun c4 => ?_) (fun c4 => ?_) | refine j_if_leI (pc := 34) F 39 dX9_drop_34 (by decide) (fun c4 => ?_) (fun c4 => ?_)
      · first | refine j_aload_n (pc := 39) F dX9_drop_39 rfl ?_ | refine j_aload_nq (pc := 39) F dX9_drop_39 rfl ?_
        refine j_iload_n (pc := 40) F dX9_drop_40 rfl ?_
        have hcr := c_X9_routesOf (l := l) (A := A) n2 hm3 (fun q hq => hC (pN p) q n2 hq) z2
        rw [← n1] at hcr
        refine j_ri (j_runV (pc := 41) F (hcr) m_X9_routesOf mv_X9_routesOf lk_X9_95 (by first | assumption | exact hUp_s) rfl ⟨by decide, by decide⟩ (Nat.le_of_ble_eq_true rfl) ⟨by omega, by omega⟩ rfl dX9_drop_41) (fun r h6 hp => ?_)
        obtain ⟨rfl, rfl⟩ := hp
        refine j_istore_n (pc := 44) F dX9_drop_44 (by decide) ?_
        first | refine j_aload_n (pc := 45) F dX9_drop_45 rfl ?_ | refine j_aload_nq (pc := 45) F dX9_drop_45 rfl ?_
        refine j_iload_n (pc := 46) F dX9_drop_46 rfl ?_
        refine j_iconst (pc := 47) (v := (nI 0)) F dX9_drop_47 (by decide) ?_
        refine j_iconst (pc := 48) (v := (nI 0)) F dX9_drop_48 (by decide) ?_
        have hcu := c_X9_update (l := l) (A := A) (q := 0) w (show sm s < 300 by omega) n2 (by decide) (Or.inl rfl) hC z2
        rw [← n1] at hcu
        refine j_rv (j_runV (pc := 49) F (hcu) m_X9_update mv_X9_update lk_X9_88 (by first | assumption | exact hUp_s) rfl ⟨by decide, by decide⟩ (Nat.le_of_ble_eq_true rfl) ⟨by omega, by omega⟩ rfl dX9_drop_49) (fun h5 hp => ?_)
        obtain ⟨CC', z5, hC5⟩ := hp
        refine j_iload_n (pc := 52) F dX9_drop_52 rfl ?_
        refine j_iret F hQ rfl rfl (by omega) (by omega) dX9_drop_53 ⟨?_, fun _ => rfl⟩
        rw [ec, nxt_0]
        exact z5.is hC5
      · omega
    · have ec : dcode s p = 2 := by rw [dcode, if_pos c1, if_pos (by omega)]
      refine j_iconst (pc := 22) (v := (nI 2)) F dX9_drop_22 (by decide) ?_
      refine j_goto (pc := 23) F 27 dX9_drop_23 (by decide) ?_
      refine j_put (pc := 27) F fp_X9_47 (by first | assumption | exact hUp_s) (by rfl) (by rfl) (Nat.le_of_ble_eq_true rfl) dX9_drop_27 ?_
      exact exit2 _ 2 _ (by omega) (by omega) (z.tw hUp_s (fun b hb => hUp_n hb)) ec ⟨rfl, trivial⟩
  · have ec : dcode s p = 1 := by rw [dcode, if_neg (by rw [c1]; simp)]
    refine j_iconst (pc := 8) (v := (nI 1)) F dX9_drop_8 (by decide) ?_
    refine j_goto (pc := 9) F 27 dX9_drop_9 (by decide) ?_
    refine j_put (pc := 27) F fp_X9_47 (by first | assumption | exact hUp_s) (by rfl) (by rfl) (Nat.le_of_ble_eq_true rfl) dX9_drop_27 ?_
    exact exit2 _ 1 _ (by omega) (by omega) (z.tw hUp_s (fun b hb => hUp_n hb)) ec ⟨rfl, trivial⟩
end MQ2
