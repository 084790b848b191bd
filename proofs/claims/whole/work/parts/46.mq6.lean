theorem jud_0 {Q B L O : Nat → Nat} {q2 b2 og2 : Nat} : jud 0 Q B L O q2 b2 og2 = 0 := by
  unfold jud
  rw [if_neg (fun ⟨i, h, _⟩ => absurd h (Nat.not_lt_zero i)), if_neg (fun ⟨i, h, _⟩ => absurd h (Nat.not_lt_zero i))]
theorem jud_st {n : Nat} {Q B L O : Nat → Nat} {q2 b2 og2 : Nat} : jud (n + 1) Q B L O q2 b2 og2 = if cov (Q n) (B n) q2 b2 = true then (if ePerm (Q n) (B n) (L n) (O n) q2 b2 og2 = true ∨ jud n Q B L O q2 b2 og2 = 1 then 1 else 2) else jud n Q B L O q2 b2 og2 := by
  have hp : ∀ i, ePerm (Q i) (B i) (L i) (O i) q2 b2 og2 = true → cov (Q i) (B i) q2 b2 = true := fun i h => (of_decide_eq_true h).1
  have hj : jud n Q B L O q2 b2 og2 = 1 ↔ ∃ i, i < n ∧ ePerm (Q i) (B i) (L i) (O i) q2 b2 og2 = true := by
    unfold jud
    by_cases c : ∃ i, i < n ∧ ePerm (Q i) (B i) (L i) (O i) q2 b2 og2 = true
    · rw [if_pos c]; exact iff_of_true rfl c
    · rw [if_neg c]
      refine iff_of_false ?_ c
      split <;> decide
  by_cases c1 : cov (Q n) (B n) q2 b2 = true
  · rw [if_pos c1]
    by_cases c2 : ePerm (Q n) (B n) (L n) (O n) q2 b2 og2 = true ∨ jud n Q B L O q2 b2 og2 = 1
    · rw [if_pos c2]
      unfold jud
      rw [if_pos]
      rcases c2 with c2 | c2
      · exact ⟨n, by omega, c2⟩
      · obtain ⟨i, h1, h2⟩ := hj.mp c2
        exact ⟨i, by omega, h2⟩
    · rw [if_neg c2]
      unfold jud
      rw [if_neg, if_pos ⟨n, by omega, c1⟩]
      rintro ⟨i, h1, h2⟩
      by_cases e : i = n
      · rw [e] at h2; exact c2 (Or.inl h2)
      · exact c2 (Or.inr (hj.mpr ⟨i, by omega, h2⟩))
  · rw [if_neg c1]
    have e1 : (∃ i, i < n + 1 ∧ ePerm (Q i) (B i) (L i) (O i) q2 b2 og2 = true) ↔ ∃ i, i < n ∧ ePerm (Q i) (B i) (L i) (O i) q2 b2 og2 = true := by
      constructor
      · rintro ⟨i, h1, h2⟩
        by_cases e : i = n
        · rw [e] at h2; exact absurd (hp n h2) c1
        · exact ⟨i, by omega, h2⟩
      · rintro ⟨i, h1, h2⟩; exact ⟨i, by omega, h2⟩
    have e2 : (∃ i, i < n + 1 ∧ cov (Q i) (B i) q2 b2 = true) ↔ ∃ i, i < n ∧ cov (Q i) (B i) q2 b2 = true := by
      constructor
      · rintro ⟨i, h1, h2⟩
        by_cases e : i = n
        · rw [e] at h2; exact absurd h2 c1
        · exact ⟨i, by omega, h2⟩
      · rintro ⟨i, h1, h2⟩; exact ⟨i, by omega, h2⟩
    unfold jud
    by_cases c2 : ∃ i, i < n ∧ ePerm (Q i) (B i) (L i) (O i) q2 b2 og2 = true
    · rw [if_pos c2, if_pos (e1.mpr c2)]
    · rw [if_neg c2, if_neg (fun t => c2 (e1.mp t))]
      by_cases c3 : ∃ i, i < n ∧ cov (Q i) (B i) q2 b2 = true
      · rw [if_pos c3, if_pos (e2.mpr c3)]
      · rw [if_neg c3, if_neg (fun t => c3 (e2.mp t))]
theorem jud_le {n : Nat} {Q B L O : Nat → Nat} {q2 b2 og2 : Nat} : jud n Q B L O q2 b2 og2 ≤ 2 := by
  unfold jud
  split
  · omega
  · split <;> omega
section MQ6
variable {l : Launch} {g : GG} {A : Nat → Prop} {h h1 : HF} {y : Nat} {s s' : SG} {th th' : Nat} {a : Nat → Nat} {CC CC' : CT}
theorem c_X9_verdict {p b c : Int32} (w : wf s) (hM : isM g h y s th) : MI l g A h yX9_verdict cX9_verdict 8 (some .int) 4 0 0 [.ref y, .int p, .int b, .int c] (fun r h1 => isM g h1 y s (rcode s p b c) ∧ (rcode s p b c = 0 → ∃ u, tb (sD s) (sm s) (pN p) (pqN b c) = some u ∧ r = vVerd s u)) := by
  obtain ⟨a, CC, z, hC⟩ := hM
  have e0 := z.cl
  have hm := w.2.2.1.1
  have hn20 := w.2.2.2.1.1
  refine j_met (by decide +kernel) (Nat.le_of_ble_eq_true rfl) (fun X F hn hQ => ?_)
  first | refine j_aload_n (pc := 0) F dX9_verdict_0 rfl ?_ | refine j_aload_nq (pc := 0) F dX9_verdict_0 rfl ?_
  refine j_iload_n (pc := 1) F dX9_verdict_1 rfl ?_
  refine j_iload_n (pc := 2) F dX9_verdict_2 rfl ?_
  refine j_iload_n (pc := 3) F dX9_verdict_3 rfl ?_
  refine j_ri (j_runV (pc := 4) F (c_X9_route (p := p) (b := b) (c := c) hm hC z) m_X9_route mv_X9_route lk_X9_92 (by first | assumption | exact hUp_s) rfl ⟨by decide, by decide⟩ (Nat.le_of_ble_eq_true rfl) ⟨by omega, by omega⟩ rfl dX9_verdict_4) (fun r h2 hp => ?_)
  obtain ⟨rfl, z2⟩ := hp
  have e2 := z2.cl
  have hr3 : rcode s p b c ≤ 3 := rcode_le
  by_cases c0 : rcode s p b c = 0
  · obtain ⟨k1, k2, u, hu, hrt⟩ := rtv_0 c0
    obtain ⟨t1, t2, t3, t4⟩ := tb_lt hu
    obtain ⟨hu1, hu2, hu3, hu4, hu5⟩ := w.2.2.1.2.2.2 u t1
    obtain ⟨m1, m2, m3, m4, -⟩ := okPfx.n k2
    have hlog := log2_le m4.2
    have hou := og30 w (pN p) u (okPeer.n k1).2 hu
    obtain ⟨f6, q6, p6⟩ := z2.a6
    obtain ⟨f11, q11, p11⟩ := z2.a11
    obtain ⟨f12, q12, p12⟩ := z2.a12
    obtain ⟨f13, q13, p13⟩ := z2.a13
    rw [hrt]
    have lv3 : lall ([(0, .ref y), (1, .int p), (2, .int b), (3, .int c)] : List (Nat × Value)) [(0, .ref y), (3, .int c)] := ⟨rfl, rfl, trivial⟩
    refine j_lv [(0, .ref y), (3, .int c)] ⟨rfl, rfl, trivial⟩ ?_
    refine j_istore (pc := 7) F dX9_verdict_7 (by decide) ?_
    refine j_iconst (pc := 9) (v := (nI 0)) F dX9_verdict_9 (by decide) ?_
    refine j_istore (pc := 10) F dX9_verdict_10 (by decide) ?_
    refine j_iconst (pc := 12) (v := (nI 0)) F dX9_verdict_12 (by decide) ?_
    refine j_istore (pc := 13) F dX9_verdict_13 (by decide) ?_
    have loop : ∀ m k (lv : List (Nat × Value)), sn s < k + m → k ≤ sn s → lall lv [(0, .ref y), (3, .int c), (4, .int (nI u)), (5, .int (nI (jud k (sQ s) (fun i => Nat.log2 (sQ s i)) (sL s) (sO s) ((sD s).2.1 u) (Nat.log2 ((sD s).2.1 u)) (ogn (sD s) u)))), (6, .int (nI k))] → J l X g A 8 (0 + 0) (0 + 0) h2 15 lv [] := by
      intro m
      induction m with
      | zero => intro k lv q1 q2; omega
      | succ m ih =>
        intro k lv q1 q2 q3
        have hj2 : jud k (sQ s) (fun i => Nat.log2 (sQ s i)) (sL s) (sO s) ((sD s).2.1 u) (Nat.log2 ((sD s).2.1 u)) (ogn (sD s) u) ≤ 2 := jud_le
        refine j_lv _ q3 ?_
        refine j_iload (pc := 15) F dX9_verdict_15 rfl ?_
        first | refine j_aload_n (pc := 17) F dX9_verdict_17 rfl ?_ | refine j_aload_nq (pc := 17) F dX9_verdict_17 rfl ?_
        refine j_get (pc := 18) F fg_X9_117 (by first | assumption | exact hUp_s) (by rfl) dX9_verdict_18 ?_
        first | refine j_icmp_geN (pc := 21) F 109 dX9_verdict_21 (by decide) (by omega) (by omega) (fun c1 => ?_) (fun c1 => ?_) | refine j_icmp_geIN (pc := 21) F 109 dX9_verdict_21 (by decide) (by omega) (fun c1 => ?_) (fun c1 => ?_) | refine j_icmp_geNI (pc := 21) F 109 dX9_verdict_21 (by decide) (by omega) (fun c1 => ?_) (fun c1 => ?_) | refine j_icmp_geI (pc := 21) F 109 dX9_verdict_21 (by decide) (fun c1 => ?_) (fun c1 => ?_)
        · have : k = sn s := by omega
          subst this
          refine j_iload (pc := 109) F dX9_verdict_109 rfl ?_
          exact j_iret F hQ rfl rfl (by omega) (by omega) dX9_verdict_111 ⟨z2.is hC, fun _ => ⟨u, hu, rfl⟩⟩
        · obtain ⟨x1, x2, x3, x4, x5⟩ := w.2.2.2.1.2 k c1
          first | refine j_aload_n (pc := 24) F dX9_verdict_24 rfl ?_ | refine j_aload_nq (pc := 24) F dX9_verdict_24 rfl ?_
          refine j_get (pc := 25) F fg_X9_47 (by first | assumption | exact hUp_s) (by rfl) dX9_verdict_25 ?_
          first | refine j_if_neB (pc := 28) F 109 dX9_verdict_28 (by decide) (fun c2 => ?_) (fun c2 => ?_) | refine j_if_neN (pc := 28) F 109 dX9_verdict_28 (by decide) (by omega) (fun c2 => ?_) (fun c2 => ?_) | refine j_if_neI (pc := 28) F 109 dX9_verdict_28 (by decide) (fun c2 => ?_) (fun c2 => ?_)
          · omega
          · first | refine j_aload_n (pc := 31) F dX9_verdict_31 rfl ?_ | refine j_aload_nq (pc := 31) F dX9_verdict_31 rfl ?_
            refine j_get (pc := 32) F fg_X9_31 (by first | assumption | exact hUp_s) (by rfl) dX9_verdict_32 ?_
            refine j_iload (pc := 35) F dX9_verdict_35 rfl ?_
            refine j_ialdN (pc := 37) F (by first | assumption | exact hUp_s) (by omega) (by decide) dX9_verdict_37 ?_
            refine j_int (p11 k c1) ?_
            first | refine j_aload_n (pc := 38) F dX9_verdict_38 rfl ?_ | refine j_aload_nq (pc := 38) F dX9_verdict_38 rfl ?_
            refine j_get (pc := 39) F fg_X9_19 (by first | assumption | exact hUp_s) (by rfl) dX9_verdict_39 ?_
            refine j_iload (pc := 42) F dX9_verdict_42 rfl ?_
            refine j_ialdN (pc := 44) F (by first | assumption | exact hUp_s) (by omega) (by decide) dX9_verdict_44 ?_
            refine j_int (p6 u t1) ?_
            refine j_ri (j_runS (pc := 45) F (c_X9_covers (q := sQ s k) (q2 := (sD s).2.1 u) ⟨x1, x2⟩ ⟨by omega, by omega⟩) m_X9_covers ms_X9_covers lk_X9_120 ⟨by decide, by decide⟩ (Nat.le_of_ble_eq_true rfl) ⟨by omega, by omega⟩ rfl dX9_verdict_45) (fun r h3 hp => ?_)
            obtain ⟨rfl, rfl⟩ := hp
            have js := jud_st (n := k) (Q := sQ s) (B := fun i => Nat.log2 (sQ s i)) (L := sL s) (O := sO s) (q2 := (sD s).2.1 u) (b2 := Nat.log2 ((sD s).2.1 u)) (og2 := ogn (sD s) u)
            first | refine j_if_eqB (pc := 48) F 103 dX9_verdict_48 (by decide) (fun c3 => ?_) (fun c3 => ?_) | refine j_if_eqN (pc := 48) F 103 dX9_verdict_48 (by decide) (by omega) (fun c3 => ?_) (fun c3 => ?_) | refine j_if_eqI (pc := 48) F 103 dX9_verdict_48 (by decide) (fun c3 => ?_) (fun c3 => ?_)
            · first | refine j_iincN (pc := 103) F dX9_verdict_103 rfl (by decide) ?_ | refine j_iincM (pc := 103) F dX9_verdict_103 rfl (by decide) ?_ | refine j_iinc (pc := 103) F dX9_verdict_103 rfl rfl (by decide) ?_
              refine j_goto (pc := 106) F 15 dX9_verdict_106 (by decide) ?_
              refine ih (k + 1) _ (by omega) (by omega) ⟨rfl, rfl, rfl, ?_, rfl, trivial⟩
              rw [js, if_neg (by show ¬ cov (sQ s k) (Nat.log2 (sQ s k)) _ _ = true; rw [c3]; simp)]
              rfl
            · have en : ∀ bb : Bool, bb = ePerm (sQ s k) (Nat.log2 (sQ s k)) (sL s k) (sO s k) ((sD s).2.1 u) (Nat.log2 ((sD s).2.1 u)) (ogn (sD s) u) → ∀ lv, lall lv [(0, .ref y), (3, .int c), (4, .int (nI u)), (5, .int (nI (jud k (sQ s) (fun i => Nat.log2 (sQ s i)) (sL s) (sO s) ((sD s).2.1 u) (Nat.log2 ((sD s).2.1 u)) (ogn (sD s) u)))), (6, .int (nI k)), (7, .int (bI bb))] → J l X g A 8 (0 + 0 + 0) (0 + 0 + 0) h3 85 lv [] := by
                intro bb hbb lv hl
                have js2 : jud (k + 1) (sQ s) (fun i => Nat.log2 (sQ s i)) (sL s) (sO s) ((sD s).2.1 u) (Nat.log2 ((sD s).2.1 u)) (ogn (sD s) u) = if bb = true ∨ jud k (sQ s) (fun i => Nat.log2 (sQ s i)) (sL s) (sO s) ((sD s).2.1 u) (Nat.log2 ((sD s).2.1 u)) (ogn (sD s) u) = 1 then 1 else 2 := by
                  rw [js, if_pos (show cov (sQ s k) (Nat.log2 (sQ s k)) _ _ = true from c3), hbb]
                refine j_lv _ hl ?_
                refine j_iload (pc := 85) F dX9_verdict_85 rfl ?_
                first | refine j_if_neB (pc := 87) F 96 dX9_verdict_87 (by decide) (fun c4 => ?_) (fun c4 => ?_) | refine j_if_neN (pc := 87) F 96 dX9_verdict_87 (by decide) (by omega) (fun c4 => ?_) (fun c4 => ?_) | refine j_if_neI (pc := 87) F 96 dX9_verdict_87 (by decide) (fun c4 => ?_) (fun c4 => ?_)
                · refine j_iconst (pc := 96) (v := (nI 1)) F dX9_verdict_96 (by decide) ?_
                  refine j_goto (pc := 97) F 101 dX9_verdict_97 (by decide) ?_
                  refine j_istore (pc := 101) F dX9_verdict_101 (by decide) ?_
                  first | refine j_iincN (pc := 103) F dX9_verdict_103 rfl (by decide) ?_ | refine j_iincM (pc := 103) F dX9_verdict_103 rfl (by decide) ?_ | refine j_iinc (pc := 103) F dX9_verdict_103 rfl rfl (by decide) ?_
                  refine j_goto (pc := 106) F 15 dX9_verdict_106 (by decide) ?_
                  refine ih (k + 1) _ (by omega) (by omega) ⟨rfl, rfl, rfl, ?_, rfl, trivial⟩
                  rw [js2, if_pos (Or.inl c4)]
                  rfl
                · refine j_iload (pc := 90) F dX9_verdict_90 rfl ?_
                  refine j_iconst (pc := 92) (v := (nI 1)) F dX9_verdict_92 (by decide) ?_
                  refine j_icmp_neN (pc := 93) F 100 dX9_verdict_93 (by decide) (by omega) (by omega) (fun c5 => ?_) (fun c5 => ?_)
                  · refine j_iconst (pc := 100) (v := (nI 2)) F dX9_verdict_100 (by decide) ?_
                    refine j_istore (pc := 101) F dX9_verdict_101 (by decide) ?_
                    first | refine j_iincN (pc := 103) F dX9_verdict_103 rfl (by decide) ?_ | refine j_iincM (pc := 103) F dX9_verdict_103 rfl (by decide) ?_ | refine j_iinc (pc := 103) F dX9_verdict_103 rfl rfl (by decide) ?_
                    refine j_goto (pc := 106) F 15 dX9_verdict_106 (by decide) ?_
                    refine ih (k + 1) _ (by omega) (by omega) ⟨rfl, rfl, rfl, ?_, rfl, trivial⟩
                    rw [js2, if_neg (fun t => t.elim (fun t => by rw [c4] at t; cases t) (fun t => c5 t))]
                    rfl
                  · refine j_iconst (pc := 96) (v := (nI 1)) F dX9_verdict_96 (by decide) ?_
                    refine j_goto (pc := 97) F 101 dX9_verdict_97 (by decide) ?_
                    refine j_istore (pc := 101) F dX9_verdict_101 (by decide) ?_
                    first | refine j_iincN (pc := 103) F dX9_verdict_103 rfl (by decide) ?_ | refine j_iincM (pc := 103) F dX9_verdict_103 rfl (by decide) ?_ | refine j_iinc (pc := 103) F dX9_verdict_103 rfl rfl (by decide) ?_
                    refine j_goto (pc := 106) F 15 dX9_verdict_106 (by decide) ?_
                    refine ih (k + 1) _ (by omega) (by omega) ⟨rfl, rfl, rfl, ?_, rfl, trivial⟩
                    rw [js2, if_pos (Or.inr c5)]
                    rfl
              first | refine j_aload_n (pc := 51) F dX9_verdict_51 rfl ?_ | refine j_aload_nq (pc := 51) F dX9_verdict_51 rfl ?_
              refine j_get (pc := 52) F fg_X9_37 (by first | assumption | exact hUp_s) (by rfl) dX9_verdict_52 ?_
              refine j_iload (pc := 55) F dX9_verdict_55 rfl ?_
              refine j_ialdN (pc := 57) F (by first | assumption | exact hUp_s) (by omega) (by decide) dX9_verdict_57 ?_
              refine j_int (p13 k c1) ?_
              first | refine j_aload_n (pc := 58) F dX9_verdict_58 rfl ?_ | refine j_aload_nq (pc := 58) F dX9_verdict_58 rfl ?_
              refine j_iload (pc := 59) F dX9_verdict_59 rfl ?_
              refine j_ri (j_runV (pc := 61) F (c_X9_origin t1 hm ⟨t4.2, hu3⟩ z2) m_X9_origin mv_X9_origin lk_X9_111 (by first | assumption | exact hUp_s) rfl ⟨by decide, by decide⟩ (Nat.le_of_ble_eq_true rfl) ⟨by omega, by omega⟩ rfl dX9_verdict_61) (fun r h4 hp => ?_)
              obtain ⟨rfl, rfl⟩ := hp
              refine j_icmp_neN (pc := 64) F 82 dX9_verdict_64 (by decide) (by omega) (by omega) (fun c4 => ?_) (fun c4 => ?_)
              · refine j_iconst (pc := 82) (v := (nI 0)) F dX9_verdict_82 (by decide) ?_
                refine j_istore (pc := 83) F dX9_verdict_83 (by decide) ?_
                exact en false (decide_eq_false (fun t => c4 t.2.1)).symm _ ⟨rfl, rfl, rfl, rfl, rfl, rfl, trivial⟩
              · first | refine j_aload_n (pc := 67) F dX9_verdict_67 rfl ?_ | refine j_aload_nq (pc := 67) F dX9_verdict_67 rfl ?_
                refine j_get (pc := 68) F fg_X9_34 (by first | assumption | exact hUp_s) (by rfl) dX9_verdict_68 ?_
                refine j_iload (pc := 71) F dX9_verdict_71 rfl ?_
                refine j_ialdN (pc := 73) F (by first | assumption | exact hUp_s) (by omega) (by decide) dX9_verdict_73 ?_
                refine j_int (p12 k c1) ?_
                refine j_iload_n (pc := 74) F dX9_verdict_74 rfl ?_
                have e3 : (c : Int32) = nI (Nat.log2 (pqN b c)) := m2
                refine j_int (y := nI (Nat.log2 (pqN b c))) e3 ?_
                refine j_icmp_ltN (pc := 75) F 82 dX9_verdict_75 (by decide) (by omega) (by omega) (fun c5 => ?_) (fun c5 => ?_)
                · refine j_iconst (pc := 82) (v := (nI 0)) F dX9_verdict_82 (by decide) ?_
                  refine j_istore (pc := 83) F dX9_verdict_83 (by decide) ?_
                  refine en false (decide_eq_false (fun t => ?_)).symm _ ⟨rfl, rfl, rfl, rfl, rfl, rfl, trivial⟩
                  have := t.2.2
                  rw [t3] at this
                  omega
                · refine j_iconst (pc := 78) (v := (nI 1)) F dX9_verdict_78 (by decide) ?_
                  refine j_goto (pc := 79) F 83 dX9_verdict_79 (by decide) ?_
                  refine j_istore (pc := 83) F dX9_verdict_83 (by decide) ?_
                  exact en true (decide_eq_true ⟨c3, c4, by rw [t3]; exact c5⟩).symm _ ⟨rfl, rfl, rfl, rfl, rfl, rfl, trivial⟩
    refine loop (sn s + 1) 0 _ (by omega) (Nat.zero_le _) ⟨rfl, rfl, rfl, ?_, rfl, trivial⟩
    rw [jud_0]
    rfl
  · refine j_istore (pc := 7) F dX9_verdict_7 (by decide) ?_
    refine j_iconst (pc := 9) (v := (nI 0)) F dX9_verdict_9 (by decide) ?_
    refine j_istore (pc := 10) F dX9_verdict_10 (by decide) ?_
    refine j_iconst (pc := 12) (v := (nI 0)) F dX9_verdict_12 (by decide) ?_
    refine j_istore (pc := 13) F dX9_verdict_13 (by decide) ?_
    refine j_iload (pc := 15) F dX9_verdict_15 rfl ?_
    first | refine j_aload_n (pc := 17) F dX9_verdict_17 rfl ?_ | refine j_aload_nq (pc := 17) F dX9_verdict_17 rfl ?_
    refine j_get (pc := 18) F fg_X9_117 (by first | assumption | exact hUp_s) (by rfl) dX9_verdict_18 ?_
    have ex : ∀ lv, lall lv [(0, .ref y), (5, .int (nI 0))] → J l X g A 8 (0 + 0) (0 + 0) h2 109 lv [] := fun lv hl => by
      refine j_lv _ hl ?_
      refine j_iload (pc := 109) F dX9_verdict_109 rfl ?_
      exact j_iret F hQ rfl rfl (by omega) (by omega) dX9_verdict_111 ⟨z2.is hC, fun e => absurd e c0⟩
    first | refine j_icmp_geN (pc := 21) F 109 dX9_verdict_21 (by decide) (by omega) (by omega) (fun c1 => ?_) (fun c1 => ?_) | refine j_icmp_geIN (pc := 21) F 109 dX9_verdict_21 (by decide) (by omega) (fun c1 => ?_) (fun c1 => ?_) | refine j_icmp_geNI (pc := 21) F 109 dX9_verdict_21 (by decide) (by omega) (fun c1 => ?_) (fun c1 => ?_) | refine j_icmp_geI (pc := 21) F 109 dX9_verdict_21 (by decide) (fun c1 => ?_) (fun c1 => ?_)
    · exact ex _ ⟨rfl, rfl, trivial⟩
    · first | refine j_aload_n (pc := 24) F dX9_verdict_24 rfl ?_ | refine j_aload_nq (pc := 24) F dX9_verdict_24 rfl ?_
      refine j_get (pc := 25) F fg_X9_47 (by first | assumption | exact hUp_s) (by rfl) dX9_verdict_25 ?_
      first | refine j_if_neB (pc := 28) F 109 dX9_verdict_28 (by decide) (fun c2 => ?_) (fun c2 => ?_) | refine j_if_neN (pc := 28) F 109 dX9_verdict_28 (by decide) (by omega) (fun c2 => ?_) (fun c2 => ?_) | refine j_if_neI (pc := 28) F 109 dX9_verdict_28 (by decide) (fun c2 => ?_) (fun c2 => ?_)
      · exact ex _ ⟨rfl, rfl, trivial⟩
      · omega
theorem c_X9_relate {b c v : Int32} (w : wf s) (hM : isM g h y s th) : MI l g A h yX9_relate cX9_relate 5 (some .int) 1 0 0 [.ref y, .int b, .int c, .int v] (fun r h1 => isM g h1 y (nxt (lcode b c v) (sRel s (pN b) (pN c) (pN v)) s) (lcode b c v) ∧ (lcode b c v = 0 → r = nI (sM s (pN b) (pN c)))) := by
  obtain ⟨a, CC, z, hC⟩ := hM
  have e0 := z.cl
  have inN30 : ∀ x : Int32, decide ((nI 1).toInt ≤ x.toInt ∧ x.toInt ≤ (nI 30).toInt) = okNet x := fun x => (inN (by decide) (by decide)).trans (show _ = okNet x from rfl)
  by_cases c0 : okNet b = true ∧ okNet c = true ∧ ¬ b = c ∧ 0 ≤ v.toInt ∧ v.toInt ≤ 3
  · obtain ⟨a1, a2, a3, a4⟩ := c0
    obtain ⟨i, rfl, hi⟩ : ∃ i, b = nI i ∧ 1 ≤ i ∧ i ≤ 30 := ⟨pN b, (okNet.n a1).1, (okNet.n a1).2⟩
    obtain ⟨j, rfl, hj⟩ : ∃ i, c = nI i ∧ 1 ≤ i ∧ i ≤ 30 := ⟨pN c, (okNet.n a2).1, (okNet.n a2).2⟩
    obtain ⟨k, rfl, hk⟩ : ∃ i, v = nI i ∧ i ≤ 3 := ⟨pN v, (nI_pN (by omega)).symm, by unfold pN; omega⟩
    have ec : lcode (nI i) (nI j) (nI k) = 0 := if_pos ⟨a1, a2, a3, a4⟩
    have hij : i ≠ j := fun e => a3 (by rw [e])
    rw [pN_nI (show i < 2 ^ 31 by omega), pN_nI (show j < 2 ^ 31 by omega), pN_nI (show k < 2 ^ 31 by omega), ec, nxt_0]
    refine j_met (by decide +kernel) (Nat.le_of_ble_eq_true rfl) (fun X F hn hQ => ?_)
    first | refine j_aload_n (pc := 0) F dX9_relate_0 rfl ?_ | refine j_aload_nq (pc := 0) F dX9_relate_0 rfl ?_
    refine j_iload_n (pc := 1) F dX9_relate_1 rfl ?_
    refine j_iconst (pc := 2) (v := (nI 1)) F dX9_relate_2 (by decide) ?_
    refine j_bipush (pc := 3) (v := (nI 30)) F dX9_relate_3 (by decide) ?_
    refine j_ri (j_runS (pc := 5) F (c_X9_in _ _ _) m_X9_in ms_X9_in lk_X9_51 ⟨by decide, by decide⟩ (Nat.le_of_ble_eq_true rfl) ⟨by omega, by omega⟩ rfl dX9_relate_5) (fun r h1 hp => ?_)
    obtain ⟨rfl, rfl⟩ := hp
    refine j_int (congrArg bI ((inN30 _).trans a1)) ?_
    first | refine j_if_eqB (pc := 8) F 35 dX9_relate_8 (by decide) (fun d1 => ?_) (fun d1 => ?_) | refine j_if_eqN (pc := 8) F 35 dX9_relate_8 (by decide) (by omega) (fun d1 => ?_) (fun d1 => ?_) | refine j_if_eqI (pc := 8) F 35 dX9_relate_8 (by decide) (fun d1 => ?_) (fun d1 => ?_)
    · cases d1
    refine j_iload_n (pc := 11) F dX9_relate_11 rfl ?_
    refine j_iconst (pc := 12) (v := (nI 1)) F dX9_relate_12 (by decide) ?_
    refine j_bipush (pc := 13) (v := (nI 30)) F dX9_relate_13 (by decide) ?_
    refine j_ri (j_runS (pc := 15) F (c_X9_in _ _ _) m_X9_in ms_X9_in lk_X9_51 ⟨by decide, by decide⟩ (Nat.le_of_ble_eq_true rfl) ⟨by omega, by omega⟩ rfl dX9_relate_15) (fun r h1 hp => ?_)
    obtain ⟨rfl, rfl⟩ := hp
    refine j_int (congrArg bI ((inN30 _).trans a2)) ?_
    first | refine j_if_eqB (pc := 18) F 35 dX9_relate_18 (by decide) (fun d2 => ?_) (fun d2 => ?_) | refine j_if_eqN (pc := 18) F 35 dX9_relate_18 (by decide) (by omega) (fun d2 => ?_) (fun d2 => ?_) | refine j_if_eqI (pc := 18) F 35 dX9_relate_18 (by decide) (fun d2 => ?_) (fun d2 => ?_)
    · cases d2
    refine j_iload_n (pc := 21) F dX9_relate_21 rfl ?_
    refine j_iload_n (pc := 22) F dX9_relate_22 rfl ?_
    refine j_icmp_eq (pc := 23) F 35 dX9_relate_23 (by decide) (fun d3 => ?_) (fun d3 => ?_)
    · exact absurd d3 a3
    refine j_iload_n (pc := 26) F dX9_relate_26 rfl ?_
    refine j_iconst (pc := 27) (v := (nI 0)) F dX9_relate_27 (by decide) ?_
    refine j_iconst (pc := 28) (v := (nI 3)) F dX9_relate_28 (by decide) ?_
    refine j_ri (j_runS (pc := 29) F (c_X9_in _ _ _) m_X9_in ms_X9_in lk_X9_51 ⟨by decide, by decide⟩ (Nat.le_of_ble_eq_true rfl) ⟨by omega, by omega⟩ rfl dX9_relate_29) (fun r h2 hp => ?_)
    obtain ⟨rfl, rfl⟩ := hp
    refine j_int (congrArg bI ((inN (by decide) (by decide)).trans (decide_eq_true (show ((0 : Nat) : Int) ≤ (nI k).toInt ∧ (nI k).toInt ≤ (3 : Nat) from a4)))) ?_
    first | refine j_if_neB (pc := 32) F 39 dX9_relate_32 (by decide) (fun d4 => ?_) (fun d4 => ?_) | refine j_if_neN (pc := 32) F 39 dX9_relate_32 (by decide) (by omega) (fun d4 => ?_) (fun d4 => ?_) | refine j_if_neI (pc := 32) F 39 dX9_relate_32 (by decide) (fun d4 => ?_) (fun d4 => ?_)
    · refine j_iconst (pc := 39) (v := (nI 0)) F dX9_relate_39 (by decide) ?_
      refine j_put (pc := 40) F fp_X9_47 (by first | assumption | exact hUp_s) (by rfl) (by rfl) (Nat.le_of_ble_eq_true rfl) dX9_relate_40 ?_
      generalize hh3 : hUp h2 y _ = h3
      have z3 : isMx g h3 y s 0 a CC := z.tw (by rw [← hh3]; exact hUp_s) (fun b hb => by rw [← hh3]; exact hUp_n hb)
      have e3 := z3.cl
      obtain ⟨f14, q14, p14⟩ := z3.a14
      have y14 := z3.ya (k := 14) rfl
      first | refine j_aload_n (pc := 43) F dX9_relate_43 rfl ?_ | refine j_aload_nq (pc := 43) F dX9_relate_43 rfl ?_
      refine j_get (pc := 44) F fg_X9_47 (by first | assumption | exact hUp_s) (by rfl) dX9_relate_44 ?_
      first | refine j_if_leN (pc := 47) F 52 dX9_relate_47 (by decide) (by omega) (fun d5 => ?_) (fun d5 => ?_) | refine j_if_leI (pc := 47) F 52 dX9_relate_47 (by decide) (fun d5 => ?_) (fun d5 => ?_)
      · first | refine j_aload_n (pc := 52) F dX9_relate_52 rfl ?_ | refine j_aload_nq (pc := 52) F dX9_relate_52 rfl ?_
        refine j_get (pc := 53) F fg_X9_40 (by first | assumption | exact hUp_s) (by rfl) dX9_relate_53 ?_
        refine j_bipush (pc := 56) (v := (nI 31)) F dX9_relate_56 (by decide) ?_
        refine j_iload_n (pc := 58) F dX9_relate_58 rfl ?_
        first | refine j_imulN (pc := 59) F dX9_relate_59 ?_ | refine j_imul (pc := 59) F dX9_relate_59 ?_
        refine j_iload_n (pc := 60) F dX9_relate_60 rfl ?_
        first | refine j_iaddN (pc := 61) F dX9_relate_61 ?_ | refine j_iadd (pc := 61) F dX9_relate_61 ?_
        refine j_ialdN (pc := 62) F (by first | assumption | exact hUp_s) (by omega) (by decide) dX9_relate_62 ?_
        refine j_int (p14 i j (by omega) (by omega)) ?_
        refine j_istore (pc := 63) F dX9_relate_63 (by decide) ?_
        first | refine j_aload_n (pc := 65) F dX9_relate_65 rfl ?_ | refine j_aload_nq (pc := 65) F dX9_relate_65 rfl ?_
        refine j_get (pc := 66) F fg_X9_40 (by first | assumption | exact hUp_s) (by rfl) dX9_relate_66 ?_
        refine j_bipush (pc := 69) (v := (nI 31)) F dX9_relate_69 (by decide) ?_
        refine j_iload_n (pc := 71) F dX9_relate_71 rfl ?_
        first | refine j_imulN (pc := 72) F dX9_relate_72 ?_ | refine j_imul (pc := 72) F dX9_relate_72 ?_
        refine j_iload_n (pc := 73) F dX9_relate_73 rfl ?_
        first | refine j_iaddN (pc := 74) F dX9_relate_74 ?_ | refine j_iadd (pc := 74) F dX9_relate_74 ?_
        refine j_iload_n (pc := 75) F dX9_relate_75 rfl ?_
        refine j_iastN (pc := 76) F (by first | assumption | exact hUp_s) (by omega) (by decide) dX9_relate_76 ?_
        generalize hh4 : hUp h3 (a 14) _ = h4
        have t14 : h4 (a 14) = some (aI g 961 (upd f14 (31 * i + j) (nI k))) := by rw [← hh4]; exact hUp_s
        have g4 : ∀ b, b ≠ a 14 → h4 b = h3 b := fun b hb => by rw [← hh4]; exact hUp_n hb
        have e4 := (g4 y y14).trans e3
        have last : ∀ rv : Int32, rv = nI (revN k) → isMx g (hUp h4 (a 14) (aI g 961 (upd (upd f14 (31 * i + j) (nI k)) (31 * j + i) rv))) y (sRel s i j k) 0 a CC := fun rv hrv => by
          refine ⟨(hUp_n y14).trans e4, fun k2 hk2 => ?_, z3.2.2⟩
          by_cases c14 : k2 = 14
          · subst c14
            refine ⟨_, hUp_s, fun x1 x2 h1 h2 => ?_⟩
            show upd (upd f14 (31 * i + j) (nI k)) (31 * j + i) rv (31 * x1 + x2) = nI (rUp (rUp (sM s) i j k) j i (revN k) x1 x2)
            unfold upd rUp
            by_cases d6 : x1 = j ∧ x2 = i
            · rw [if_pos (by omega), if_pos d6]; exact hrv
            · rw [if_neg (by omega), if_neg d6]
              by_cases d7 : x1 = i ∧ x2 = j
              · rw [if_pos (by omega), if_pos d7]
              · rw [if_neg (by omega), if_neg d7]
                exact p14 x1 x2 h1 h2
          · obtain ⟨fk, x1, x2⟩ := z3.2.1 k2 hk2
            refine ⟨fk, (hUp_n (z3.2.2 k2 14 hk2 rfl c14)).trans ((g4 _ (z3.2.2 k2 14 hk2 rfl c14)).trans x1), ?_⟩
            rcases ix_or hk2 with rfl | rfl | rfl | rfl | rfl | rfl | rfl | rfl | rfl | rfl | rfl <;> first | exact x2 | exact absurd rfl c14
        first | refine j_aload_n (pc := 77) F dX9_relate_77 rfl ?_ | refine j_aload_nq (pc := 77) F dX9_relate_77 rfl ?_
        refine j_get (pc := 78) F fg_X9_40 (by first | assumption | exact hUp_s) (by rfl) dX9_relate_78 ?_
        refine j_bipush (pc := 81) (v := (nI 31)) F dX9_relate_81 (by decide) ?_
        refine j_iload_n (pc := 83) F dX9_relate_83 rfl ?_
        first | refine j_imulN (pc := 84) F dX9_relate_84 ?_ | refine j_imul (pc := 84) F dX9_relate_84 ?_
        refine j_iload_n (pc := 85) F dX9_relate_85 rfl ?_
        first | refine j_iaddN (pc := 86) F dX9_relate_86 ?_ | refine j_iadd (pc := 86) F dX9_relate_86 ?_
        refine j_iload_n (pc := 87) F dX9_relate_87 rfl ?_
        first | refine j_if_neB (pc := 88) F 95 dX9_relate_88 (by decide) (fun d6 => ?_) (fun d6 => ?_) | refine j_if_neN (pc := 88) F 95 dX9_relate_88 (by decide) (by omega) (fun d6 => ?_) (fun d6 => ?_) | refine j_if_neI (pc := 88) F 95 dX9_relate_88 (by decide) (fun d6 => ?_) (fun d6 => ?_)
        · refine j_iconst (pc := 95) (v := (nI 4)) F dX9_relate_95 (by decide) ?_
          refine j_iload_n (pc := 96) F dX9_relate_96 rfl ?_
          refine j_isub (pc := 97) F dX9_relate_97 ?_
          refine j_iastN (pc := 98) F (by first | assumption | exact hUp_s) (by omega) (by decide) dX9_relate_98 ?_
          refine j_iload (pc := 99) F dX9_relate_99 rfl ?_
          refine j_iret F hQ rfl rfl (by omega) (by omega) dX9_relate_101 ⟨⟨a, CC, last _ ?_, hC⟩, fun _ => rfl⟩
          rcases (show k = 1 ∨ k = 2 ∨ k = 3 by omega) with rfl | rfl | rfl <;> decide
        · refine j_iconst (pc := 91) (v := (nI 0)) F dX9_relate_91 (by decide) ?_
          refine j_goto (pc := 92) F 98 dX9_relate_92 (by decide) ?_
          refine j_iastN (pc := 98) F (by first | assumption | exact hUp_s) (by omega) (by decide) dX9_relate_98 ?_
          refine j_iload (pc := 99) F dX9_relate_99 rfl ?_
          refine j_iret F hQ rfl rfl (by omega) (by omega) dX9_relate_101 ⟨⟨a, CC, last _ ?_, hC⟩, fun _ => rfl⟩
          rw [d6]; rfl
      · omega
    · cases d4
  · have ec : lcode b c v = 1 := if_neg c0
    refine j_met (by decide +kernel) (Nat.le_of_ble_eq_true rfl) (fun X F hn hQ => ?_)
    have ex : ∀ lv (h0 : HF), h0 = h → lall lv [(0, .ref y)] → J l X g A 5 0 0 h0 35 lv [.ref y] := fun lv h0 hh0 hl => by
      subst hh0
      refine j_lv _ hl ?_
      refine j_iconst (pc := 35) (v := (nI 1)) F dX9_relate_35 (by decide) ?_
      refine j_goto (pc := 36) F 40 dX9_relate_36 (by decide) ?_
      refine j_put (pc := 40) F fp_X9_47 (by first | assumption | exact hUp_s) (by rfl) (by rfl) (Nat.le_of_ble_eq_true rfl) dX9_relate_40 ?_
      generalize hh3 : hUp h0 y _ = h3
      have z3 : isMx g h3 y s 1 a CC := z.tw (by rw [← hh3]; exact hUp_s) (fun b hb => by rw [← hh3]; exact hUp_n hb)
      have e3 := z3.cl
      first | refine j_aload_n (pc := 43) F dX9_relate_43 rfl ?_ | refine j_aload_nq (pc := 43) F dX9_relate_43 rfl ?_
      refine j_get (pc := 44) F fg_X9_47 (by first | assumption | exact hUp_s) (by rfl) dX9_relate_44 ?_
      first | refine j_if_leN (pc := 47) F 52 dX9_relate_47 (by decide) (by omega) (fun d5 => ?_) (fun d5 => ?_) | refine j_if_leI (pc := 47) F 52 dX9_relate_47 (by decide) (fun d5 => ?_) (fun d5 => ?_)
      · omega
      · refine j_iconst (pc := 50) (v := (nI 0)) F dX9_relate_50 (by decide) ?_
        exact j_iret F hQ rfl rfl (by omega) (by omega) dX9_relate_51 ⟨by rw [ec, nxt_n (by decide)]; exact z3.is hC, fun e => by rw [ec] at e; cases e⟩
    first | refine j_aload_n (pc := 0) F dX9_relate_0 rfl ?_ | refine j_aload_nq (pc := 0) F dX9_relate_0 rfl ?_
    refine j_iload_n (pc := 1) F dX9_relate_1 rfl ?_
    refine j_iconst (pc := 2) (v := (nI 1)) F dX9_relate_2 (by decide) ?_
    refine j_bipush (pc := 3) (v := (nI 30)) F dX9_relate_3 (by decide) ?_
    refine j_ri (j_runS (pc := 5) F (c_X9_in _ _ _) m_X9_in ms_X9_in lk_X9_51 ⟨by decide, by decide⟩ (Nat.le_of_ble_eq_true rfl) ⟨by omega, by omega⟩ rfl dX9_relate_5) (fun r h1 hp => ?_)
    obtain ⟨rfl, rfl⟩ := hp
    refine j_int (congrArg bI (inN30 _)) ?_
    first | refine j_if_eqB (pc := 8) F 35 dX9_relate_8 (by decide) (fun d1 => ?_) (fun d1 => ?_) | refine j_if_eqN (pc := 8) F 35 dX9_relate_8 (by decide) (by omega) (fun d1 => ?_) (fun d1 => ?_) | refine j_if_eqI (pc := 8) F 35 dX9_relate_8 (by decide) (fun d1 => ?_) (fun d1 => ?_)
    · exact ex _ _ rfl ⟨rfl, trivial⟩
    refine j_iload_n (pc := 11) F dX9_relate_11 rfl ?_
    refine j_iconst (pc := 12) (v := (nI 1)) F dX9_relate_12 (by decide) ?_
    refine j_bipush (pc := 13) (v := (nI 30)) F dX9_relate_13 (by decide) ?_
    refine j_ri (j_runS (pc := 15) F (c_X9_in _ _ _) m_X9_in ms_X9_in lk_X9_51 ⟨by decide, by decide⟩ (Nat.le_of_ble_eq_true rfl) ⟨by omega, by omega⟩ rfl dX9_relate_15) (fun r h2 hp => ?_)
    obtain ⟨rfl, rfl⟩ := hp
    refine j_int (congrArg bI (inN30 _)) ?_
    first | refine j_if_eqB (pc := 18) F 35 dX9_relate_18 (by decide) (fun d2 => ?_) (fun d2 => ?_) | refine j_if_eqN (pc := 18) F 35 dX9_relate_18 (by decide) (by omega) (fun d2 => ?_) (fun d2 => ?_) | refine j_if_eqI (pc := 18) F 35 dX9_relate_18 (by decide) (fun d2 => ?_) (fun d2 => ?_)
    · exact ex _ _ rfl ⟨rfl, trivial⟩
    refine j_iload_n (pc := 21) F dX9_relate_21 rfl ?_
    refine j_iload_n (pc := 22) F dX9_relate_22 rfl ?_
    refine j_icmp_eq (pc := 23) F 35 dX9_relate_23 (by decide) (fun d3 => ?_) (fun d3 => ?_)
    · exact ex _ _ rfl ⟨rfl, trivial⟩
    refine j_iload_n (pc := 26) F dX9_relate_26 rfl ?_
    refine j_iconst (pc := 27) (v := (nI 0)) F dX9_relate_27 (by decide) ?_
    refine j_iconst (pc := 28) (v := (nI 3)) F dX9_relate_28 (by decide) ?_
    refine j_ri (j_runS (pc := 29) F (c_X9_in _ _ _) m_X9_in ms_X9_in lk_X9_51 ⟨by decide, by decide⟩ (Nat.le_of_ble_eq_true rfl) ⟨by omega, by omega⟩ rfl dX9_relate_29) (fun r h3 hp => ?_)
    obtain ⟨rfl, rfl⟩ := hp
    refine j_int (congrArg bI (inN (by decide) (by decide))) ?_
    first | refine j_if_neB (pc := 32) F 39 dX9_relate_32 (by decide) (fun d4 => ?_) (fun d4 => ?_) | refine j_if_neN (pc := 32) F 39 dX9_relate_32 (by decide) (by omega) (fun d4 => ?_) (fun d4 => ?_) | refine j_if_neI (pc := 32) F 39 dX9_relate_32 (by decide) (fun d4 => ?_) (fun d4 => ?_)
    · have d4 := of_decide_eq_true d4
      exact absurd ⟨d1, d2, d3, by omega, by omega⟩ c0
    · exact ex _ _ rfl ⟨rfl, trivial⟩
end MQ6
