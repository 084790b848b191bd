section MU
variable {l : Launch} {g : GG} {A : Nat → Prop} {h h1 : HF} {y : Nat} {s s' : SG} {th th' : Nat} {a : Nat → Nat} {CC CC' : CT}
theorem c_X9_update {p q zz : Nat} (w : wf s) (hm : sm s < 300) (hp6 : p < 6) (hq : q < 512) (hz : zz = 0 ∨ (zz = sz s ∧ 0 < q)) (hC : ∀ p q, p < 6 → q < 512 → CC 0 p q = tb (sD s) (sm s) p q) (z : isMx g h y s th a CC) : MVo l g A h yX9_update cX9_update 5 2 0 0 [.ref y, .int (nI p), .int (nI q), .int (nI zz)] (fun h1 => ∃ CC', isMx g h1 y (sUp s p q zz) th a CC' ∧ ∀ p2 q2, p2 < 6 → q2 < 512 → CC' 0 p2 q2 = tb (sD (sUp s p q zz)) (sm (sUp s p q zz)) p2 q2) := by
  have e0 := z.cl
  have hz8 : zz ≤ 8 := by have := w.2.1.1; omega
  have hzs : zz ≤ sz s := by omega
  obtain ⟨f1, q1, p1⟩ := z.a1
  obtain ⟨f4, q4, p4⟩ := z.a4
  obtain ⟨f5, q5, p5⟩ := z.a5
  obtain ⟨f6, q6, p6⟩ := z.a6
  obtain ⟨f7, q7, p7⟩ := z.a7
  obtain ⟨f8, q8, p8⟩ := z.a8
  have y4 := z.ya (k := 4) rfl
  have y5 := z.ya (k := 5) rfl
  have y6 := z.ya (k := 6) rfl
  have y7 := z.ya (k := 7) rfl
  have y8 := z.ya (k := 8) rfl
  have ap := z.2.2
  refine j_met (by decide +kernel) (Nat.le_of_ble_eq_true rfl) (fun X F hn hQ => ?_)
  first | refine j_aload_n (pc := 0) F dX9_update_0 rfl ?_ | refine j_aload_nq (pc := 0) F dX9_update_0 rfl ?_
  refine j_get (pc := 1) F fg_X9_13 (by first | assumption | exact hUp_s) (by rfl) dX9_update_1 ?_
  first | refine j_aload_n (pc := 4) F dX9_update_4 rfl ?_ | refine j_aload_nq (pc := 4) F dX9_update_4 rfl ?_
  refine j_get (pc := 5) F fg_X9_59 (by first | assumption | exact hUp_s) (by rfl) dX9_update_5 ?_
  first | refine j_aload_n (pc := 8) F dX9_update_8 rfl ?_ | refine j_aload_nq (pc := 8) F dX9_update_8 rfl ?_
  refine j_get (pc := 9) F fg_X9_73 (by first | assumption | exact hUp_s) (by rfl) dX9_update_9 ?_
  refine j_iastN (pc := 12) F (by first | assumption | exact hUp_s) (by omega) (by decide) dX9_update_12 ?_
  generalize hh2 : hUp h (a 4) _ = h2
  have t4 : h2 (a 4) = some (aI g 300 (upd f4 (sm s) (nI (sT s)))) := by rw [← hh2]; exact hUp_s
  have g2 : ∀ b, b ≠ a 4 → h2 b = h b := fun b hb => by rw [← hh2]; exact hUp_n hb
  have e2 := (g2 y y4).trans e0
  have q52 := (g2 (a 5) (ap 5 4 rfl rfl (by decide))).trans q5
  first | refine j_aload_n (pc := 13) F dX9_update_13 rfl ?_ | refine j_aload_nq (pc := 13) F dX9_update_13 rfl ?_
  refine j_get (pc := 14) F fg_X9_16 (by first | assumption | exact hUp_s) (by rfl) dX9_update_14 ?_
  first | refine j_aload_n (pc := 17) F dX9_update_17 rfl ?_ | refine j_aload_nq (pc := 17) F dX9_update_17 rfl ?_
  refine j_get (pc := 18) F fg_X9_59 (by first | assumption | exact hUp_s) (by rfl) dX9_update_18 ?_
  refine j_iload_n (pc := 21) F dX9_update_21 rfl ?_
  refine j_iastN (pc := 22) F (by first | assumption | exact hUp_s) (by omega) (by decide) dX9_update_22 ?_
  generalize hh3 : hUp h2 (a 5) _ = h3
  have t5 : h3 (a 5) = some (aI g 300 (upd f5 (sm s) (nI p))) := by rw [← hh3]; exact hUp_s
  have g3 : ∀ b, b ≠ a 4 → b ≠ a 5 → h3 b = h b := fun b hb hb2 => by rw [← hh3, hUp_n hb2]; exact g2 b hb
  have t43 : h3 (a 4) = some (aI g 300 (upd f4 (sm s) (nI (sT s)))) := by rw [← hh3, hUp_n (ap 4 5 rfl rfl (by decide))]; exact t4
  have e3 := (g3 y y4 y5).trans e0
  have q63 := (g3 (a 6) (ap 6 4 rfl rfl (by decide)) (ap 6 5 rfl rfl (by decide))).trans q6
  first | refine j_aload_n (pc := 23) F dX9_update_23 rfl ?_ | refine j_aload_nq (pc := 23) F dX9_update_23 rfl ?_
  refine j_get (pc := 24) F fg_X9_19 (by first | assumption | exact hUp_s) (by rfl) dX9_update_24 ?_
  first | refine j_aload_n (pc := 27) F dX9_update_27 rfl ?_ | refine j_aload_nq (pc := 27) F dX9_update_27 rfl ?_
  refine j_get (pc := 28) F fg_X9_59 (by first | assumption | exact hUp_s) (by rfl) dX9_update_28 ?_
  refine j_iload_n (pc := 31) F dX9_update_31 rfl ?_
  refine j_iastN (pc := 32) F (by first | assumption | exact hUp_s) (by omega) (by decide) dX9_update_32 ?_
  generalize hh4 : hUp h3 (a 6) _ = h4
  have t6 : h4 (a 6) = some (aI g 300 (upd f6 (sm s) (nI q))) := by rw [← hh4]; exact hUp_s
  have g4 : ∀ b, b ≠ a 4 → b ≠ a 5 → b ≠ a 6 → h4 b = h b := fun b hb hb2 hb3 => by rw [← hh4, hUp_n hb3]; exact g3 b hb hb2
  have t44 : h4 (a 4) = some (aI g 300 (upd f4 (sm s) (nI (sT s)))) := by rw [← hh4, hUp_n (ap 4 6 rfl rfl (by decide))]; exact t43
  have t54 : h4 (a 5) = some (aI g 300 (upd f5 (sm s) (nI p))) := by rw [← hh4, hUp_n (ap 5 6 rfl rfl (by decide))]; exact t5
  have e4 := (g4 y y4 y5 y6).trans e0
  have q74 := (g4 (a 7) (ap 7 4 rfl rfl (by decide)) (ap 7 5 rfl rfl (by decide)) (ap 7 6 rfl rfl (by decide))).trans q7
  first | refine j_aload_n (pc := 33) F dX9_update_33 rfl ?_ | refine j_aload_nq (pc := 33) F dX9_update_33 rfl ?_
  refine j_get (pc := 34) F fg_X9_22 (by first | assumption | exact hUp_s) (by rfl) dX9_update_34 ?_
  first | refine j_aload_n (pc := 37) F dX9_update_37 rfl ?_ | refine j_aload_nq (pc := 37) F dX9_update_37 rfl ?_
  refine j_get (pc := 38) F fg_X9_59 (by first | assumption | exact hUp_s) (by rfl) dX9_update_38 ?_
  refine j_iload_n (pc := 41) F dX9_update_41 rfl ?_
  refine j_iastN (pc := 42) F (by first | assumption | exact hUp_s) (by omega) (by decide) dX9_update_42 ?_
  generalize hh5 : hUp h4 (a 7) _ = h5
  have t7 : h5 (a 7) = some (aI g 300 (upd f7 (sm s) (nI zz))) := by rw [← hh5]; exact hUp_s
  have g5 : ∀ b, b ≠ a 4 → b ≠ a 5 → b ≠ a 6 → b ≠ a 7 → h5 b = h b := fun b hb hb2 hb3 hb4 => by rw [← hh5, hUp_n hb4]; exact g4 b hb hb2 hb3
  have t45 : h5 (a 4) = some (aI g 300 (upd f4 (sm s) (nI (sT s)))) := by rw [← hh5, hUp_n (ap 4 7 rfl rfl (by decide))]; exact t44
  have t55 : h5 (a 5) = some (aI g 300 (upd f5 (sm s) (nI p))) := by rw [← hh5, hUp_n (ap 5 7 rfl rfl (by decide))]; exact t54
  have t65 : h5 (a 6) = some (aI g 300 (upd f6 (sm s) (nI q))) := by rw [← hh5, hUp_n (ap 6 7 rfl rfl (by decide))]; exact t6
  have e5 := (g5 y y4 y5 y6 y7).trans e0
  have q85 := (g5 (a 8) (ap 8 4 rfl rfl (by decide)) (ap 8 5 rfl rfl (by decide)) (ap 8 6 rfl rfl (by decide)) (ap 8 7 rfl rfl (by decide))).trans q8
  have q15 := (g5 (a 1) (ap 1 4 rfl rfl (by decide)) (ap 1 5 rfl rfl (by decide)) (ap 1 6 rfl rfl (by decide)) (ap 1 7 rfl rfl (by decide))).trans q1
  refine j_iconst (pc := 43) (v := (nI 0)) F dX9_update_43 (by decide) ?_
  refine j_istore (pc := 44) F dX9_update_44 (by decide) ?_
  have loop : ∀ m j (h6 : HF) (f : Nat → Int32) (lv : List (Nat × Value)), zz < j + m → j ≤ zz → h6 (a 8) = some (aI g 2400 f) → (∀ b, b ≠ a 8 → h6 b = h5 b) → (∀ i, f i = if 8 * sm s ≤ i ∧ i < 8 * sm s + j then nI (sN s (i - 8 * sm s)) else f8 i) → lall lv [(0, .ref y), (1, .int (nI p)), (2, .int (nI q)), (3, .int (nI zz)), (4, .int (nI j))] → J l X g A 5 0 0 h6 46 lv [] := by
    intro m
    induction m with
    | zero => intro j h6 f lv w1 w2; omega
    | succ m ih =>
      intro j h6 f lv w1 w2 w3 w4 w5 w6
      have e6 := (w4 y y8).trans e5
      have q16 := (w4 (a 1) (ap 1 8 rfl rfl (by decide))).trans q15
      refine j_lv _ w6 ?_
      refine j_iload (pc := 46) F dX9_update_46 rfl ?_
      refine j_iload_n (pc := 48) F dX9_update_48 rfl ?_
      first | refine j_icmp_geN (pc := 49) F 80 dX9_update_49 (by decide) (by omega) (by omega) (fun c => ?_) (fun c => ?_) | refine j_icmp_geIN (pc := 49) F 80 dX9_update_49 (by decide) (by omega) (fun c => ?_) (fun c => ?_) | refine j_icmp_geNI (pc := 49) F 80 dX9_update_49 (by decide) (by omega) (fun c => ?_) (fun c => ?_) | refine j_icmp_geI (pc := 49) F 80 dX9_update_49 (by decide) (fun c => ?_) (fun c => ?_)
      · have : j = zz := by omega
        subst this
        first | refine j_aload_n (pc := 80) F dX9_update_80 rfl ?_ | refine j_aload_nq (pc := 80) F dX9_update_80 rfl ?_
        refine j_dup (pc := 81) F dX9_update_81 rfl ?_
        refine j_get (pc := 82) F fg_X9_59 (by first | assumption | exact hUp_s) (by rfl) dX9_update_82 ?_
        refine j_iconst (pc := 85) (v := (nI 1)) F dX9_update_85 (by decide) ?_
        first | refine j_iaddN (pc := 86) F dX9_update_86 ?_ | refine j_iadd (pc := 86) F dX9_update_86 ?_
        refine j_put (pc := 87) F fp_X9_59 (by first | assumption | exact hUp_s) (by rfl) (by rfl) (Nat.le_of_ble_eq_true rfl) dX9_update_87 ?_
        generalize hh7 : hUp h6 y _ = h7
        have t0 : h7 y = some (mC (sUp s p q j) th a) := by rw [← hh7]; exact hUp_s
        have g7 : ∀ b, b ≠ y → h7 b = h6 b := fun b hb => by rw [← hh7]; exact hUp_n hb
        have kp : ∀ k, ix k = true → k ≠ 8 → h7 (a k) = h5 (a k) := fun k hk h8 => (g7 _ (Ne.symm (z.ya hk))).trans (w4 _ (ap k 8 hk rfl h8))
        have kp2 : ∀ k, ix k = true → k ≠ 4 → k ≠ 5 → k ≠ 6 → k ≠ 7 → k ≠ 8 → h7 (a k) = h (a k) := fun k hk c4 c5 c6 c7 c8 => (kp k hk c8).trans (g5 _ (ap k 4 hk rfl c4) (ap k 5 hk rfl c5) (ap k 6 hk rfl c6) (ap k 7 hk rfl c7))
        obtain ⟨d1, d2, d3, d4⟩ := upD_s (D := sD s) (m := sm s) (p := p) (q := q) (z := j) (N := sN s)
        have z7 : isMx g h7 y (sUp s p q j) th a CC := by
          refine ⟨t0, fun k hk => ?_, ap⟩
          by_cases c4 : k = 4
          · subst c4
            refine ⟨_, (kp 4 rfl (by decide)).trans t45, fun u hu => ?_⟩
            show upd f4 (sm s) (nI (sT s)) u = nI (if u = sm s then sT s else sTm s u)
            have hu : u < sm s + 1 := hu
            unfold upd
            by_cases c : u = sm s
            · rw [if_pos c, if_pos c]
            · rw [if_neg c, if_neg c]; exact p4 u (by omega)
          by_cases c5 : k = 5
          · subst c5
            refine ⟨_, (kp 5 rfl (by decide)).trans t55, fun u hu => ?_⟩
            have hu : u < sm s + 1 := hu
            show upd f5 (sm s) (nI p) u = nI ((upD (sD s) (sm s) p q j (sN s)).1 u)
            unfold upd
            by_cases c : u = sm s
            · rw [if_pos c, c, d1]
            · rw [if_neg c, (upD_n c).1]; exact p5 u (by omega)
          by_cases c6 : k = 6
          · subst c6
            refine ⟨_, (kp 6 rfl (by decide)).trans t65, fun u hu => ?_⟩
            have hu : u < sm s + 1 := hu
            show upd f6 (sm s) (nI q) u = nI ((upD (sD s) (sm s) p q j (sN s)).2.1 u)
            unfold upd
            by_cases c : u = sm s
            · rw [if_pos c, c, d2]
            · rw [if_neg c, (upD_n c).2.1]; exact p6 u (by omega)
          by_cases c7 : k = 7
          · subst c7
            refine ⟨_, (kp 7 rfl (by decide)).trans t7, fun u hu => ?_⟩
            have hu : u < sm s + 1 := hu
            show upd f7 (sm s) (nI j) u = nI ((upD (sD s) (sm s) p q j (sN s)).2.2.1 u)
            unfold upd
            by_cases c : u = sm s
            · rw [if_pos c, c, d3]
            · rw [if_neg c, (upD_n c).2.2.1]; exact p7 u (by omega)
          by_cases c8 : k = 8
          · subst c8
            refine ⟨f, (g7 _ (Ne.symm y8)).trans w3, fun u i hu hi => ?_⟩
            have hu : u < sm s + 1 := hu
            have hi : i < (upD (sD s) (sm s) p q j (sN s)).2.2.1 u := hi
            show f (8 * u + i) = nI ((upD (sD s) (sm s) p q j (sN s)).2.2.2 u i)
            rw [w5]
            by_cases c : u = sm s
            · subst c
              rw [d3] at hi
              rw [d4, if_pos (by omega), Nat.add_sub_cancel_left]
            · obtain ⟨-, -, o3, o4⟩ := upD_n (D := sD s) (p := p) (q := q) (z := j) (N := sN s) c
              rw [o3] at hi
              have := (w.2.2.1.2.2.2 u (by omega)).2.2.1
              rw [o4, if_neg (by omega)]
              exact p8 u i (by omega) hi
          obtain ⟨fk, x1, x2⟩ := z.2.1 k hk
          refine ⟨fk, (kp2 k hk c4 c5 c6 c7 c8).trans x1, ?_⟩
          rcases ix_or hk with rfl | rfl | rfl | rfl | rfl | rfl | rfl | rfl | rfl | rfl | rfl <;> first | exact x2 | (exact absurd rfl ‹_›)
        have w7 := w.up (p := p) (q := q) (z := j) hm hp6 hq hz
        have e7 := z7.cl
        have hs1 : sm (sUp s p q j) = sm s + 1 := rfl
        first | refine j_aload_n (pc := 90) F dX9_update_90 rfl ?_ | refine j_aload_nq (pc := 90) F dX9_update_90 rfl ?_
        refine j_iconst (pc := 91) (v := (nI 0)) F dX9_update_91 (by decide) ?_
        first | refine j_aload_n (pc := 92) F dX9_update_92 rfl ?_ | refine j_aload_nq (pc := 92) F dX9_update_92 rfl ?_
        refine j_get (pc := 93) F fg_X9_59 (by first | assumption | exact hUp_s) (by rfl) dX9_update_93 ?_
        refine j_iconst (pc := 96) (v := (nI 1)) F dX9_update_96 (by decide) ?_
        first | refine j_isubN (pc := 97) F dX9_update_97 (by omega) ?_ | refine j_isub (pc := 97) F dX9_update_97 ?_
        refine j_rv (j_runV (pc := 98) F (c_X9_apply (u := sm s) (by decide) (show sm s < sm (sUp s p q j) by rw [hs1]; omega) (w7.2.2.1.2.2.2 (sm s) (by rw [hs1]; omega)) w7.2.2.1.1 z7) m_X9_apply mv_X9_apply lk_X9_62 (by first | assumption | exact hUp_s) rfl ⟨by decide, by decide⟩ (Nat.le_of_ble_eq_true rfl) ⟨by omega, by omega⟩ rfl dX9_update_98) (fun h8 hp => ?_)
        obtain ⟨z8, -⟩ := hp
        refine j_vret F hQ rfl (by omega) (by omega) dX9_update_101 ⟨_, z8, fun p2 q2 h1 h2 => ?_⟩
        rw [ctUp_s]
        show stepD (upD (sD s) (sm s) p q j (sN s)) (sm s) (CC 0) p2 q2 = tb (upD (sD s) (sm s) p q j (sN s)) (sm s + 1) p2 q2
        rw [tb_new, stepD, d1, d2, d3, hC p2 q2 h1 h2]
      · first | refine j_aload_n (pc := 52) F dX9_update_52 rfl ?_ | refine j_aload_nq (pc := 52) F dX9_update_52 rfl ?_
        refine j_get (pc := 53) F fg_X9_25 (by first | assumption | exact hUp_s) (by rfl) dX9_update_53 ?_
        refine j_bipush (pc := 56) (v := (nI 8)) F dX9_update_56 (by decide) ?_
        first | refine j_aload_n (pc := 58) F dX9_update_58 rfl ?_ | refine j_aload_nq (pc := 58) F dX9_update_58 rfl ?_
        refine j_get (pc := 59) F fg_X9_59 (by first | assumption | exact hUp_s) (by rfl) dX9_update_59 ?_
        first | refine j_imulN (pc := 62) F dX9_update_62 ?_ | refine j_imul (pc := 62) F dX9_update_62 ?_
        refine j_iload (pc := 63) F dX9_update_63 rfl ?_
        first | refine j_iaddN (pc := 65) F dX9_update_65 ?_ | refine j_iadd (pc := 65) F dX9_update_65 ?_
        first | refine j_aload_n (pc := 66) F dX9_update_66 rfl ?_ | refine j_aload_nq (pc := 66) F dX9_update_66 rfl ?_
        refine j_get (pc := 67) F fg_X9_7 (by first | assumption | exact hUp_s) (by rfl) dX9_update_67 ?_
        refine j_iload (pc := 70) F dX9_update_70 rfl ?_
        refine j_ialdN (pc := 72) F (by first | assumption | exact hUp_s) (by omega) (by decide) dX9_update_72 ?_
        refine j_int (p1 j (by omega)) ?_
        refine j_iastN (pc := 73) F (by first | assumption | exact hUp_s) (by omega) (by decide) dX9_update_73 ?_
        first | refine j_iincN (pc := 74) F dX9_update_74 rfl (by decide) ?_ | refine j_iincM (pc := 74) F dX9_update_74 rfl (by decide) ?_ | refine j_iinc (pc := 74) F dX9_update_74 rfl rfl (by decide) ?_
        refine j_goto (pc := 77) F 46 dX9_update_77 (by decide) ?_
        refine ih (j + 1) _ _ _ (by omega) (by omega) hUp_s (fun b hb => (hUp_n hb).trans (w4 b hb)) (fun i => ?_) ⟨rfl, rfl, rfl, rfl, rfl, trivial⟩
        unfold upd
        by_cases c3 : i = 8 * sm s + j
        · rw [if_pos c3, if_pos (by omega), c3, Nat.add_sub_cancel_left]
        · rw [if_neg c3, w5]
          by_cases c4 : 8 * sm s ≤ i ∧ i < 8 * sm s + j
          · rw [if_pos c4, if_pos (by omega)]
          · rw [if_neg c4, if_neg (by omega)]
  exact loop (zz + 1) 0 h5 f8 _ (by omega) (by omega) q85 (fun _ _ => rfl) (fun i => by rw [if_neg (by omega)]) ⟨rfl, rfl, rfl, rfl, rfl, trivial⟩
end MU
