def aN (x1 x4 x5 x6 x7 x8 x9 x11 x12 x13 x14 : Nat) : Nat → Nat
  | 1 => x1
  | 4 => x4
  | 5 => x5
  | 6 => x6
  | 7 => x7
  | 8 => x8
  | 9 => x9
  | 11 => x11
  | 12 => x12
  | 13 => x13
  | 14 => x14
  | _ => 0
section MQ7
variable {l : Launch} {g : GG} {A : Nat → Prop} {h h1 : HF} {y : Nat} {s s' : SG} {th th' : Nat} {a : Nat → Nat} {CC CC' : CT}
theorem c_X9_allow {b c lo og : Int32} (w : wf s) (hM : isM g h y s th) : MI l g A h yX9_allow cX9_allow 7 (some .boolean) 2 0 0 [.ref y, .int b, .int c, .int lo, .int og] (fun r h1 => isM g h1 y (nxt (acode s b c lo og) (sAl s (pqN b c) (pN lo) (pN og)) s) (acode s b c lo og) ∧ (acode s b c lo og = 0 → r = bI (decide (sPl s (pqN b c) (pN lo) (pN og) = none)))) := by
  obtain ⟨a, CC, z, hC⟩ := hM
  have e0 := z.cl
  have hn20 := w.2.2.2.1.1
  have inN30 : ∀ x : Int32, decide ((nI 1).toInt ≤ x.toInt ∧ x.toInt ≤ (nI 30).toInt) = okNet x := fun x => (inN (by decide) (by decide)).trans (show _ = okNet x from rfl)
  by_cases c0 : okPfx b c = true ∧ okNet og = true ∧ c.toInt ≤ lo.toInt ∧ lo.toInt ≤ 8
  · obtain ⟨a1, a2, a3, a4⟩ := id c0
    obtain ⟨m1, m2, m3, m4, m5, m6⟩ := okPfx.n a1
    have b0 : 0 ≤ c.toInt := (of_decide_eq_true a1).2.1.1
    obtain ⟨o, rfl, ho⟩ : ∃ i, og = nI i ∧ 1 ≤ i ∧ i ≤ 30 := ⟨pN og, (okNet.n a2).1, (okNet.n a2).2⟩
    obtain ⟨k, rfl, hk⟩ : ∃ i, lo = nI i ∧ i ≤ 8 := ⟨pN lo, (nI_pN (by omega)).symm, by unfold pN; omega⟩
    have eo := pN_nI (show o < 2 ^ 31 by omega)
    have ek := pN_nI (show k < 2 ^ 31 by omega)
    rw [eo, ek]
    generalize hq : pqN b c = q at *
    refine j_met (by decide +kernel) (Nat.le_of_ble_eq_true rfl) (fun X F hn hQ => ?_)
    first | refine j_aload_n (pc := 0) F dX9_allow_0 rfl ?_ | refine j_aload_nq (pc := 0) F dX9_allow_0 rfl ?_
    refine j_iload_n (pc := 1) F dX9_allow_1 rfl ?_
    refine j_iload_n (pc := 2) F dX9_allow_2 rfl ?_
    refine j_ri (j_runS (pc := 3) F (c_X9_isPrefix b c) m_X9_isPrefix ms_X9_isPrefix lk_X9_84 ⟨by decide, by decide⟩ (Nat.le_of_ble_eq_true rfl) ⟨by omega, by omega⟩ rfl dX9_allow_3) (fun r h1 hp => ?_)
    obtain ⟨rfl, rfl⟩ := hp
    rw [a1]
    refine j_int (y := bI true) rfl ?_
    first | refine j_if_eqB (pc := 6) F 30 dX9_allow_6 (by decide) (fun d1 => ?_) (fun d1 => ?_) | refine j_if_eqN (pc := 6) F 30 dX9_allow_6 (by decide) (by omega) (fun d1 => ?_) (fun d1 => ?_) | refine j_if_eqI (pc := 6) F 30 dX9_allow_6 (by decide) (fun d1 => ?_) (fun d1 => ?_)
    · cases d1
    refine j_iload_n (pc := 9) F dX9_allow_9 rfl ?_
    refine j_iload_n (pc := 10) F dX9_allow_10 rfl ?_
    refine j_bipush (pc := 11) (v := (nI 8)) F dX9_allow_11 (by decide) ?_
    refine j_ri (j_runS (pc := 13) F (c_X9_in _ _ _) m_X9_in ms_X9_in lk_X9_51 ⟨by decide, by decide⟩ (Nat.le_of_ble_eq_true rfl) ⟨by omega, by omega⟩ rfl dX9_allow_13) (fun r h2 hp => ?_)
    obtain ⟨rfl, rfl⟩ := hp
    refine j_int (congrArg bI (decide_eq_true (show c.toInt ≤ (nI k).toInt ∧ (nI k).toInt ≤ (nI 8).toInt from ⟨a3, by rw [nI_toInt (show 8 < 2 ^ 31 by decide)]; exact a4⟩))) ?_
    first | refine j_if_eqB (pc := 16) F 30 dX9_allow_16 (by decide) (fun d2 => ?_) (fun d2 => ?_) | refine j_if_eqN (pc := 16) F 30 dX9_allow_16 (by decide) (by omega) (fun d2 => ?_) (fun d2 => ?_) | refine j_if_eqI (pc := 16) F 30 dX9_allow_16 (by decide) (fun d2 => ?_) (fun d2 => ?_)
    · cases d2
    refine j_iload (pc := 19) F dX9_allow_19 rfl ?_
    refine j_iconst (pc := 21) (v := (nI 1)) F dX9_allow_21 (by decide) ?_
    refine j_bipush (pc := 22) (v := (nI 30)) F dX9_allow_22 (by decide) ?_
    refine j_ri (j_runS (pc := 24) F (c_X9_in _ _ _) m_X9_in ms_X9_in lk_X9_51 ⟨by decide, by decide⟩ (Nat.le_of_ble_eq_true rfl) ⟨by omega, by omega⟩ rfl dX9_allow_24) (fun r h3 hp => ?_)
    obtain ⟨rfl, rfl⟩ := hp
    refine j_int (congrArg bI ((inN30 _).trans a2)) ?_
    first | refine j_if_neB (pc := 27) F 34 dX9_allow_27 (by decide) (fun d3 => ?_) (fun d3 => ?_) | refine j_if_neN (pc := 27) F 34 dX9_allow_27 (by decide) (by omega) (fun d3 => ?_) (fun d3 => ?_) | refine j_if_neI (pc := 27) F 34 dX9_allow_27 (by decide) (fun d3 => ?_) (fun d3 => ?_)
    · refine j_iconst (pc := 34) (v := (nI 0)) F dX9_allow_34 (by decide) ?_
      refine j_put (pc := 35) F fp_X9_47 (by first | assumption | exact hUp_s) (by rfl) (by rfl) (Nat.le_of_ble_eq_true rfl) dX9_allow_35 ?_
      generalize hh4 : hUp h3 y _ = h4
      have z4 : isMx g h4 y s 0 a CC := z.tw (by rw [← hh4]; exact hUp_s) (fun b hb => by rw [← hh4]; exact hUp_n hb)
      have e4 := z4.cl
      obtain ⟨f11, q11, p11⟩ := z4.a11
      obtain ⟨f12, q12, p12⟩ := z4.a12
      obtain ⟨f13, q13, p13⟩ := z4.a13
      have y11 := z4.ya (k := 11) rfl
      have y12 := z4.ya (k := 12) rfl
      have y13 := z4.ya (k := 13) rfl
      have ap := z4.2.2
      first | refine j_aload_n (pc := 38) F dX9_allow_38 rfl ?_ | refine j_aload_nq (pc := 38) F dX9_allow_38 rfl ?_
      refine j_get (pc := 39) F fg_X9_47 (by first | assumption | exact hUp_s) (by rfl) dX9_allow_39 ?_
      first | refine j_if_leN (pc := 42) F 47 dX9_allow_42 (by decide) (by omega) (fun d5 => ?_) (fun d5 => ?_) | refine j_if_leI (pc := 42) F 47 dX9_allow_42 (by decide) (fun d5 => ?_) (fun d5 => ?_)
      · refine j_iload_n (pc := 47) F dX9_allow_47 rfl ?_
        refine j_iload_n (pc := 48) F dX9_allow_48 rfl ?_
        refine j_ri (j_runS (pc := 49) F (c_X9_prefixOfX a1) m_X9_prefixOf ms_X9_prefixOf lk_X9_66 ⟨by decide, by decide⟩ (Nat.le_of_ble_eq_true rfl) ⟨by omega, by omega⟩ rfl dX9_allow_49) (fun r h5 hp => ?_)
        obtain ⟨rfl, rfl⟩ := hp
        rw [hq]
        refine j_lv [(0, .ref y), (3, .int (nI k)), (4, .int (nI o))] ⟨rfl, rfl, rfl, trivial⟩ ?_
        refine j_istore (pc := 52) F dX9_allow_52 (by decide) ?_
        refine j_iconst (pc := 54) (v := (nI 0)) F dX9_allow_54 (by decide) ?_
        refine j_istore (pc := 55) F dX9_allow_55 (by decide) ?_
        have loop : ∀ m i (lv : List (Nat × Value)), sn s < i + m → i ≤ sn s → (∀ j, j < i → eLike (sQ s j) (sL s j) (sO s j) q k o = false) → lall lv [(0, .ref y), (3, .int (nI k)), (4, .int (nI o)), (5, .int (nI q)), (6, .int (nI i))] → J l X g A 7 (0 + 0 + 0 + 0 + 0) (0 + 0 + 0 + 0 + 0) h5 57 lv [] := by
          intro m
          induction m with
          | zero => intro i lv q1 q2; omega
          | succ m ih =>
            intro i lv w1 w2 w3 w4
            refine j_lv _ w4 ?_
            refine j_iload (pc := 57) F dX9_allow_57 rfl ?_
            first | refine j_aload_n (pc := 59) F dX9_allow_59 rfl ?_ | refine j_aload_nq (pc := 59) F dX9_allow_59 rfl ?_
            refine j_get (pc := 60) F fg_X9_117 (by first | assumption | exact hUp_s) (by rfl) dX9_allow_60 ?_
            first | refine j_icmp_geN (pc := 63) F 167 dX9_allow_63 (by decide) (by omega) (by omega) (fun d6 => ?_) (fun d6 => ?_) | refine j_icmp_geIN (pc := 63) F 167 dX9_allow_63 (by decide) (by omega) (fun d6 => ?_) (fun d6 => ?_) | refine j_icmp_geNI (pc := 63) F 167 dX9_allow_63 (by decide) (by omega) (fun d6 => ?_) (fun d6 => ?_) | refine j_icmp_geI (pc := 63) F 167 dX9_allow_63 (by decide) (fun d6 => ?_) (fun d6 => ?_)
            · have es : sPl s q k o = none := fp_none (fun j hj => w3 j (by omega))
              first | refine j_aload_n (pc := 167) F dX9_allow_167 rfl ?_ | refine j_aload_nq (pc := 167) F dX9_allow_167 rfl ?_
              first | refine j_aload_n (pc := 168) F dX9_allow_168 rfl ?_ | refine j_aload_nq (pc := 168) F dX9_allow_168 rfl ?_
              refine j_get (pc := 169) F fg_X9_117 (by first | assumption | exact hUp_s) (by rfl) dX9_allow_169 ?_
              refine j_bipush (pc := 172) (v := (nI 20)) F dX9_allow_172 (by decide) ?_
              first | refine j_icmp_neN (pc := 174) F 181 dX9_allow_174 (by decide) (by omega) (by omega) (fun d7 => ?_) (fun d7 => ?_) | refine j_icmp_neIN (pc := 174) F 181 dX9_allow_174 (by decide) (by omega) (fun d7 => ?_) (fun d7 => ?_) | refine j_icmp_neNI (pc := 174) F 181 dX9_allow_174 (by decide) (by omega) (fun d7 => ?_) (fun d7 => ?_) | refine j_icmp_ne (pc := 174) F 181 dX9_allow_174 (by decide) (fun d7 => ?_) (fun d7 => ?_)
              · have ec : acode s b c (nI k) (nI o) = 0 := by rw [acode, if_pos c0, hq, eo, ek, if_neg (by omega)]
                refine j_iconst (pc := 181) (v := (nI 0)) F dX9_allow_181 (by decide) ?_
                refine j_put (pc := 182) F fp_X9_47 (by first | assumption | exact hUp_s) (by rfl) (by rfl) (Nat.le_of_ble_eq_true rfl) dX9_allow_182 ?_
                generalize hh6 : hUp h5 y _ = h6
                have z6 : isMx g h6 y s 0 a CC := z4.tw (by rw [← hh6]; exact hUp_s) (fun b hb => by rw [← hh6]; exact hUp_n hb)
                have g6 : ∀ b, b ≠ y → h6 b = h5 b := fun b hb => by rw [← hh6]; exact hUp_n hb
                have e6 := z6.cl
                have r11 := (g6 _ (Ne.symm y11)).trans q11
                first | refine j_aload_n (pc := 185) F dX9_allow_185 rfl ?_ | refine j_aload_nq (pc := 185) F dX9_allow_185 rfl ?_
                refine j_get (pc := 186) F fg_X9_47 (by first | assumption | exact hUp_s) (by rfl) dX9_allow_186 ?_
                first | refine j_if_leN (pc := 189) F 194 dX9_allow_189 (by decide) (by omega) (fun d8 => ?_) (fun d8 => ?_) | refine j_if_leI (pc := 189) F 194 dX9_allow_189 (by decide) (fun d8 => ?_) (fun d8 => ?_)
                · first | refine j_aload_n (pc := 194) F dX9_allow_194 rfl ?_ | refine j_aload_nq (pc := 194) F dX9_allow_194 rfl ?_
                  refine j_get (pc := 195) F fg_X9_31 (by first | assumption | exact hUp_s) (by rfl) dX9_allow_195 ?_
                  first | refine j_aload_n (pc := 198) F dX9_allow_198 rfl ?_ | refine j_aload_nq (pc := 198) F dX9_allow_198 rfl ?_
                  refine j_get (pc := 199) F fg_X9_117 (by first | assumption | exact hUp_s) (by rfl) dX9_allow_199 ?_
                  refine j_iload (pc := 202) F dX9_allow_202 rfl ?_
                  refine j_iastN (pc := 204) F (by first | assumption | exact hUp_s) (by omega) (by decide) dX9_allow_204 ?_
                  generalize hh7 : hUp h6 (a 11) _ = h7
                  have t11 : h7 (a 11) = some (aI g 20 (upd f11 (sn s) (nI q))) := by rw [← hh7]; exact hUp_s
                  have g7 : ∀ b, b ≠ a 11 → h7 b = h6 b := fun b hb => by rw [← hh7]; exact hUp_n hb
                  have e7 := (g7 y y11).trans e6
                  have r12 := (g7 _ (ap 12 11 rfl rfl (by decide))).trans ((g6 _ (Ne.symm y12)).trans q12)
                  first | refine j_aload_n (pc := 205) F dX9_allow_205 rfl ?_ | refine j_aload_nq (pc := 205) F dX9_allow_205 rfl ?_
                  refine j_get (pc := 206) F fg_X9_34 (by first | assumption | exact hUp_s) (by rfl) dX9_allow_206 ?_
                  first | refine j_aload_n (pc := 209) F dX9_allow_209 rfl ?_ | refine j_aload_nq (pc := 209) F dX9_allow_209 rfl ?_
                  refine j_get (pc := 210) F fg_X9_117 (by first | assumption | exact hUp_s) (by rfl) dX9_allow_210 ?_
                  refine j_iload_n (pc := 213) F dX9_allow_213 rfl ?_
                  refine j_iastN (pc := 214) F (by first | assumption | exact hUp_s) (by omega) (by decide) dX9_allow_214 ?_
                  generalize hh8 : hUp h7 (a 12) _ = h8
                  have t12 : h8 (a 12) = some (aI g 20 (upd f12 (sn s) (nI k))) := by rw [← hh8]; exact hUp_s
                  have g8 : ∀ b, b ≠ a 12 → h8 b = h7 b := fun b hb => by rw [← hh8]; exact hUp_n hb
                  have e8 := (g8 y y12).trans e7
                  have r13 := (g8 _ (ap 13 12 rfl rfl (by decide))).trans ((g7 _ (ap 13 11 rfl rfl (by decide))).trans ((g6 _ (Ne.symm y13)).trans q13))
                  first | refine j_aload_n (pc := 215) F dX9_allow_215 rfl ?_ | refine j_aload_nq (pc := 215) F dX9_allow_215 rfl ?_
                  refine j_get (pc := 216) F fg_X9_37 (by first | assumption | exact hUp_s) (by rfl) dX9_allow_216 ?_
                  first | refine j_aload_n (pc := 219) F dX9_allow_219 rfl ?_ | refine j_aload_nq (pc := 219) F dX9_allow_219 rfl ?_
                  refine j_get (pc := 220) F fg_X9_117 (by first | assumption | exact hUp_s) (by rfl) dX9_allow_220 ?_
                  refine j_iload (pc := 223) F dX9_allow_223 rfl ?_
                  refine j_iastN (pc := 225) F (by first | assumption | exact hUp_s) (by omega) (by decide) dX9_allow_225 ?_
                  generalize hh9 : hUp h8 (a 13) _ = h9
                  have t13 : h9 (a 13) = some (aI g 20 (upd f13 (sn s) (nI o))) := by rw [← hh9]; exact hUp_s
                  have g9 : ∀ b, b ≠ a 13 → h9 b = h8 b := fun b hb => by rw [← hh9]; exact hUp_n hb
                  have e9 := (g9 y y13).trans e8
                  first | refine j_aload_n (pc := 226) F dX9_allow_226 rfl ?_ | refine j_aload_nq (pc := 226) F dX9_allow_226 rfl ?_
                  refine j_dup (pc := 227) F dX9_allow_227 rfl ?_
                  refine j_get (pc := 228) F fg_X9_117 (by first | assumption | exact hUp_s) (by rfl) dX9_allow_228 ?_
                  refine j_iconst (pc := 231) (v := (nI 1)) F dX9_allow_231 (by decide) ?_
                  first | refine j_iaddN (pc := 232) F dX9_allow_232 ?_ | refine j_iadd (pc := 232) F dX9_allow_232 ?_
                  refine j_put (pc := 233) F fp_X9_117 (by first | assumption | exact hUp_s) (by rfl) (by rfl) (Nat.le_of_ble_eq_true rfl) dX9_allow_233 ?_
                  refine j_iconst (pc := 236) (v := (nI 1)) F dX9_allow_236 (by decide) ?_
                  refine j_iret F hQ rfl rfl (by omega) (by omega) dX9_allow_237 ⟨?_, fun _ => by rw [es]; rfl⟩
                  rw [ec, nxt_0, sAl, es]
                  refine ⟨a, CC, ⟨hUp_s, fun k2 hk2 => ?_, ap⟩, hC⟩
                  have yk : a k2 ≠ y := Ne.symm (z4.ya hk2)
                  by_cases c11 : k2 = 11
                  · subst c11
                    refine ⟨_, (hUp_n yk).trans ((g9 _ (ap 11 13 rfl rfl (by decide))).trans ((g8 _ (ap 11 12 rfl rfl (by decide))).trans t11)), fun j hj => ?_⟩
                    have hj : j < sn s + 1 := hj
                    show upd f11 (sn s) (nI q) j = nI (if j = sn s then q else sQ s j)
                    unfold upd
                    by_cases e : j = sn s
                    · rw [if_pos e, if_pos e]
                    · rw [if_neg e, if_neg e]; exact p11 j (by omega)
                  by_cases c12 : k2 = 12
                  · subst c12
                    refine ⟨_, (hUp_n yk).trans ((g9 _ (ap 12 13 rfl rfl (by decide))).trans t12), fun j hj => ?_⟩
                    have hj : j < sn s + 1 := hj
                    show upd f12 (sn s) (nI k) j = nI (if j = sn s then k else sL s j)
                    unfold upd
                    by_cases e : j = sn s
                    · rw [if_pos e, if_pos e]
                    · rw [if_neg e, if_neg e]; exact p12 j (by omega)
                  by_cases c13 : k2 = 13
                  · subst c13
                    refine ⟨_, (hUp_n yk).trans t13, fun j hj => ?_⟩
                    have hj : j < sn s + 1 := hj
                    show upd f13 (sn s) (nI o) j = nI (if j = sn s then o else sO s j)
                    unfold upd
                    by_cases e : j = sn s
                    · rw [if_pos e, if_pos e]
                    · rw [if_neg e, if_neg e]; exact p13 j (by omega)
                  obtain ⟨fk, x1, x2⟩ := z6.2.1 k2 hk2
                  refine ⟨fk, (hUp_n yk).trans ((g9 _ (ap k2 13 hk2 rfl c13)).trans ((g8 _ (ap k2 12 hk2 rfl c12)).trans ((g7 _ (ap k2 11 hk2 rfl c11)).trans x1))), ?_⟩
                  rcases ix_or hk2 with rfl | rfl | rfl | rfl | rfl | rfl | rfl | rfl | rfl | rfl | rfl <;> first | exact x2 | (exact absurd rfl ‹_›)
                · omega
              · have ec : acode s b c (nI k) (nI o) = 2 := by rw [acode, if_pos c0, hq, eo, ek, if_pos ⟨es, by omega⟩]
                refine j_iconst (pc := 177) (v := (nI 2)) F dX9_allow_177 (by decide) ?_
                refine j_goto (pc := 178) F 182 dX9_allow_178 (by decide) ?_
                refine j_put (pc := 182) F fp_X9_47 (by first | assumption | exact hUp_s) (by rfl) (by rfl) (Nat.le_of_ble_eq_true rfl) dX9_allow_182 ?_
                generalize hh6 : hUp h5 y _ = h6
                have z6 : isMx g h6 y s 2 a CC := z4.tw (by rw [← hh6]; exact hUp_s) (fun b hb => by rw [← hh6]; exact hUp_n hb)
                have e6 := z6.cl
                first | refine j_aload_n (pc := 185) F dX9_allow_185 rfl ?_ | refine j_aload_nq (pc := 185) F dX9_allow_185 rfl ?_
                refine j_get (pc := 186) F fg_X9_47 (by first | assumption | exact hUp_s) (by rfl) dX9_allow_186 ?_
                first | refine j_if_leN (pc := 189) F 194 dX9_allow_189 (by decide) (by omega) (fun d8 => ?_) (fun d8 => ?_) | refine j_if_leI (pc := 189) F 194 dX9_allow_189 (by decide) (fun d8 => ?_) (fun d8 => ?_)
                · omega
                · refine j_iconst (pc := 192) (v := (nI 0)) F dX9_allow_192 (by decide) ?_
                  exact j_iret F hQ rfl rfl (by omega) (by omega) dX9_allow_193 ⟨by rw [ec, nxt_n (by decide)]; exact z6.is hC, fun e => by rw [ec] at e; cases e⟩
            · obtain ⟨x1, x2, x3, x4, x5⟩ := w.2.2.2.1.2 i d6
              have nxt1 : eLike (sQ s i) (sL s i) (sO s i) q k o = false → ∀ lv, lall lv [(0, .ref y), (3, .int (nI k)), (4, .int (nI o)), (5, .int (nI q)), (6, .int (nI i))] → J l X g A 7 (0 + 0 + 0 + 0 + 0) (0 + 0 + 0 + 0 + 0) h5 161 lv [] := fun he lv hl => by
                refine j_lv _ hl ?_
                first | refine j_iincN (pc := 161) F dX9_allow_161 rfl (by decide) ?_ | refine j_iincM (pc := 161) F dX9_allow_161 rfl (by decide) ?_ | refine j_iinc (pc := 161) F dX9_allow_161 rfl rfl (by decide) ?_
                refine j_goto (pc := 164) F 57 dX9_allow_164 (by decide) ?_
                refine ih (i + 1) _ (by omega) (by omega) (fun j hj => ?_) ⟨rfl, rfl, rfl, rfl, rfl, trivial⟩
                by_cases e : j = i
                · rw [e]; exact he
                · exact w3 j (by omega)
              first | refine j_aload_n (pc := 66) F dX9_allow_66 rfl ?_ | refine j_aload_nq (pc := 66) F dX9_allow_66 rfl ?_
              refine j_get (pc := 67) F fg_X9_31 (by first | assumption | exact hUp_s) (by rfl) dX9_allow_67 ?_
              refine j_iload (pc := 70) F dX9_allow_70 rfl ?_
              refine j_ialdN (pc := 72) F (by first | assumption | exact hUp_s) (by omega) (by decide) dX9_allow_72 ?_
              refine j_int (p11 i d6) ?_
              refine j_iload (pc := 73) F dX9_allow_73 rfl ?_
              first | refine j_icmp_neN (pc := 75) F 161 dX9_allow_75 (by decide) (by omega) (by omega) (fun d7 => ?_) (fun d7 => ?_) | refine j_icmp_neIN (pc := 75) F 161 dX9_allow_75 (by decide) (by omega) (fun d7 => ?_) (fun d7 => ?_) | refine j_icmp_neNI (pc := 75) F 161 dX9_allow_75 (by decide) (by omega) (fun d7 => ?_) (fun d7 => ?_) | refine j_icmp_ne (pc := 75) F 161 dX9_allow_75 (by decide) (fun d7 => ?_) (fun d7 => ?_)
              · exact nxt1 (decide_eq_false (fun t => d7 t.1)) _ ⟨rfl, rfl, rfl, rfl, rfl, trivial⟩
              first | refine j_aload_n (pc := 78) F dX9_allow_78 rfl ?_ | refine j_aload_nq (pc := 78) F dX9_allow_78 rfl ?_
              refine j_get (pc := 79) F fg_X9_34 (by first | assumption | exact hUp_s) (by rfl) dX9_allow_79 ?_
              refine j_iload (pc := 82) F dX9_allow_82 rfl ?_
              refine j_ialdN (pc := 84) F (by first | assumption | exact hUp_s) (by omega) (by decide) dX9_allow_84 ?_
              refine j_int (p12 i d6) ?_
              refine j_iload_n (pc := 85) F dX9_allow_85 rfl ?_
              first | refine j_icmp_neN (pc := 86) F 161 dX9_allow_86 (by decide) (by omega) (by omega) (fun d8 => ?_) (fun d8 => ?_) | refine j_icmp_neIN (pc := 86) F 161 dX9_allow_86 (by decide) (by omega) (fun d8 => ?_) (fun d8 => ?_) | refine j_icmp_neNI (pc := 86) F 161 dX9_allow_86 (by decide) (by omega) (fun d8 => ?_) (fun d8 => ?_) | refine j_icmp_ne (pc := 86) F 161 dX9_allow_86 (by decide) (fun d8 => ?_) (fun d8 => ?_)
              · exact nxt1 (decide_eq_false (fun t => d8 t.2.1)) _ ⟨rfl, rfl, rfl, rfl, rfl, trivial⟩
              first | refine j_aload_n (pc := 89) F dX9_allow_89 rfl ?_ | refine j_aload_nq (pc := 89) F dX9_allow_89 rfl ?_
              refine j_get (pc := 90) F fg_X9_37 (by first | assumption | exact hUp_s) (by rfl) dX9_allow_90 ?_
              refine j_iload (pc := 93) F dX9_allow_93 rfl ?_
              refine j_ialdN (pc := 95) F (by first | assumption | exact hUp_s) (by omega) (by decide) dX9_allow_95 ?_
              refine j_int (p13 i d6) ?_
              refine j_iload (pc := 96) F dX9_allow_96 rfl ?_
              first | refine j_icmp_neN (pc := 98) F 161 dX9_allow_98 (by decide) (by omega) (by omega) (fun d9 => ?_) (fun d9 => ?_) | refine j_icmp_neIN (pc := 98) F 161 dX9_allow_98 (by decide) (by omega) (fun d9 => ?_) (fun d9 => ?_) | refine j_icmp_neNI (pc := 98) F 161 dX9_allow_98 (by decide) (by omega) (fun d9 => ?_) (fun d9 => ?_) | refine j_icmp_ne (pc := 98) F 161 dX9_allow_98 (by decide) (fun d9 => ?_) (fun d9 => ?_)
              · exact nxt1 (decide_eq_false (fun t => d9 t.2.2)) _ ⟨rfl, rfl, rfl, rfl, rfl, trivial⟩
              have es : sPl s q k o = some i := fp_some d6 (decide_eq_true ⟨d7, d8, d9⟩) w3
              have ec : acode s b c (nI k) (nI o) = 0 := by rw [acode, if_pos c0, hq, eo, ek, if_neg (by rw [es]; simp)]
              first | refine j_aload_n (pc := 101) F dX9_allow_101 rfl ?_ | refine j_aload_nq (pc := 101) F dX9_allow_101 rfl ?_
              refine j_dup (pc := 102) F dX9_allow_102 rfl ?_
              refine j_get (pc := 103) F fg_X9_117 (by first | assumption | exact hUp_s) (by rfl) dX9_allow_103 ?_
              refine j_iconst (pc := 106) (v := (nI 1)) F dX9_allow_106 (by decide) ?_
              first | refine j_isubN (pc := 107) F dX9_allow_107 (by omega) ?_ | refine j_isub (pc := 107) F dX9_allow_107 ?_
              refine j_put (pc := 108) F fp_X9_117 (by first | assumption | exact hUp_s) (by rfl) (by rfl) (Nat.le_of_ble_eq_true rfl) dX9_allow_108 ?_
              generalize hh6 : hUp h5 y _ = h6
              have t0 : h6 y = some (mC (sOut s i) 0 a) := by rw [← hh6]; exact hUp_s
              have g6 : ∀ b, b ≠ y → h6 b = h5 b := fun b hb => by rw [← hh6]; exact hUp_n hb
              have e6 : h6 y = some (.inr (9, [.int (nI (sT s)), .ref (a 1), .int (nI (sz s)), .int (nI (sm s)), .ref (a 4), .ref (a 5), .ref (a 6), .ref (a 7), .ref (a 8), .ref (a 9), .int (nI (sn s - 1)), .ref (a 11), .ref (a 12), .ref (a 13), .ref (a 14), .int (nI 0)])) := t0
              have r11 := (g6 _ (Ne.symm y11)).trans q11
              first | refine j_aload_n (pc := 111) F dX9_allow_111 rfl ?_ | refine j_aload_nq (pc := 111) F dX9_allow_111 rfl ?_
              refine j_get (pc := 112) F fg_X9_31 (by first | assumption | exact hUp_s) (by rfl) dX9_allow_112 ?_
              refine j_iload (pc := 115) F dX9_allow_115 rfl ?_
              first | refine j_aload_n (pc := 117) F dX9_allow_117 rfl ?_ | refine j_aload_nq (pc := 117) F dX9_allow_117 rfl ?_
              refine j_get (pc := 118) F fg_X9_31 (by first | assumption | exact hUp_s) (by rfl) dX9_allow_118 ?_
              first | refine j_aload_n (pc := 121) F dX9_allow_121 rfl ?_ | refine j_aload_nq (pc := 121) F dX9_allow_121 rfl ?_
              refine j_get (pc := 122) F fg_X9_117 (by first | assumption | exact hUp_s) (by rfl) dX9_allow_122 ?_
              refine j_ialdN (pc := 125) F (by first | assumption | exact hUp_s) (by omega) (by decide) dX9_allow_125 ?_
              refine j_int (p11 (sn s - 1) (by omega)) ?_
              refine j_iastN (pc := 126) F (by first | assumption | exact hUp_s) (by omega) (by decide) dX9_allow_126 ?_
              generalize hh7 : hUp h6 (a 11) _ = h7
              have t11 : h7 (a 11) = some (aI g 20 (upd f11 i (nI (sQ s (sn s - 1))))) := by rw [← hh7]; exact hUp_s
              have g7 : ∀ b, b ≠ a 11 → h7 b = h6 b := fun b hb => by rw [← hh7]; exact hUp_n hb
              have e7 := (g7 y y11).trans e6
              have r12 := (g7 _ (ap 12 11 rfl rfl (by decide))).trans ((g6 _ (Ne.symm y12)).trans q12)
              first | refine j_aload_n (pc := 127) F dX9_allow_127 rfl ?_ | refine j_aload_nq (pc := 127) F dX9_allow_127 rfl ?_
              refine j_get (pc := 128) F fg_X9_34 (by first | assumption | exact hUp_s) (by rfl) dX9_allow_128 ?_
              refine j_iload (pc := 131) F dX9_allow_131 rfl ?_
              first | refine j_aload_n (pc := 133) F dX9_allow_133 rfl ?_ | refine j_aload_nq (pc := 133) F dX9_allow_133 rfl ?_
              refine j_get (pc := 134) F fg_X9_34 (by first | assumption | exact hUp_s) (by rfl) dX9_allow_134 ?_
              first | refine j_aload_n (pc := 137) F dX9_allow_137 rfl ?_ | refine j_aload_nq (pc := 137) F dX9_allow_137 rfl ?_
              refine j_get (pc := 138) F fg_X9_117 (by first | assumption | exact hUp_s) (by rfl) dX9_allow_138 ?_
              refine j_ialdN (pc := 141) F (by first | assumption | exact hUp_s) (by omega) (by decide) dX9_allow_141 ?_
              refine j_int (p12 (sn s - 1) (by omega)) ?_
              refine j_iastN (pc := 142) F (by first | assumption | exact hUp_s) (by omega) (by decide) dX9_allow_142 ?_
              generalize hh8 : hUp h7 (a 12) _ = h8
              have t12 : h8 (a 12) = some (aI g 20 (upd f12 i (nI (sL s (sn s - 1))))) := by rw [← hh8]; exact hUp_s
              have g8 : ∀ b, b ≠ a 12 → h8 b = h7 b := fun b hb => by rw [← hh8]; exact hUp_n hb
              have e8 := (g8 y y12).trans e7
              have r13 := (g8 _ (ap 13 12 rfl rfl (by decide))).trans ((g7 _ (ap 13 11 rfl rfl (by decide))).trans ((g6 _ (Ne.symm y13)).trans q13))
              first | refine j_aload_n (pc := 143) F dX9_allow_143 rfl ?_ | refine j_aload_nq (pc := 143) F dX9_allow_143 rfl ?_
              refine j_get (pc := 144) F fg_X9_37 (by first | assumption | exact hUp_s) (by rfl) dX9_allow_144 ?_
              refine j_iload (pc := 147) F dX9_allow_147 rfl ?_
              first | refine j_aload_n (pc := 149) F dX9_allow_149 rfl ?_ | refine j_aload_nq (pc := 149) F dX9_allow_149 rfl ?_
              refine j_get (pc := 150) F fg_X9_37 (by first | assumption | exact hUp_s) (by rfl) dX9_allow_150 ?_
              first | refine j_aload_n (pc := 153) F dX9_allow_153 rfl ?_ | refine j_aload_nq (pc := 153) F dX9_allow_153 rfl ?_
              refine j_get (pc := 154) F fg_X9_117 (by first | assumption | exact hUp_s) (by rfl) dX9_allow_154 ?_
              refine j_ialdN (pc := 157) F (by first | assumption | exact hUp_s) (by omega) (by decide) dX9_allow_157 ?_
              refine j_int (p13 (sn s - 1) (by omega)) ?_
              refine j_iastN (pc := 158) F (by first | assumption | exact hUp_s) (by omega) (by decide) dX9_allow_158 ?_
              refine j_iconst (pc := 159) (v := (nI 0)) F dX9_allow_159 (by decide) ?_
              refine j_iret F hQ rfl rfl (by omega) (by omega) dX9_allow_160 ⟨?_, fun _ => by rw [es]; rfl⟩
              rw [ec, nxt_0, sAl, es]
              refine ⟨a, CC, ⟨(hUp_n y13).trans ((g8 y y12).trans ((g7 y y11).trans t0)), fun k2 hk2 => ?_, ap⟩, hC⟩
              have yk : a k2 ≠ y := Ne.symm (z4.ya hk2)
              by_cases c11 : k2 = 11
              · subst c11
                refine ⟨_, (hUp_n (ap 11 13 rfl rfl (by decide))).trans ((g8 _ (ap 11 12 rfl rfl (by decide))).trans t11), fun j hj => ?_⟩
                have hj : j < sn s - 1 := hj
                show upd f11 i _ j = nI (if j = i then sQ s (sn s - 1) else sQ s j)
                unfold upd
                by_cases e : j = i
                · rw [if_pos e, if_pos e]
                · rw [if_neg e, if_neg e]; exact p11 j (by omega)
              by_cases c12 : k2 = 12
              · subst c12
                refine ⟨_, (hUp_n (ap 12 13 rfl rfl (by decide))).trans t12, fun j hj => ?_⟩
                have hj : j < sn s - 1 := hj
                show upd f12 i _ j = nI (if j = i then sL s (sn s - 1) else sL s j)
                unfold upd
                by_cases e : j = i
                · rw [if_pos e, if_pos e]
                · rw [if_neg e, if_neg e]; exact p12 j (by omega)
              by_cases c13 : k2 = 13
              · subst c13
                refine ⟨_, hUp_s, fun j hj => ?_⟩
                have hj : j < sn s - 1 := hj
                show upd f13 i _ j = nI (if j = i then sO s (sn s - 1) else sO s j)
                unfold upd
                by_cases e : j = i
                · rw [if_pos e, if_pos e]
                · rw [if_neg e, if_neg e]; exact p13 j (by omega)
              obtain ⟨fk, x1, x2⟩ := z4.2.1 k2 hk2
              refine ⟨fk, (hUp_n (ap k2 13 hk2 rfl c13)).trans ((g8 _ (ap k2 12 hk2 rfl c12)).trans ((g7 _ (ap k2 11 hk2 rfl c11)).trans ((g6 _ yk).trans x1))), ?_⟩
              rcases ix_or hk2 with rfl | rfl | rfl | rfl | rfl | rfl | rfl | rfl | rfl | rfl | rfl <;> first | exact x2 | (exact absurd rfl ‹_›)
        exact loop (sn s + 1) 0 _ (by omega) (Nat.zero_le _) (fun j hj => absurd hj (Nat.not_lt_zero j)) ⟨rfl, rfl, rfl, rfl, rfl, trivial⟩
      · omega
    · cases d3
  · have ec : acode s b c lo og = 1 := if_neg c0
    refine j_met (by decide +kernel) (Nat.le_of_ble_eq_true rfl) (fun X F hn hQ => ?_)
    have ex : ∀ lv (h0 : HF), h0 = h → lall lv [(0, .ref y)] → J l X g A 7 0 0 h0 30 lv [.ref y] := fun lv h0 hh0 hl => by
      subst hh0
      refine j_lv _ hl ?_
      refine j_iconst (pc := 30) (v := (nI 1)) F dX9_allow_30 (by decide) ?_
      refine j_goto (pc := 31) F 35 dX9_allow_31 (by decide) ?_
      refine j_put (pc := 35) F fp_X9_47 (by first | assumption | exact hUp_s) (by rfl) (by rfl) (Nat.le_of_ble_eq_true rfl) dX9_allow_35 ?_
      generalize hh3 : hUp h0 y _ = h3
      have z3 : isMx g h3 y s 1 a CC := z.tw (by rw [← hh3]; exact hUp_s) (fun b hb => by rw [← hh3]; exact hUp_n hb)
      have e3 := z3.cl
      first | refine j_aload_n (pc := 38) F dX9_allow_38 rfl ?_ | refine j_aload_nq (pc := 38) F dX9_allow_38 rfl ?_
      refine j_get (pc := 39) F fg_X9_47 (by first | assumption | exact hUp_s) (by rfl) dX9_allow_39 ?_
      first | refine j_if_leN (pc := 42) F 47 dX9_allow_42 (by decide) (by omega) (fun d5 => ?_) (fun d5 => ?_) | refine j_if_leI (pc := 42) F 47 dX9_allow_42 (by decide) (fun d5 => ?_) (fun d5 => ?_)
      · omega
      · refine j_iconst (pc := 45) (v := (nI 0)) F dX9_allow_45 (by decide) ?_
        exact j_iret F hQ rfl rfl (by omega) (by omega) dX9_allow_46 ⟨by rw [ec, nxt_n (by decide)]; exact z3.is hC, fun e => by rw [ec] at e; cases e⟩
    first | refine j_aload_n (pc := 0) F dX9_allow_0 rfl ?_ | refine j_aload_nq (pc := 0) F dX9_allow_0 rfl ?_
    refine j_iload_n (pc := 1) F dX9_allow_1 rfl ?_
    refine j_iload_n (pc := 2) F dX9_allow_2 rfl ?_
    refine j_ri (j_runS (pc := 3) F (c_X9_isPrefix b c) m_X9_isPrefix ms_X9_isPrefix lk_X9_84 ⟨by decide, by decide⟩ (Nat.le_of_ble_eq_true rfl) ⟨by omega, by omega⟩ rfl dX9_allow_3) (fun r h1 hp => ?_)
    obtain ⟨rfl, rfl⟩ := hp
    first | refine j_if_eqB (pc := 6) F 30 dX9_allow_6 (by decide) (fun d1 => ?_) (fun d1 => ?_) | refine j_if_eqN (pc := 6) F 30 dX9_allow_6 (by decide) (by omega) (fun d1 => ?_) (fun d1 => ?_) | refine j_if_eqI (pc := 6) F 30 dX9_allow_6 (by decide) (fun d1 => ?_) (fun d1 => ?_)
    · exact ex _ _ rfl ⟨rfl, trivial⟩
    refine j_iload_n (pc := 9) F dX9_allow_9 rfl ?_
    refine j_iload_n (pc := 10) F dX9_allow_10 rfl ?_
    refine j_bipush (pc := 11) (v := (nI 8)) F dX9_allow_11 (by decide) ?_
    refine j_ri (j_runS (pc := 13) F (c_X9_in _ _ _) m_X9_in ms_X9_in lk_X9_51 ⟨by decide, by decide⟩ (Nat.le_of_ble_eq_true rfl) ⟨by omega, by omega⟩ rfl dX9_allow_13) (fun r h2 hp => ?_)
    obtain ⟨rfl, rfl⟩ := hp
    first | refine j_if_eqB (pc := 16) F 30 dX9_allow_16 (by decide) (fun d2 => ?_) (fun d2 => ?_) | refine j_if_eqN (pc := 16) F 30 dX9_allow_16 (by decide) (by omega) (fun d2 => ?_) (fun d2 => ?_) | refine j_if_eqI (pc := 16) F 30 dX9_allow_16 (by decide) (fun d2 => ?_) (fun d2 => ?_)
    · exact ex _ _ rfl ⟨rfl, trivial⟩
    refine j_iload (pc := 19) F dX9_allow_19 rfl ?_
    refine j_iconst (pc := 21) (v := (nI 1)) F dX9_allow_21 (by decide) ?_
    refine j_bipush (pc := 22) (v := (nI 30)) F dX9_allow_22 (by decide) ?_
    refine j_ri (j_runS (pc := 24) F (c_X9_in _ _ _) m_X9_in ms_X9_in lk_X9_51 ⟨by decide, by decide⟩ (Nat.le_of_ble_eq_true rfl) ⟨by omega, by omega⟩ rfl dX9_allow_24) (fun r h3 hp => ?_)
    obtain ⟨rfl, rfl⟩ := hp
    refine j_int (congrArg bI (inN30 _)) ?_
    first | refine j_if_neB (pc := 27) F 34 dX9_allow_27 (by decide) (fun d3 => ?_) (fun d3 => ?_) | refine j_if_neN (pc := 27) F 34 dX9_allow_27 (by decide) (by omega) (fun d3 => ?_) (fun d3 => ?_) | refine j_if_neI (pc := 27) F 34 dX9_allow_27 (by decide) (fun d3 => ?_) (fun d3 => ?_)
    · have d2 := of_decide_eq_true d2
      rw [nI_toInt (show 8 < 2 ^ 31 by decide)] at d2
      exact absurd ⟨d1, d3, d2.1, d2.2⟩ c0
    · exact ex _ _ rfl ⟨rfl, trivial⟩
theorem c_X9_init (hy : h y = some (.inr (9, [.int 0, .null, .int 0, .int 0, .null, .null, .null, .null, .null, .null, .int 0, .null, .null, .null, .null, .int 0]))) : MVo l g A h yX9_init cX9_init 1 2 11 14000 [.ref y] (fun h1 => isM g h1 y s0 0) := by
  refine j_met (by decide +kernel) (Nat.le_of_ble_eq_true rfl) (fun X F hn hQ => ?_)
  first | refine j_aload_n (pc := 0) F dX9_init_0 rfl ?_ | refine j_aload_nq (pc := 0) F dX9_init_0 rfl ?_
  refine j_objInit (pc := 1) F (by omega) lk_X9_1 (Nat.le_of_ble_eq_true rfl) dX9_init_1 ?_
  first | refine j_aload_n (pc := 4) F dX9_init_4 rfl ?_ | refine j_aload_nq (pc := 4) F dX9_init_4 rfl ?_
  refine j_bipush (pc := 5) (v := (nI 8)) F dX9_init_5 (by decide) ?_
  refine j_newaI (pc := 7) F (N := 8) (by decide) (by decide) (by decide) (by omega) (by omega) dX9_init_7 (fun x1 hx1 _ => ?_)
  generalize hg1 : hUp h x1 (aI g 8 (fun _ => 0)) = ha1
  have Ea1 : ha1 y = some (.inr (9, [.int 0, .null, .int 0, .int 0, .null, .null, .null, .null, .null, .null, .int 0, .null, .null, .null, .null, .int 0])) := by rw [← hg1]; exact (hUp_n (nn_ne hy hx1)).trans hy
  have A1a1 : ha1 x1 = some (aI g 8 (fun _ => 0)) := by rw [← hg1]; exact hUp_s
  refine j_putF (pc := 9) F fp_X9_7 hn rfl (by first | assumption | exact hUp_s) (by rfl) (by rfl) (Nat.le_of_ble_eq_true rfl) dX9_init_9 ?_
  generalize hi1 : hUp ha1 y _ = hb1
  have Eb1 : hb1 y = some (.inr (9, [.int 0, .ref x1, .int 0, .int 0, .null, .null, .null, .null, .null, .null, .int 0, .null, .null, .null, .null, .int 0])) := by rw [← hi1]; exact hUp_s
  have A1b1 : hb1 x1 = some (aI g 8 (fun _ => 0)) := by rw [← hi1]; exact (hUp_n (Ne.symm (kd_n2 Ea1 A1a1 (by simp [kd])))).trans A1a1
  first | refine j_aload_n (pc := 12) F dX9_init_12 rfl ?_ | refine j_aload_nq (pc := 12) F dX9_init_12 rfl ?_
  refine j_sipush (pc := 13) (v := (nI 300)) F dX9_init_13 (by decide) ?_
  refine j_newaI (pc := 16) F (N := 300) (by decide) (by decide) (by decide) (by omega) (by omega) dX9_init_16 (fun x4 hx4 _ => ?_)
  generalize hg4 : hUp hb1 x4 (aI g 300 (fun _ => 0)) = ha4
  have Ea4 : ha4 y = some (.inr (9, [.int 0, .ref x1, .int 0, .int 0, .null, .null, .null, .null, .null, .null, .int 0, .null, .null, .null, .null, .int 0])) := by rw [← hg4]; exact (hUp_n (nn_ne Eb1 hx4)).trans Eb1
  have A4a4 : ha4 x4 = some (aI g 300 (fun _ => 0)) := by rw [← hg4]; exact hUp_s
  have N1_4 : x1 ≠ x4 := nn_ne A1b1 hx4
  have A1a4 : ha4 x1 = some (aI g 8 (fun _ => 0)) := by rw [← hg4]; exact (hUp_n N1_4).trans A1b1
  refine j_putF (pc := 18) F fp_X9_13 hn rfl (by first | assumption | exact hUp_s) (by rfl) (by rfl) (Nat.le_of_ble_eq_true rfl) dX9_init_18 ?_
  generalize hi4 : hUp ha4 y _ = hb4
  have Eb4 : hb4 y = some (.inr (9, [.int 0, .ref x1, .int 0, .int 0, .ref x4, .null, .null, .null, .null, .null, .int 0, .null, .null, .null, .null, .int 0])) := by rw [← hi4]; exact hUp_s
  have A1b4 : hb4 x1 = some (aI g 8 (fun _ => 0)) := by rw [← hi4]; exact (hUp_n (Ne.symm (kd_n2 Ea4 A1a4 (by simp [kd])))).trans A1a4
  have A4b4 : hb4 x4 = some (aI g 300 (fun _ => 0)) := by rw [← hi4]; exact (hUp_n (Ne.symm (kd_n2 Ea4 A4a4 (by simp [kd])))).trans A4a4
  first | refine j_aload_n (pc := 21) F dX9_init_21 rfl ?_ | refine j_aload_nq (pc := 21) F dX9_init_21 rfl ?_
  refine j_sipush (pc := 22) (v := (nI 300)) F dX9_init_22 (by decide) ?_
  refine j_newaI (pc := 25) F (N := 300) (by decide) (by decide) (by decide) (by omega) (by omega) dX9_init_25 (fun x5 hx5 _ => ?_)
  generalize hg5 : hUp hb4 x5 (aI g 300 (fun _ => 0)) = ha5
  have Ea5 : ha5 y = some (.inr (9, [.int 0, .ref x1, .int 0, .int 0, .ref x4, .null, .null, .null, .null, .null, .int 0, .null, .null, .null, .null, .int 0])) := by rw [← hg5]; exact (hUp_n (nn_ne Eb4 hx5)).trans Eb4
  have A5a5 : ha5 x5 = some (aI g 300 (fun _ => 0)) := by rw [← hg5]; exact hUp_s
  have N1_5 : x1 ≠ x5 := nn_ne A1b4 hx5
  have A1a5 : ha5 x1 = some (aI g 8 (fun _ => 0)) := by rw [← hg5]; exact (hUp_n N1_5).trans A1b4
  have N4_5 : x4 ≠ x5 := nn_ne A4b4 hx5
  have A4a5 : ha5 x4 = some (aI g 300 (fun _ => 0)) := by rw [← hg5]; exact (hUp_n N4_5).trans A4b4
  refine j_putF (pc := 27) F fp_X9_16 hn rfl (by first | assumption | exact hUp_s) (by rfl) (by rfl) (Nat.le_of_ble_eq_true rfl) dX9_init_27 ?_
  generalize hi5 : hUp ha5 y _ = hb5
  have Eb5 : hb5 y = some (.inr (9, [.int 0, .ref x1, .int 0, .int 0, .ref x4, .ref x5, .null, .null, .null, .null, .int 0, .null, .null, .null, .null, .int 0])) := by rw [← hi5]; exact hUp_s
  have A1b5 : hb5 x1 = some (aI g 8 (fun _ => 0)) := by rw [← hi5]; exact (hUp_n (Ne.symm (kd_n2 Ea5 A1a5 (by simp [kd])))).trans A1a5
  have A4b5 : hb5 x4 = some (aI g 300 (fun _ => 0)) := by rw [← hi5]; exact (hUp_n (Ne.symm (kd_n2 Ea5 A4a5 (by simp [kd])))).trans A4a5
  have A5b5 : hb5 x5 = some (aI g 300 (fun _ => 0)) := by rw [← hi5]; exact (hUp_n (Ne.symm (kd_n2 Ea5 A5a5 (by simp [kd])))).trans A5a5
  first | refine j_aload_n (pc := 30) F dX9_init_30 rfl ?_ | refine j_aload_nq (pc := 30) F dX9_init_30 rfl ?_
  refine j_sipush (pc := 31) (v := (nI 300)) F dX9_init_31 (by decide) ?_
  refine j_newaI (pc := 34) F (N := 300) (by decide) (by decide) (by decide) (by omega) (by omega) dX9_init_34 (fun x6 hx6 _ => ?_)
  generalize hg6 : hUp hb5 x6 (aI g 300 (fun _ => 0)) = ha6
  have Ea6 : ha6 y = some (.inr (9, [.int 0, .ref x1, .int 0, .int 0, .ref x4, .ref x5, .null, .null, .null, .null, .int 0, .null, .null, .null, .null, .int 0])) := by rw [← hg6]; exact (hUp_n (nn_ne Eb5 hx6)).trans Eb5
  have A6a6 : ha6 x6 = some (aI g 300 (fun _ => 0)) := by rw [← hg6]; exact hUp_s
  have N1_6 : x1 ≠ x6 := nn_ne A1b5 hx6
  have A1a6 : ha6 x1 = some (aI g 8 (fun _ => 0)) := by rw [← hg6]; exact (hUp_n N1_6).trans A1b5
  have N4_6 : x4 ≠ x6 := nn_ne A4b5 hx6
  have A4a6 : ha6 x4 = some (aI g 300 (fun _ => 0)) := by rw [← hg6]; exact (hUp_n N4_6).trans A4b5
  have N5_6 : x5 ≠ x6 := nn_ne A5b5 hx6
  have A5a6 : ha6 x5 = some (aI g 300 (fun _ => 0)) := by rw [← hg6]; exact (hUp_n N5_6).trans A5b5
  refine j_putF (pc := 36) F fp_X9_19 hn rfl (by first | assumption | exact hUp_s) (by rfl) (by rfl) (Nat.le_of_ble_eq_true rfl) dX9_init_36 ?_
  generalize hi6 : hUp ha6 y _ = hb6
  have Eb6 : hb6 y = some (.inr (9, [.int 0, .ref x1, .int 0, .int 0, .ref x4, .ref x5, .ref x6, .null, .null, .null, .int 0, .null, .null, .null, .null, .int 0])) := by rw [← hi6]; exact hUp_s
  have A1b6 : hb6 x1 = some (aI g 8 (fun _ => 0)) := by rw [← hi6]; exact (hUp_n (Ne.symm (kd_n2 Ea6 A1a6 (by simp [kd])))).trans A1a6
  have A4b6 : hb6 x4 = some (aI g 300 (fun _ => 0)) := by rw [← hi6]; exact (hUp_n (Ne.symm (kd_n2 Ea6 A4a6 (by simp [kd])))).trans A4a6
  have A5b6 : hb6 x5 = some (aI g 300 (fun _ => 0)) := by rw [← hi6]; exact (hUp_n (Ne.symm (kd_n2 Ea6 A5a6 (by simp [kd])))).trans A5a6
  have A6b6 : hb6 x6 = some (aI g 300 (fun _ => 0)) := by rw [← hi6]; exact (hUp_n (Ne.symm (kd_n2 Ea6 A6a6 (by simp [kd])))).trans A6a6
  first | refine j_aload_n (pc := 39) F dX9_init_39 rfl ?_ | refine j_aload_nq (pc := 39) F dX9_init_39 rfl ?_
  refine j_sipush (pc := 40) (v := (nI 300)) F dX9_init_40 (by decide) ?_
  refine j_newaI (pc := 43) F (N := 300) (by decide) (by decide) (by decide) (by omega) (by omega) dX9_init_43 (fun x7 hx7 _ => ?_)
  generalize hg7 : hUp hb6 x7 (aI g 300 (fun _ => 0)) = ha7
  have Ea7 : ha7 y = some (.inr (9, [.int 0, .ref x1, .int 0, .int 0, .ref x4, .ref x5, .ref x6, .null, .null, .null, .int 0, .null, .null, .null, .null, .int 0])) := by rw [← hg7]; exact (hUp_n (nn_ne Eb6 hx7)).trans Eb6
  have A7a7 : ha7 x7 = some (aI g 300 (fun _ => 0)) := by rw [← hg7]; exact hUp_s
  have N1_7 : x1 ≠ x7 := nn_ne A1b6 hx7
  have A1a7 : ha7 x1 = some (aI g 8 (fun _ => 0)) := by rw [← hg7]; exact (hUp_n N1_7).trans A1b6
  have N4_7 : x4 ≠ x7 := nn_ne A4b6 hx7
  have A4a7 : ha7 x4 = some (aI g 300 (fun _ => 0)) := by rw [← hg7]; exact (hUp_n N4_7).trans A4b6
  have N5_7 : x5 ≠ x7 := nn_ne A5b6 hx7
  have A5a7 : ha7 x5 = some (aI g 300 (fun _ => 0)) := by rw [← hg7]; exact (hUp_n N5_7).trans A5b6
  have N6_7 : x6 ≠ x7 := nn_ne A6b6 hx7
  have A6a7 : ha7 x6 = some (aI g 300 (fun _ => 0)) := by rw [← hg7]; exact (hUp_n N6_7).trans A6b6
  refine j_putF (pc := 45) F fp_X9_22 hn rfl (by first | assumption | exact hUp_s) (by rfl) (by rfl) (Nat.le_of_ble_eq_true rfl) dX9_init_45 ?_
  generalize hi7 : hUp ha7 y _ = hb7
  have Eb7 : hb7 y = some (.inr (9, [.int 0, .ref x1, .int 0, .int 0, .ref x4, .ref x5, .ref x6, .ref x7, .null, .null, .int 0, .null, .null, .null, .null, .int 0])) := by rw [← hi7]; exact hUp_s
  have A1b7 : hb7 x1 = some (aI g 8 (fun _ => 0)) := by rw [← hi7]; exact (hUp_n (Ne.symm (kd_n2 Ea7 A1a7 (by simp [kd])))).trans A1a7
  have A4b7 : hb7 x4 = some (aI g 300 (fun _ => 0)) := by rw [← hi7]; exact (hUp_n (Ne.symm (kd_n2 Ea7 A4a7 (by simp [kd])))).trans A4a7
  have A5b7 : hb7 x5 = some (aI g 300 (fun _ => 0)) := by rw [← hi7]; exact (hUp_n (Ne.symm (kd_n2 Ea7 A5a7 (by simp [kd])))).trans A5a7
  have A6b7 : hb7 x6 = some (aI g 300 (fun _ => 0)) := by rw [← hi7]; exact (hUp_n (Ne.symm (kd_n2 Ea7 A6a7 (by simp [kd])))).trans A6a7
  have A7b7 : hb7 x7 = some (aI g 300 (fun _ => 0)) := by rw [← hi7]; exact (hUp_n (Ne.symm (kd_n2 Ea7 A7a7 (by simp [kd])))).trans A7a7
  first | refine j_aload_n (pc := 48) F dX9_init_48 rfl ?_ | refine j_aload_nq (pc := 48) F dX9_init_48 rfl ?_
  refine j_sipush (pc := 49) (v := (nI 2400)) F dX9_init_49 (by decide) ?_
  refine j_newaI (pc := 52) F (N := 2400) (by decide) (by decide) (by decide) (by omega) (by omega) dX9_init_52 (fun x8 hx8 _ => ?_)
  generalize hg8 : hUp hb7 x8 (aI g 2400 (fun _ => 0)) = ha8
  have Ea8 : ha8 y = some (.inr (9, [.int 0, .ref x1, .int 0, .int 0, .ref x4, .ref x5, .ref x6, .ref x7, .null, .null, .int 0, .null, .null, .null, .null, .int 0])) := by rw [← hg8]; exact (hUp_n (nn_ne Eb7 hx8)).trans Eb7
  have A8a8 : ha8 x8 = some (aI g 2400 (fun _ => 0)) := by rw [← hg8]; exact hUp_s
  have N1_8 : x1 ≠ x8 := nn_ne A1b7 hx8
  have A1a8 : ha8 x1 = some (aI g 8 (fun _ => 0)) := by rw [← hg8]; exact (hUp_n N1_8).trans A1b7
  have N4_8 : x4 ≠ x8 := nn_ne A4b7 hx8
  have A4a8 : ha8 x4 = some (aI g 300 (fun _ => 0)) := by rw [← hg8]; exact (hUp_n N4_8).trans A4b7
  have N5_8 : x5 ≠ x8 := nn_ne A5b7 hx8
  have A5a8 : ha8 x5 = some (aI g 300 (fun _ => 0)) := by rw [← hg8]; exact (hUp_n N5_8).trans A5b7
  have N6_8 : x6 ≠ x8 := nn_ne A6b7 hx8
  have A6a8 : ha8 x6 = some (aI g 300 (fun _ => 0)) := by rw [← hg8]; exact (hUp_n N6_8).trans A6b7
  have N7_8 : x7 ≠ x8 := nn_ne A7b7 hx8
  have A7a8 : ha8 x7 = some (aI g 300 (fun _ => 0)) := by rw [← hg8]; exact (hUp_n N7_8).trans A7b7
  refine j_putF (pc := 54) F fp_X9_25 hn rfl (by first | assumption | exact hUp_s) (by rfl) (by rfl) (Nat.le_of_ble_eq_true rfl) dX9_init_54 ?_
  generalize hi8 : hUp ha8 y _ = hb8
  have Eb8 : hb8 y = some (.inr (9, [.int 0, .ref x1, .int 0, .int 0, .ref x4, .ref x5, .ref x6, .ref x7, .ref x8, .null, .int 0, .null, .null, .null, .null, .int 0])) := by rw [← hi8]; exact hUp_s
  have A1b8 : hb8 x1 = some (aI g 8 (fun _ => 0)) := by rw [← hi8]; exact (hUp_n (Ne.symm (kd_n2 Ea8 A1a8 (by simp [kd])))).trans A1a8
  have A4b8 : hb8 x4 = some (aI g 300 (fun _ => 0)) := by rw [← hi8]; exact (hUp_n (Ne.symm (kd_n2 Ea8 A4a8 (by simp [kd])))).trans A4a8
  have A5b8 : hb8 x5 = some (aI g 300 (fun _ => 0)) := by rw [← hi8]; exact (hUp_n (Ne.symm (kd_n2 Ea8 A5a8 (by simp [kd])))).trans A5a8
  have A6b8 : hb8 x6 = some (aI g 300 (fun _ => 0)) := by rw [← hi8]; exact (hUp_n (Ne.symm (kd_n2 Ea8 A6a8 (by simp [kd])))).trans A6a8
  have A7b8 : hb8 x7 = some (aI g 300 (fun _ => 0)) := by rw [← hi8]; exact (hUp_n (Ne.symm (kd_n2 Ea8 A7a8 (by simp [kd])))).trans A7a8
  have A8b8 : hb8 x8 = some (aI g 2400 (fun _ => 0)) := by rw [← hi8]; exact (hUp_n (Ne.symm (kd_n2 Ea8 A8a8 (by simp [kd])))).trans A8a8
  first | refine j_aload_n (pc := 57) F dX9_init_57 rfl ?_ | refine j_aload_nq (pc := 57) F dX9_init_57 rfl ?_
  refine j_sipush (pc := 58) (v := (nI 9216)) F dX9_init_58 (by decide) ?_
  refine j_newaI (pc := 61) F (N := 9216) (by decide) (by decide) (by decide) (by omega) (by omega) dX9_init_61 (fun x9 hx9 _ => ?_)
  generalize hg9 : hUp hb8 x9 (aI g 9216 (fun _ => 0)) = ha9
  have Ea9 : ha9 y = some (.inr (9, [.int 0, .ref x1, .int 0, .int 0, .ref x4, .ref x5, .ref x6, .ref x7, .ref x8, .null, .int 0, .null, .null, .null, .null, .int 0])) := by rw [← hg9]; exact (hUp_n (nn_ne Eb8 hx9)).trans Eb8
  have A9a9 : ha9 x9 = some (aI g 9216 (fun _ => 0)) := by rw [← hg9]; exact hUp_s
  have N1_9 : x1 ≠ x9 := nn_ne A1b8 hx9
  have A1a9 : ha9 x1 = some (aI g 8 (fun _ => 0)) := by rw [← hg9]; exact (hUp_n N1_9).trans A1b8
  have N4_9 : x4 ≠ x9 := nn_ne A4b8 hx9
  have A4a9 : ha9 x4 = some (aI g 300 (fun _ => 0)) := by rw [← hg9]; exact (hUp_n N4_9).trans A4b8
  have N5_9 : x5 ≠ x9 := nn_ne A5b8 hx9
  have A5a9 : ha9 x5 = some (aI g 300 (fun _ => 0)) := by rw [← hg9]; exact (hUp_n N5_9).trans A5b8
  have N6_9 : x6 ≠ x9 := nn_ne A6b8 hx9
  have A6a9 : ha9 x6 = some (aI g 300 (fun _ => 0)) := by rw [← hg9]; exact (hUp_n N6_9).trans A6b8
  have N7_9 : x7 ≠ x9 := nn_ne A7b8 hx9
  have A7a9 : ha9 x7 = some (aI g 300 (fun _ => 0)) := by rw [← hg9]; exact (hUp_n N7_9).trans A7b8
  have N8_9 : x8 ≠ x9 := nn_ne A8b8 hx9
  have A8a9 : ha9 x8 = some (aI g 2400 (fun _ => 0)) := by rw [← hg9]; exact (hUp_n N8_9).trans A8b8
  refine j_putF (pc := 63) F fp_X9_28 hn rfl (by first | assumption | exact hUp_s) (by rfl) (by rfl) (Nat.le_of_ble_eq_true rfl) dX9_init_63 ?_
  generalize hi9 : hUp ha9 y _ = hb9
  have Eb9 : hb9 y = some (.inr (9, [.int 0, .ref x1, .int 0, .int 0, .ref x4, .ref x5, .ref x6, .ref x7, .ref x8, .ref x9, .int 0, .null, .null, .null, .null, .int 0])) := by rw [← hi9]; exact hUp_s
  have A1b9 : hb9 x1 = some (aI g 8 (fun _ => 0)) := by rw [← hi9]; exact (hUp_n (Ne.symm (kd_n2 Ea9 A1a9 (by simp [kd])))).trans A1a9
  have A4b9 : hb9 x4 = some (aI g 300 (fun _ => 0)) := by rw [← hi9]; exact (hUp_n (Ne.symm (kd_n2 Ea9 A4a9 (by simp [kd])))).trans A4a9
  have A5b9 : hb9 x5 = some (aI g 300 (fun _ => 0)) := by rw [← hi9]; exact (hUp_n (Ne.symm (kd_n2 Ea9 A5a9 (by simp [kd])))).trans A5a9
  have A6b9 : hb9 x6 = some (aI g 300 (fun _ => 0)) := by rw [← hi9]; exact (hUp_n (Ne.symm (kd_n2 Ea9 A6a9 (by simp [kd])))).trans A6a9
  have A7b9 : hb9 x7 = some (aI g 300 (fun _ => 0)) := by rw [← hi9]; exact (hUp_n (Ne.symm (kd_n2 Ea9 A7a9 (by simp [kd])))).trans A7a9
  have A8b9 : hb9 x8 = some (aI g 2400 (fun _ => 0)) := by rw [← hi9]; exact (hUp_n (Ne.symm (kd_n2 Ea9 A8a9 (by simp [kd])))).trans A8a9
  have A9b9 : hb9 x9 = some (aI g 9216 (fun _ => 0)) := by rw [← hi9]; exact (hUp_n (Ne.symm (kd_n2 Ea9 A9a9 (by simp [kd])))).trans A9a9
  first | refine j_aload_n (pc := 66) F dX9_init_66 rfl ?_ | refine j_aload_nq (pc := 66) F dX9_init_66 rfl ?_
  refine j_bipush (pc := 67) (v := (nI 20)) F dX9_init_67 (by decide) ?_
  refine j_newaI (pc := 69) F (N := 20) (by decide) (by decide) (by decide) (by omega) (by omega) dX9_init_69 (fun x11 hx11 _ => ?_)
  generalize hg11 : hUp hb9 x11 (aI g 20 (fun _ => 0)) = ha11
  have Ea11 : ha11 y = some (.inr (9, [.int 0, .ref x1, .int 0, .int 0, .ref x4, .ref x5, .ref x6, .ref x7, .ref x8, .ref x9, .int 0, .null, .null, .null, .null, .int 0])) := by rw [← hg11]; exact (hUp_n (nn_ne Eb9 hx11)).trans Eb9
  have A11a11 : ha11 x11 = some (aI g 20 (fun _ => 0)) := by rw [← hg11]; exact hUp_s
  have N1_11 : x1 ≠ x11 := nn_ne A1b9 hx11
  have A1a11 : ha11 x1 = some (aI g 8 (fun _ => 0)) := by rw [← hg11]; exact (hUp_n N1_11).trans A1b9
  have N4_11 : x4 ≠ x11 := nn_ne A4b9 hx11
  have A4a11 : ha11 x4 = some (aI g 300 (fun _ => 0)) := by rw [← hg11]; exact (hUp_n N4_11).trans A4b9
  have N5_11 : x5 ≠ x11 := nn_ne A5b9 hx11
  have A5a11 : ha11 x5 = some (aI g 300 (fun _ => 0)) := by rw [← hg11]; exact (hUp_n N5_11).trans A5b9
  have N6_11 : x6 ≠ x11 := nn_ne A6b9 hx11
  have A6a11 : ha11 x6 = some (aI g 300 (fun _ => 0)) := by rw [← hg11]; exact (hUp_n N6_11).trans A6b9
  have N7_11 : x7 ≠ x11 := nn_ne A7b9 hx11
  have A7a11 : ha11 x7 = some (aI g 300 (fun _ => 0)) := by rw [← hg11]; exact (hUp_n N7_11).trans A7b9
  have N8_11 : x8 ≠ x11 := nn_ne A8b9 hx11
  have A8a11 : ha11 x8 = some (aI g 2400 (fun _ => 0)) := by rw [← hg11]; exact (hUp_n N8_11).trans A8b9
  have N9_11 : x9 ≠ x11 := nn_ne A9b9 hx11
  have A9a11 : ha11 x9 = some (aI g 9216 (fun _ => 0)) := by rw [← hg11]; exact (hUp_n N9_11).trans A9b9
  refine j_putF (pc := 71) F fp_X9_31 hn rfl (by first | assumption | exact hUp_s) (by rfl) (by rfl) (Nat.le_of_ble_eq_true rfl) dX9_init_71 ?_
  generalize hi11 : hUp ha11 y _ = hb11
  have Eb11 : hb11 y = some (.inr (9, [.int 0, .ref x1, .int 0, .int 0, .ref x4, .ref x5, .ref x6, .ref x7, .ref x8, .ref x9, .int 0, .ref x11, .null, .null, .null, .int 0])) := by rw [← hi11]; exact hUp_s
  have A1b11 : hb11 x1 = some (aI g 8 (fun _ => 0)) := by rw [← hi11]; exact (hUp_n (Ne.symm (kd_n2 Ea11 A1a11 (by simp [kd])))).trans A1a11
  have A4b11 : hb11 x4 = some (aI g 300 (fun _ => 0)) := by rw [← hi11]; exact (hUp_n (Ne.symm (kd_n2 Ea11 A4a11 (by simp [kd])))).trans A4a11
  have A5b11 : hb11 x5 = some (aI g 300 (fun _ => 0)) := by rw [← hi11]; exact (hUp_n (Ne.symm (kd_n2 Ea11 A5a11 (by simp [kd])))).trans A5a11
  have A6b11 : hb11 x6 = some (aI g 300 (fun _ => 0)) := by rw [← hi11]; exact (hUp_n (Ne.symm (kd_n2 Ea11 A6a11 (by simp [kd])))).trans A6a11
  have A7b11 : hb11 x7 = some (aI g 300 (fun _ => 0)) := by rw [← hi11]; exact (hUp_n (Ne.symm (kd_n2 Ea11 A7a11 (by simp [kd])))).trans A7a11
  have A8b11 : hb11 x8 = some (aI g 2400 (fun _ => 0)) := by rw [← hi11]; exact (hUp_n (Ne.symm (kd_n2 Ea11 A8a11 (by simp [kd])))).trans A8a11
  have A9b11 : hb11 x9 = some (aI g 9216 (fun _ => 0)) := by rw [← hi11]; exact (hUp_n (Ne.symm (kd_n2 Ea11 A9a11 (by simp [kd])))).trans A9a11
  have A11b11 : hb11 x11 = some (aI g 20 (fun _ => 0)) := by rw [← hi11]; exact (hUp_n (Ne.symm (kd_n2 Ea11 A11a11 (by simp [kd])))).trans A11a11
  first | refine j_aload_n (pc := 74) F dX9_init_74 rfl ?_ | refine j_aload_nq (pc := 74) F dX9_init_74 rfl ?_
  refine j_bipush (pc := 75) (v := (nI 20)) F dX9_init_75 (by decide) ?_
  refine j_newaI (pc := 77) F (N := 20) (by decide) (by decide) (by decide) (by omega) (by omega) dX9_init_77 (fun x12 hx12 _ => ?_)
  generalize hg12 : hUp hb11 x12 (aI g 20 (fun _ => 0)) = ha12
  have Ea12 : ha12 y = some (.inr (9, [.int 0, .ref x1, .int 0, .int 0, .ref x4, .ref x5, .ref x6, .ref x7, .ref x8, .ref x9, .int 0, .ref x11, .null, .null, .null, .int 0])) := by rw [← hg12]; exact (hUp_n (nn_ne Eb11 hx12)).trans Eb11
  have A12a12 : ha12 x12 = some (aI g 20 (fun _ => 0)) := by rw [← hg12]; exact hUp_s
  have N1_12 : x1 ≠ x12 := nn_ne A1b11 hx12
  have A1a12 : ha12 x1 = some (aI g 8 (fun _ => 0)) := by rw [← hg12]; exact (hUp_n N1_12).trans A1b11
  have N4_12 : x4 ≠ x12 := nn_ne A4b11 hx12
  have A4a12 : ha12 x4 = some (aI g 300 (fun _ => 0)) := by rw [← hg12]; exact (hUp_n N4_12).trans A4b11
  have N5_12 : x5 ≠ x12 := nn_ne A5b11 hx12
  have A5a12 : ha12 x5 = some (aI g 300 (fun _ => 0)) := by rw [← hg12]; exact (hUp_n N5_12).trans A5b11
  have N6_12 : x6 ≠ x12 := nn_ne A6b11 hx12
  have A6a12 : ha12 x6 = some (aI g 300 (fun _ => 0)) := by rw [← hg12]; exact (hUp_n N6_12).trans A6b11
  have N7_12 : x7 ≠ x12 := nn_ne A7b11 hx12
  have A7a12 : ha12 x7 = some (aI g 300 (fun _ => 0)) := by rw [← hg12]; exact (hUp_n N7_12).trans A7b11
  have N8_12 : x8 ≠ x12 := nn_ne A8b11 hx12
  have A8a12 : ha12 x8 = some (aI g 2400 (fun _ => 0)) := by rw [← hg12]; exact (hUp_n N8_12).trans A8b11
  have N9_12 : x9 ≠ x12 := nn_ne A9b11 hx12
  have A9a12 : ha12 x9 = some (aI g 9216 (fun _ => 0)) := by rw [← hg12]; exact (hUp_n N9_12).trans A9b11
  have N11_12 : x11 ≠ x12 := nn_ne A11b11 hx12
  have A11a12 : ha12 x11 = some (aI g 20 (fun _ => 0)) := by rw [← hg12]; exact (hUp_n N11_12).trans A11b11
  refine j_putF (pc := 79) F fp_X9_34 hn rfl (by first | assumption | exact hUp_s) (by rfl) (by rfl) (Nat.le_of_ble_eq_true rfl) dX9_init_79 ?_
  generalize hi12 : hUp ha12 y _ = hb12
  have Eb12 : hb12 y = some (.inr (9, [.int 0, .ref x1, .int 0, .int 0, .ref x4, .ref x5, .ref x6, .ref x7, .ref x8, .ref x9, .int 0, .ref x11, .ref x12, .null, .null, .int 0])) := by rw [← hi12]; exact hUp_s
  have A1b12 : hb12 x1 = some (aI g 8 (fun _ => 0)) := by rw [← hi12]; exact (hUp_n (Ne.symm (kd_n2 Ea12 A1a12 (by simp [kd])))).trans A1a12
  have A4b12 : hb12 x4 = some (aI g 300 (fun _ => 0)) := by rw [← hi12]; exact (hUp_n (Ne.symm (kd_n2 Ea12 A4a12 (by simp [kd])))).trans A4a12
  have A5b12 : hb12 x5 = some (aI g 300 (fun _ => 0)) := by rw [← hi12]; exact (hUp_n (Ne.symm (kd_n2 Ea12 A5a12 (by simp [kd])))).trans A5a12
  have A6b12 : hb12 x6 = some (aI g 300 (fun _ => 0)) := by rw [← hi12]; exact (hUp_n (Ne.symm (kd_n2 Ea12 A6a12 (by simp [kd])))).trans A6a12
  have A7b12 : hb12 x7 = some (aI g 300 (fun _ => 0)) := by rw [← hi12]; exact (hUp_n (Ne.symm (kd_n2 Ea12 A7a12 (by simp [kd])))).trans A7a12
  have A8b12 : hb12 x8 = some (aI g 2400 (fun _ => 0)) := by rw [← hi12]; exact (hUp_n (Ne.symm (kd_n2 Ea12 A8a12 (by simp [kd])))).trans A8a12
  have A9b12 : hb12 x9 = some (aI g 9216 (fun _ => 0)) := by rw [← hi12]; exact (hUp_n (Ne.symm (kd_n2 Ea12 A9a12 (by simp [kd])))).trans A9a12
  have A11b12 : hb12 x11 = some (aI g 20 (fun _ => 0)) := by rw [← hi12]; exact (hUp_n (Ne.symm (kd_n2 Ea12 A11a12 (by simp [kd])))).trans A11a12
  have A12b12 : hb12 x12 = some (aI g 20 (fun _ => 0)) := by rw [← hi12]; exact (hUp_n (Ne.symm (kd_n2 Ea12 A12a12 (by simp [kd])))).trans A12a12
  first | refine j_aload_n (pc := 82) F dX9_init_82 rfl ?_ | refine j_aload_nq (pc := 82) F dX9_init_82 rfl ?_
  refine j_bipush (pc := 83) (v := (nI 20)) F dX9_init_83 (by decide) ?_
  refine j_newaI (pc := 85) F (N := 20) (by decide) (by decide) (by decide) (by omega) (by omega) dX9_init_85 (fun x13 hx13 _ => ?_)
  generalize hg13 : hUp hb12 x13 (aI g 20 (fun _ => 0)) = ha13
  have Ea13 : ha13 y = some (.inr (9, [.int 0, .ref x1, .int 0, .int 0, .ref x4, .ref x5, .ref x6, .ref x7, .ref x8, .ref x9, .int 0, .ref x11, .ref x12, .null, .null, .int 0])) := by rw [← hg13]; exact (hUp_n (nn_ne Eb12 hx13)).trans Eb12
  have A13a13 : ha13 x13 = some (aI g 20 (fun _ => 0)) := by rw [← hg13]; exact hUp_s
  have N1_13 : x1 ≠ x13 := nn_ne A1b12 hx13
  have A1a13 : ha13 x1 = some (aI g 8 (fun _ => 0)) := by rw [← hg13]; exact (hUp_n N1_13).trans A1b12
  have N4_13 : x4 ≠ x13 := nn_ne A4b12 hx13
  have A4a13 : ha13 x4 = some (aI g 300 (fun _ => 0)) := by rw [← hg13]; exact (hUp_n N4_13).trans A4b12
  have N5_13 : x5 ≠ x13 := nn_ne A5b12 hx13
  have A5a13 : ha13 x5 = some (aI g 300 (fun _ => 0)) := by rw [← hg13]; exact (hUp_n N5_13).trans A5b12
  have N6_13 : x6 ≠ x13 := nn_ne A6b12 hx13
  have A6a13 : ha13 x6 = some (aI g 300 (fun _ => 0)) := by rw [← hg13]; exact (hUp_n N6_13).trans A6b12
  have N7_13 : x7 ≠ x13 := nn_ne A7b12 hx13
  have A7a13 : ha13 x7 = some (aI g 300 (fun _ => 0)) := by rw [← hg13]; exact (hUp_n N7_13).trans A7b12
  have N8_13 : x8 ≠ x13 := nn_ne A8b12 hx13
  have A8a13 : ha13 x8 = some (aI g 2400 (fun _ => 0)) := by rw [← hg13]; exact (hUp_n N8_13).trans A8b12
  have N9_13 : x9 ≠ x13 := nn_ne A9b12 hx13
  have A9a13 : ha13 x9 = some (aI g 9216 (fun _ => 0)) := by rw [← hg13]; exact (hUp_n N9_13).trans A9b12
  have N11_13 : x11 ≠ x13 := nn_ne A11b12 hx13
  have A11a13 : ha13 x11 = some (aI g 20 (fun _ => 0)) := by rw [← hg13]; exact (hUp_n N11_13).trans A11b12
  have N12_13 : x12 ≠ x13 := nn_ne A12b12 hx13
  have A12a13 : ha13 x12 = some (aI g 20 (fun _ => 0)) := by rw [← hg13]; exact (hUp_n N12_13).trans A12b12
  refine j_putF (pc := 87) F fp_X9_37 hn rfl (by first | assumption | exact hUp_s) (by rfl) (by rfl) (Nat.le_of_ble_eq_true rfl) dX9_init_87 ?_
  generalize hi13 : hUp ha13 y _ = hb13
  have Eb13 : hb13 y = some (.inr (9, [.int 0, .ref x1, .int 0, .int 0, .ref x4, .ref x5, .ref x6, .ref x7, .ref x8, .ref x9, .int 0, .ref x11, .ref x12, .ref x13, .null, .int 0])) := by rw [← hi13]; exact hUp_s
  have A1b13 : hb13 x1 = some (aI g 8 (fun _ => 0)) := by rw [← hi13]; exact (hUp_n (Ne.symm (kd_n2 Ea13 A1a13 (by simp [kd])))).trans A1a13
  have A4b13 : hb13 x4 = some (aI g 300 (fun _ => 0)) := by rw [← hi13]; exact (hUp_n (Ne.symm (kd_n2 Ea13 A4a13 (by simp [kd])))).trans A4a13
  have A5b13 : hb13 x5 = some (aI g 300 (fun _ => 0)) := by rw [← hi13]; exact (hUp_n (Ne.symm (kd_n2 Ea13 A5a13 (by simp [kd])))).trans A5a13
  have A6b13 : hb13 x6 = some (aI g 300 (fun _ => 0)) := by rw [← hi13]; exact (hUp_n (Ne.symm (kd_n2 Ea13 A6a13 (by simp [kd])))).trans A6a13
  have A7b13 : hb13 x7 = some (aI g 300 (fun _ => 0)) := by rw [← hi13]; exact (hUp_n (Ne.symm (kd_n2 Ea13 A7a13 (by simp [kd])))).trans A7a13
  have A8b13 : hb13 x8 = some (aI g 2400 (fun _ => 0)) := by rw [← hi13]; exact (hUp_n (Ne.symm (kd_n2 Ea13 A8a13 (by simp [kd])))).trans A8a13
  have A9b13 : hb13 x9 = some (aI g 9216 (fun _ => 0)) := by rw [← hi13]; exact (hUp_n (Ne.symm (kd_n2 Ea13 A9a13 (by simp [kd])))).trans A9a13
  have A11b13 : hb13 x11 = some (aI g 20 (fun _ => 0)) := by rw [← hi13]; exact (hUp_n (Ne.symm (kd_n2 Ea13 A11a13 (by simp [kd])))).trans A11a13
  have A12b13 : hb13 x12 = some (aI g 20 (fun _ => 0)) := by rw [← hi13]; exact (hUp_n (Ne.symm (kd_n2 Ea13 A12a13 (by simp [kd])))).trans A12a13
  have A13b13 : hb13 x13 = some (aI g 20 (fun _ => 0)) := by rw [← hi13]; exact (hUp_n (Ne.symm (kd_n2 Ea13 A13a13 (by simp [kd])))).trans A13a13
  first | refine j_aload_n (pc := 90) F dX9_init_90 rfl ?_ | refine j_aload_nq (pc := 90) F dX9_init_90 rfl ?_
  refine j_sipush (pc := 91) (v := (nI 961)) F dX9_init_91 (by decide) ?_
  refine j_newaI (pc := 94) F (N := 961) (by decide) (by decide) (by decide) (by omega) (by omega) dX9_init_94 (fun x14 hx14 _ => ?_)
  generalize hg14 : hUp hb13 x14 (aI g 961 (fun _ => 0)) = ha14
  have Ea14 : ha14 y = some (.inr (9, [.int 0, .ref x1, .int 0, .int 0, .ref x4, .ref x5, .ref x6, .ref x7, .ref x8, .ref x9, .int 0, .ref x11, .ref x12, .ref x13, .null, .int 0])) := by rw [← hg14]; exact (hUp_n (nn_ne Eb13 hx14)).trans Eb13
  have A14a14 : ha14 x14 = some (aI g 961 (fun _ => 0)) := by rw [← hg14]; exact hUp_s
  have N1_14 : x1 ≠ x14 := nn_ne A1b13 hx14
  have A1a14 : ha14 x1 = some (aI g 8 (fun _ => 0)) := by rw [← hg14]; exact (hUp_n N1_14).trans A1b13
  have N4_14 : x4 ≠ x14 := nn_ne A4b13 hx14
  have A4a14 : ha14 x4 = some (aI g 300 (fun _ => 0)) := by rw [← hg14]; exact (hUp_n N4_14).trans A4b13
  have N5_14 : x5 ≠ x14 := nn_ne A5b13 hx14
  have A5a14 : ha14 x5 = some (aI g 300 (fun _ => 0)) := by rw [← hg14]; exact (hUp_n N5_14).trans A5b13
  have N6_14 : x6 ≠ x14 := nn_ne A6b13 hx14
  have A6a14 : ha14 x6 = some (aI g 300 (fun _ => 0)) := by rw [← hg14]; exact (hUp_n N6_14).trans A6b13
  have N7_14 : x7 ≠ x14 := nn_ne A7b13 hx14
  have A7a14 : ha14 x7 = some (aI g 300 (fun _ => 0)) := by rw [← hg14]; exact (hUp_n N7_14).trans A7b13
  have N8_14 : x8 ≠ x14 := nn_ne A8b13 hx14
  have A8a14 : ha14 x8 = some (aI g 2400 (fun _ => 0)) := by rw [← hg14]; exact (hUp_n N8_14).trans A8b13
  have N9_14 : x9 ≠ x14 := nn_ne A9b13 hx14
  have A9a14 : ha14 x9 = some (aI g 9216 (fun _ => 0)) := by rw [← hg14]; exact (hUp_n N9_14).trans A9b13
  have N11_14 : x11 ≠ x14 := nn_ne A11b13 hx14
  have A11a14 : ha14 x11 = some (aI g 20 (fun _ => 0)) := by rw [← hg14]; exact (hUp_n N11_14).trans A11b13
  have N12_14 : x12 ≠ x14 := nn_ne A12b13 hx14
  have A12a14 : ha14 x12 = some (aI g 20 (fun _ => 0)) := by rw [← hg14]; exact (hUp_n N12_14).trans A12b13
  have N13_14 : x13 ≠ x14 := nn_ne A13b13 hx14
  have A13a14 : ha14 x13 = some (aI g 20 (fun _ => 0)) := by rw [← hg14]; exact (hUp_n N13_14).trans A13b13
  refine j_putF (pc := 96) F fp_X9_40 hn rfl (by first | assumption | exact hUp_s) (by rfl) (by rfl) (Nat.le_of_ble_eq_true rfl) dX9_init_96 ?_
  generalize hi14 : hUp ha14 y _ = hb14
  have Eb14 : hb14 y = some (.inr (9, [.int 0, .ref x1, .int 0, .int 0, .ref x4, .ref x5, .ref x6, .ref x7, .ref x8, .ref x9, .int 0, .ref x11, .ref x12, .ref x13, .ref x14, .int 0])) := by rw [← hi14]; exact hUp_s
  have A1b14 : hb14 x1 = some (aI g 8 (fun _ => 0)) := by rw [← hi14]; exact (hUp_n (Ne.symm (kd_n2 Ea14 A1a14 (by simp [kd])))).trans A1a14
  have A4b14 : hb14 x4 = some (aI g 300 (fun _ => 0)) := by rw [← hi14]; exact (hUp_n (Ne.symm (kd_n2 Ea14 A4a14 (by simp [kd])))).trans A4a14
  have A5b14 : hb14 x5 = some (aI g 300 (fun _ => 0)) := by rw [← hi14]; exact (hUp_n (Ne.symm (kd_n2 Ea14 A5a14 (by simp [kd])))).trans A5a14
  have A6b14 : hb14 x6 = some (aI g 300 (fun _ => 0)) := by rw [← hi14]; exact (hUp_n (Ne.symm (kd_n2 Ea14 A6a14 (by simp [kd])))).trans A6a14
  have A7b14 : hb14 x7 = some (aI g 300 (fun _ => 0)) := by rw [← hi14]; exact (hUp_n (Ne.symm (kd_n2 Ea14 A7a14 (by simp [kd])))).trans A7a14
  have A8b14 : hb14 x8 = some (aI g 2400 (fun _ => 0)) := by rw [← hi14]; exact (hUp_n (Ne.symm (kd_n2 Ea14 A8a14 (by simp [kd])))).trans A8a14
  have A9b14 : hb14 x9 = some (aI g 9216 (fun _ => 0)) := by rw [← hi14]; exact (hUp_n (Ne.symm (kd_n2 Ea14 A9a14 (by simp [kd])))).trans A9a14
  have A11b14 : hb14 x11 = some (aI g 20 (fun _ => 0)) := by rw [← hi14]; exact (hUp_n (Ne.symm (kd_n2 Ea14 A11a14 (by simp [kd])))).trans A11a14
  have A12b14 : hb14 x12 = some (aI g 20 (fun _ => 0)) := by rw [← hi14]; exact (hUp_n (Ne.symm (kd_n2 Ea14 A12a14 (by simp [kd])))).trans A12a14
  have A13b14 : hb14 x13 = some (aI g 20 (fun _ => 0)) := by rw [← hi14]; exact (hUp_n (Ne.symm (kd_n2 Ea14 A13a14 (by simp [kd])))).trans A13a14
  have A14b14 : hb14 x14 = some (aI g 961 (fun _ => 0)) := by rw [← hi14]; exact (hUp_n (Ne.symm (kd_n2 Ea14 A14a14 (by simp [kd])))).trans A14a14
  have z : isMx g hb14 y s0 0 (aN x1 x4 x5 x6 x7 x8 x9 x11 x12 x13 x14) (fun _ _ _ => some 0) := by
    refine ⟨Eb14, fun k hk => ?_, fun i j hi hj hij => ?_⟩
    · rcases ix_or hk with rfl | rfl | rfl | rfl | rfl | rfl | rfl | rfl | rfl | rfl | rfl
      · exact ⟨_, A1b14, fun u hu => absurd hu (Nat.not_lt_zero u)⟩
      · exact ⟨_, A4b14, fun u hu => absurd hu (Nat.not_lt_zero u)⟩
      · exact ⟨_, A5b14, fun u hu => absurd hu (Nat.not_lt_zero u)⟩
      · exact ⟨_, A6b14, fun u hu => absurd hu (Nat.not_lt_zero u)⟩
      · exact ⟨_, A7b14, fun u hu => absurd hu (Nat.not_lt_zero u)⟩
      · exact ⟨_, A8b14, fun u _ hu => absurd hu (Nat.not_lt_zero u)⟩
      · exact ⟨_, A9b14, fun _ _ _ _ _ _ => rfl⟩
      · exact ⟨_, A11b14, fun u hu => absurd hu (Nat.not_lt_zero u)⟩
      · exact ⟨_, A12b14, fun u hu => absurd hu (Nat.not_lt_zero u)⟩
      · exact ⟨_, A13b14, fun u hu => absurd hu (Nat.not_lt_zero u)⟩
      · exact ⟨_, A14b14, fun _ _ _ _ => rfl⟩
    · rcases ix_or hi with rfl | rfl | rfl | rfl | rfl | rfl | rfl | rfl | rfl | rfl | rfl <;> rcases ix_or hj with rfl | rfl | rfl | rfl | rfl | rfl | rfl | rfl | rfl | rfl | rfl <;> first | exact absurd rfl hij | assumption | (apply Ne.symm; assumption)
  have e0 := z.cl
  first | refine j_aload_n (pc := 99) F dX9_init_99 rfl ?_ | refine j_aload_nq (pc := 99) F dX9_init_99 rfl ?_
  refine j_iconst (pc := 100) (v := (nI 0)) F dX9_init_100 (by decide) ?_
  refine j_rv (j_runV (pc := 101) F (c_X9_clearTable (k := 0) (by decide) z) m_X9_clearTable mv_X9_clearTable lk_X9_43 (by first | assumption | exact hUp_s) rfl ⟨by decide, by decide⟩ (Nat.le_of_ble_eq_true rfl) ⟨by omega, by omega⟩ rfl dX9_init_101) (fun h9 hp => ?_)
  obtain ⟨z9, -⟩ := hp
  exact j_vret F hQ rfl (by omega) (by omega) dX9_init_104 ⟨_, _, z9, fun p q _ _ => by rw [ctUp_s]; rfl⟩
end MQ7
