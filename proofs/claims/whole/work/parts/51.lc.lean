def LI (g : GG) (x y o : Nat) (s : SG) (h : HF) : Prop := ∃ (hc hm : HF) (fo : Nat → Int64) (th : Nat), h = mg hm (mg (sg o (aJ g 1 fo)) hc) ∧ dj (sg o (aJ g 1 fo)) hc ∧ dj hm (mg (sg o (aJ g 1 fo)) hc) ∧ isB g hc x s ∧ isM g hm y s th ∧ wf s
abbrev LV (b x y o i : Nat) : List (Nat × Value) := [(0, .ref b), (1, .ref x), (2, .ref y), (3, .ref o), (4, .int (nI i))]
theorem nw_L : Cond.initialized RL ∈ wU := wU_at 22 (by decide +kernel) rfl
theorem nxt_s {c : Nat} {s : SG} : nxt c s s = s := by
  unfold nxt
  split <;> rfl
theorem cmp_self (x : Int64) : lg_cmp x x = 0 := by unfold lg_cmp; simp
theorem nI_z {c : Nat} (h : c ≤ 4) (e : nI c = 0) : c = 0 := by
  have := congrArg Int32.toInt e
  rw [nI_toInt (by omega)] at this
  have e : (0 : Int32).toInt = 0 := by decide
  omega
theorem tcode_le4 {s : SG} {v : Int32} : tcode s v ≤ 4 := by
  unfold tcode
  repeat' split
  all_goals omega
theorem hcode_le4 {s : SG} {v : Int32} : hcode s v ≤ 4 := by
  unfold hcode
  repeat' split
  all_goals omega
theorem ncode_le4 {s : SG} {p a b : Int32} : ncode s p a b ≤ 4 := by
  unfold ncode
  repeat' split
  all_goals omega
theorem dcode_le4 {s : SG} {p : Int32} : dcode s p ≤ 4 := by
  unfold dcode
  repeat' split
  all_goals omega
theorem acode_le4 {s : SG} {a b lo og : Int32} : acode s a b lo og ≤ 4 := by
  unfold acode
  repeat' split
  all_goals omega
theorem lcode_le4 {a b v : Int32} : lcode a b v ≤ 4 := by
  unfold lcode
  repeat' split
  all_goals omega
theorem p1code_le4 {p : Int32} : p1code p ≤ 4 := by
  unfold p1code
  repeat' split
  all_goals omega
theorem a1code_le4 {a : Int32} : a1code a ≤ 4 := by
  unfold a1code
  repeat' split
  all_goals omega
theorem xcode_le4 {a b : Int32} : xcode a b ≤ 4 := by
  unfold xcode
  repeat' split
  all_goals omega
theorem rcode_le4 {s : SG} {p a b : Int32} : rcode s p a b ≤ 4 := Nat.le_trans rcode_le (by decide)
theorem wcode_le4 {s : SG} {p a b : Int32} : wcode s p a b ≤ 4 := by
  have h : rcode s p a b ≤ 3 := rcode_le
  unfold wcode
  repeat' split
  all_goals omega
theorem pcode_le4 {s : SG} {p a b i : Int32} : pcode s p a b i ≤ 4 := by
  have h : rcode s p a b ≤ 3 := rcode_le
  unfold pcode
  repeat' split
  all_goals omega
theorem wn_pass : (parseMethodDescriptor yL_pass.desc).map (fun d => d.parameters.length) = some 3 := by decide +kernel
theorem wn_hop : (parseMethodDescriptor yL_hop.desc).map (fun d => d.parameters.length) = some 3 := by decide +kernel
theorem wn_announce : (parseMethodDescriptor yL_announce.desc).map (fun d => d.parameters.length) = some 5 := by decide +kernel
theorem wn_withdraw : (parseMethodDescriptor yL_withdraw.desc).map (fun d => d.parameters.length) = some 5 := by decide +kernel
theorem wn_drop : (parseMethodDescriptor yL_drop.desc).map (fun d => d.parameters.length) = some 3 := by decide +kernel
theorem wn_routes : (parseMethodDescriptor yL_routes.desc).map (fun d => d.parameters.length) = some 3 := by decide +kernel
theorem wn_pathAt : (parseMethodDescriptor yL_pathAt.desc).map (fun d => d.parameters.length) = some 6 := by decide +kernel
theorem wn_bestPeer : (parseMethodDescriptor yL_bestPeer.desc).map (fun d => d.parameters.length) = some 4 := by decide +kernel
theorem wn_lookUp : (parseMethodDescriptor yL_lookUp.desc).map (fun d => d.parameters.length) = some 3 := by decide +kernel
theorem wn_lookUpByScan : (parseMethodDescriptor yL_lookUpByScan.desc).map (fun d => d.parameters.length) = some 3 := by decide +kernel
theorem wn_origins : (parseMethodDescriptor yL_origins.desc).map (fun d => d.parameters.length) = some 4 := by decide +kernel
theorem wn_isHijack : (parseMethodDescriptor yL_isHijack.desc).map (fun d => d.parameters.length) = some 5 := by decide +kernel
theorem wn_allow : (parseMethodDescriptor yL_allow.desc).map (fun d => d.parameters.length) = some 6 := by decide +kernel
theorem wn_verdict : (parseMethodDescriptor yL_verdict.desc).map (fun d => d.parameters.length) = some 5 := by decide +kernel
theorem wn_relate : (parseMethodDescriptor yL_relate.desc).map (fun d => d.parameters.length) = some 5 := by decide +kernel
theorem wn_valley : (parseMethodDescriptor yL_valley.desc).map (fun d => d.parameters.length) = some 5 := by decide +kernel
theorem wn_lookUpAt : (parseMethodDescriptor yL_lookUpAt.desc).map (fun d => d.parameters.length) = some 4 := by decide +kernel
theorem wn_originAt : (parseMethodDescriptor yL_originAt.desc).map (fun d => d.parameters.length) = some 4 := by decide +kernel
section LC
variable {l : Launch} {X : Cx} {g : GG} {A : Nat → Prop} {k n : Nat} {h : HF} {b L : Nat} {xs : Nat → Int32} {x y o i : Nat} {s : SG}
theorem lc_pass (hst : l.stackTraces = false) (F : Fx l X g A RL cL_law 7 (some .boolean) 12 601024 7293034) (hN : NC (xS X)) (hX : va_X b L xs (xS X) (xS X).heap) (hbl : b < (xS X).heap.size) (hbA : ¬ A b) (hL : L ≤ 2560) (hi : i + 4 < L) (hk : k + 8 ≤ 601024 ∧ n + 48 ≤ 7293034) (I : LI g x y o s h) (kk : ∀ (s2 : SG) (h2 : HF) (lv2 : List (Nat × Value)), LI g x y o s2 h2 → lall lv2 (LV b x y o i) → J l X g A 7 (k + 8) (n + 48) h2 1543 lv2 []) : J l X g A 7 k n h 148 (LV b x y o i) [] := by
  obtain ⟨hc, hm, fo, th, rfl, d1, d2, hB, hM, w⟩ := I
  first | refine j_aload_n (pc := 148) F dL_law_148 rfl ?_ | refine j_aload_nq (pc := 148) F dL_law_148 rfl ?_
  first | refine j_aload_n (pc := 149) F dL_law_149 rfl ?_ | refine j_aload_nq (pc := 149) F dL_law_149 rfl ?_
  refine j_iload (pc := 150) F dL_law_150 rfl ?_
  refine j_iconst (pc := 152) (v := (nI 1)) F dL_law_152 (by decide) ?_
  first | refine j_iaddN (pc := 153) F dL_law_153 ?_ | refine j_iadd (pc := 153) F dL_law_153 ?_
  refine j_sld (pc := 154) F hX hbl hbA (by omega) hL dL_law_154 ?_
  first | refine j_aload_n (pc := 155) F dL_law_155 rfl ?_ | refine j_aload_nq (pc := 155) F dL_law_155 rfl ?_
  refine jf_ri (jw_run (pc := 156) F d2 hN (w_pass (A := Ac A hm) hst w (p0 := xs (i + 1)) hB d1) ⟨wq_pass, nw_L, by decide +kernel, by decide +kernel, wn_pass⟩ wt_pass lk_L_81 ⟨by decide, by decide⟩ (Nat.le_of_ble_eq_true rfl) ⟨by omega, by omega⟩ rfl dL_law_156) (fun r u hp du => ?_)
  obtain ⟨u2, fo2, rfl, e1, rfl, e3, hB2⟩ := hp
  obtain ⟨aa, CC, z, -⟩ := id hM
  have zc := z.cl
  refine j_istore (pc := 159) F dL_law_159 (by decide) ?_
  first | refine j_aload_n (pc := 161) F dL_law_161 rfl ?_ | refine j_aload_nq (pc := 161) F dL_law_161 rfl ?_
  first | refine j_aload_n (pc := 162) F dL_law_162 rfl ?_ | refine j_aload_nq (pc := 162) F dL_law_162 rfl ?_
  refine j_iload (pc := 163) F dL_law_163 rfl ?_
  refine j_iconst (pc := 165) (v := (nI 1)) F dL_law_165 (by decide) ?_
  first | refine j_iaddN (pc := 166) F dL_law_166 ?_ | refine j_iadd (pc := 166) F dL_law_166 ?_
  refine j_sld (pc := 167) F hX hbl hbA (by omega) hL dL_law_167 ?_
  rw [mg_cm du]
  refine jf_ri (jf_runV (pc := 168) F (dj_cm du) (c_X9_pass (A := Ac A _) (v := xs (i + 1)) w hM) m_X9_pass mv_X9_pass lk_L_86 zc rfl ⟨by decide, by decide⟩ (Nat.le_of_ble_eq_true rfl) ⟨by omega, by omega⟩ rfl dL_law_168) (fun r2 v hp dv => ?_)
  obtain ⟨hM2, hv2⟩ := hp
  obtain ⟨aa2, CC2, z2, -⟩ := id hM2
  have zc2 := z2.cl
  refine j_istore (pc := 171) F dL_law_171 (by decide) ?_
  first | refine j_aload_n (pc := 173) F dL_law_173 rfl ?_ | refine j_aload_nq (pc := 173) F dL_law_173 rfl ?_
  refine jf_ri (jf_runV (pc := 174) F dv (c_X9_thrown (A := Ac A _) hM2) m_X9_thrown mv_X9_thrown lk_L_87 zc2 rfl ⟨by decide, by decide⟩ (Nat.le_of_ble_eq_true rfl) ⟨by omega, by omega⟩ rfl dL_law_174) (fun r3 v3 hp dv3 => ?_)
  obtain ⟨rfl, hM3⟩ := hp
  have hI : LI g x y o (nxt (tcode s (xs (i + 1))) (sPass s (pN (xs (i + 1)))) s) (mg (mg (sg o (aJ g 1 fo2)) u2) v3) := ⟨u2, v3, fo2, _, mg_cm dv3, e1, dj_cm dv3, hB2, hM3, wf_pass w⟩
  refine j_iload (pc := 177) F dL_law_177 rfl ?_
  refine j_icmp_eq (pc := 179) F 184 dL_law_179 (by decide) (fun c => ?_) (fun c => ?_)
  · refine j_iload (pc := 184) F dL_law_184 rfl ?_
    refine j_if_ne (pc := 186) F 201 dL_law_186 (by decide) (fun c2 => ?_) (fun c2 => ?_)
    · refine j_goto (pc := 201) F 1543 dL_law_201 (by decide) ?_
      exact j_widen (by omega) (by omega) (kk _ _ _ hI ⟨rfl, rfl, rfl, rfl, rfl, trivial⟩)
    · have hc0 : tcode s (xs (i + 1)) = 0 := nI_z tcode_le4 c2
      obtain ⟨v1, hV1, hfo⟩ := e3 hc0
      have hV2 := hv2 hc0
      have he : r2 = v1 := hV2.trans hV1.symm
      have eo : mg (mg (sg o (aJ g 1 fo2)) u2) v3 o = some (aJ g 1 fo2) := mg_o (mg_o hUp_s)
      first | refine j_aload_n (pc := 189) F dL_law_189 rfl ?_ | refine j_aload_nq (pc := 189) F dL_law_189 rfl ?_
      refine j_iconst (pc := 190) (v := (nI 0)) F dL_law_190 (by decide) ?_
      refine j_laldN (pc := 191) F eo (by omega) (by decide) dL_law_191 ?_
      refine j_iload (pc := 192) F dL_law_192 rfl ?_
      refine j_i2l (pc := 194) F dL_law_194 ?_
      refine j_lcmp (pc := 195) F dL_law_195 ?_
      refine j_if_eq (pc := 196) F 201 dL_law_196 (by decide) (fun c3 => ?_) (fun c3 => ?_)
      · refine j_goto (pc := 201) F 1543 dL_law_201 (by decide) ?_
        exact j_widen (by omega) (by omega) (kk _ _ _ hI ⟨rfl, rfl, rfl, rfl, rfl, trivial⟩)
      · exact absurd (by rw [hfo, he]; exact cmp_self _) c3
  · exact absurd rfl c
theorem lc_now (hst : l.stackTraces = false) (F : Fx l X g A RL cL_law 7 (some .boolean) 12 601024 7293034) (hN : NC (xS X)) (hX : va_X b L xs (xS X) (xS X).heap) (hbl : b < (xS X).heap.size) (hbA : ¬ A b) (hL : L ≤ 2560) (hi : i + 4 < L) (hk : k + 8 ≤ 601024 ∧ n + 48 ≤ 7293034) (I : LI g x y o s h) (kk : ∀ (s2 : SG) (h2 : HF) (lv2 : List (Nat × Value)), LI g x y o s2 h2 → lall lv2 (LV b x y o i) → J l X g A 7 (k + 8) (n + 48) h2 1543 lv2 []) : J l X g A 7 k n h 204 (LV b x y o i) [] := by
  obtain ⟨hc, hm, fo, th, rfl, d1, d2, hB, hM, w⟩ := I
  obtain ⟨pm, am, tr, hi2, rg, rl, T, E, kc, K, hBx⟩ := id hB
  have e0 := hBx.1
  obtain ⟨aa, CC, z, -⟩ := id hM
  have zc := z.cl
  first | refine j_aload_n (pc := 204) F dL_law_204 rfl ?_ | refine j_aload_nq (pc := 204) F dL_law_204 rfl ?_
  rw [mg_as]
  refine jf_ri (jf_runV (pc := 205) F (dj_l d2 d1) (c_X8_now (A := Ac A _) hB) m_X8_now mv_X8_now lk_L_91 e0 rfl ⟨by decide, by decide⟩ (Nat.le_of_ble_eq_true rfl) ⟨by omega, by omega⟩ rfl dL_law_205) (fun r u hp du => ?_)
  obtain ⟨rfl, hB2⟩ := hp
  obtain ⟨d3, d4⟩ := dj_r d2 du
  rw [← mg_as, mg_cm d4]
  first | refine j_aload_n (pc := 208) F dL_law_208 rfl ?_ | refine j_aload_nq (pc := 208) F dL_law_208 rfl ?_
  refine jf_ri (jf_runV (pc := 209) F (dj_cm d4) (c_X9_now (A := Ac A _) hM) m_X9_now mv_X9_now lk_L_94 zc rfl ⟨by decide, by decide⟩ (Nat.le_of_ble_eq_true rfl) ⟨by omega, by omega⟩ rfl dL_law_209) (fun r2 v hp dv => ?_)
  obtain ⟨rfl, hM2⟩ := hp
  have hI : LI g x y o (s) (mg (mg (sg o (aJ g 1 fo)) u) v) := ⟨u, v, fo, _, mg_cm dv, d3, dj_cm dv, hB2, hM2, w⟩
  refine j_icmp_eq (pc := 212) F 1543 dL_law_212 (by decide) (fun c => ?_) (fun c => ?_)
  · exact j_widen (by omega) (by omega) (kk _ _ _ hI ⟨rfl, rfl, rfl, rfl, rfl, trivial⟩)
  · exact absurd rfl c
theorem lc_hop (hst : l.stackTraces = false) (F : Fx l X g A RL cL_law 7 (some .boolean) 12 601024 7293034) (hN : NC (xS X)) (hX : va_X b L xs (xS X) (xS X).heap) (hbl : b < (xS X).heap.size) (hbA : ¬ A b) (hL : L ≤ 2560) (hi : i + 4 < L) (hk : k + 8 ≤ 601024 ∧ n + 48 ≤ 7293034) (I : LI g x y o s h) (kk : ∀ (s2 : SG) (h2 : HF) (lv2 : List (Nat × Value)), LI g x y o s2 h2 → lall lv2 (LV b x y o i) → J l X g A 7 (k + 8) (n + 48) h2 1543 lv2 []) : J l X g A 7 k n h 217 (LV b x y o i) [] := by
  obtain ⟨hc, hm, fo, th, rfl, d1, d2, hB, hM, w⟩ := I
  first | refine j_aload_n (pc := 217) F dL_law_217 rfl ?_ | refine j_aload_nq (pc := 217) F dL_law_217 rfl ?_
  first | refine j_aload_n (pc := 218) F dL_law_218 rfl ?_ | refine j_aload_nq (pc := 218) F dL_law_218 rfl ?_
  refine j_iload (pc := 219) F dL_law_219 rfl ?_
  refine j_iconst (pc := 221) (v := (nI 1)) F dL_law_221 (by decide) ?_
  first | refine j_iaddN (pc := 222) F dL_law_222 ?_ | refine j_iadd (pc := 222) F dL_law_222 ?_
  refine j_sld (pc := 223) F hX hbl hbA (by omega) hL dL_law_223 ?_
  first | refine j_aload_n (pc := 224) F dL_law_224 rfl ?_ | refine j_aload_nq (pc := 224) F dL_law_224 rfl ?_
  refine jf_ri (jw_run (pc := 225) F d2 hN (w_hop (A := Ac A hm) hst (p0 := xs (i + 1)) hB d1) ⟨wq_hop, nw_L, by decide +kernel, by decide +kernel, wn_hop⟩ wt_hop lk_L_95 ⟨by decide, by decide⟩ (Nat.le_of_ble_eq_true rfl) ⟨by omega, by omega⟩ rfl dL_law_225) (fun r u hp du => ?_)
  obtain ⟨u2, fo2, rfl, e1, rfl, e3, hB2⟩ := hp
  obtain ⟨aa, CC, z, -⟩ := id hM
  have zc := z.cl
  refine j_istore (pc := 228) F dL_law_228 (by decide) ?_
  first | refine j_aload_n (pc := 230) F dL_law_230 rfl ?_ | refine j_aload_nq (pc := 230) F dL_law_230 rfl ?_
  first | refine j_aload_n (pc := 231) F dL_law_231 rfl ?_ | refine j_aload_nq (pc := 231) F dL_law_231 rfl ?_
  refine j_iload (pc := 232) F dL_law_232 rfl ?_
  refine j_iconst (pc := 234) (v := (nI 1)) F dL_law_234 (by decide) ?_
  first | refine j_iaddN (pc := 235) F dL_law_235 ?_ | refine j_iadd (pc := 235) F dL_law_235 ?_
  refine j_sld (pc := 236) F hX hbl hbA (by omega) hL dL_law_236 ?_
  rw [mg_cm du]
  refine jf_ri (jf_runV (pc := 237) F (dj_cm du) (c_X9_hop (A := Ac A _) (v := xs (i + 1)) w hM) m_X9_hop mv_X9_hop lk_L_97 zc rfl ⟨by decide, by decide⟩ (Nat.le_of_ble_eq_true rfl) ⟨by omega, by omega⟩ rfl dL_law_237) (fun r2 v hp dv => ?_)
  obtain ⟨hM2, hv2⟩ := hp
  obtain ⟨aa2, CC2, z2, -⟩ := id hM2
  have zc2 := z2.cl
  refine j_istore (pc := 240) F dL_law_240 (by decide) ?_
  first | refine j_aload_n (pc := 242) F dL_law_242 rfl ?_ | refine j_aload_nq (pc := 242) F dL_law_242 rfl ?_
  refine jf_ri (jf_runV (pc := 243) F dv (c_X9_thrown (A := Ac A _) hM2) m_X9_thrown mv_X9_thrown lk_L_87 zc2 rfl ⟨by decide, by decide⟩ (Nat.le_of_ble_eq_true rfl) ⟨by omega, by omega⟩ rfl dL_law_243) (fun r3 v3 hp dv3 => ?_)
  obtain ⟨rfl, hM3⟩ := hp
  have hI : LI g x y o (nxt (hcode s (xs (i + 1))) (sHop s (pN (xs (i + 1)))) s) (mg (mg (sg o (aJ g 1 fo2)) u2) v3) := ⟨u2, v3, fo2, _, mg_cm dv3, e1, dj_cm dv3, hB2, hM3, wf_hop w⟩
  refine j_iload (pc := 246) F dL_law_246 rfl ?_
  refine j_icmp_eq (pc := 248) F 253 dL_law_248 (by decide) (fun c => ?_) (fun c => ?_)
  · refine j_iload (pc := 253) F dL_law_253 rfl ?_
    refine j_if_ne (pc := 255) F 270 dL_law_255 (by decide) (fun c2 => ?_) (fun c2 => ?_)
    · refine j_goto (pc := 270) F 1543 dL_law_270 (by decide) ?_
      exact j_widen (by omega) (by omega) (kk _ _ _ hI ⟨rfl, rfl, rfl, rfl, rfl, trivial⟩)
    · have hc0 : hcode s (xs (i + 1)) = 0 := nI_z hcode_le4 c2
      obtain ⟨v1, hV1, hfo⟩ := e3 hc0
      have hV2 := hv2 hc0
      have he : r2 = v1 := hV2.trans hV1.symm
      have eo : mg (mg (sg o (aJ g 1 fo2)) u2) v3 o = some (aJ g 1 fo2) := mg_o (mg_o hUp_s)
      first | refine j_aload_n (pc := 258) F dL_law_258 rfl ?_ | refine j_aload_nq (pc := 258) F dL_law_258 rfl ?_
      refine j_iconst (pc := 259) (v := (nI 0)) F dL_law_259 (by decide) ?_
      refine j_laldN (pc := 260) F eo (by omega) (by decide) dL_law_260 ?_
      refine j_iload (pc := 261) F dL_law_261 rfl ?_
      refine j_i2l (pc := 263) F dL_law_263 ?_
      refine j_lcmp (pc := 264) F dL_law_264 ?_
      refine j_if_eq (pc := 265) F 270 dL_law_265 (by decide) (fun c3 => ?_) (fun c3 => ?_)
      · refine j_goto (pc := 270) F 1543 dL_law_270 (by decide) ?_
        exact j_widen (by omega) (by omega) (kk _ _ _ hI ⟨rfl, rfl, rfl, rfl, rfl, trivial⟩)
      · exact absurd (by rw [hfo, he]; exact cmp_self _) c3
  · exact absurd rfl c
theorem lc_clearPath (hst : l.stackTraces = false) (F : Fx l X g A RL cL_law 7 (some .boolean) 12 601024 7293034) (hN : NC (xS X)) (hX : va_X b L xs (xS X) (xS X).heap) (hbl : b < (xS X).heap.size) (hbA : ¬ A b) (hL : L ≤ 2560) (hi : i + 4 < L) (hk : k + 8 ≤ 601024 ∧ n + 48 ≤ 7293034) (I : LI g x y o s h) (kk : ∀ (s2 : SG) (h2 : HF) (lv2 : List (Nat × Value)), LI g x y o s2 h2 → lall lv2 (LV b x y o i) → J l X g A 7 (k + 8) (n + 48) h2 1543 lv2 []) : J l X g A 7 k n h 273 (LV b x y o i) [] := by
  obtain ⟨hc, hm, fo, th, rfl, d1, d2, hB, hM, w⟩ := I
  obtain ⟨pm, am, tr, hi2, rg, rl, T, E, kc, K, hBx⟩ := id hB
  have e0 := hBx.1
  obtain ⟨aa, CC, z, -⟩ := id hM
  have zc := z.cl
  first | refine j_aload_n (pc := 273) F dL_law_273 rfl ?_ | refine j_aload_nq (pc := 273) F dL_law_273 rfl ?_
  rw [mg_as]
  refine jf_ri (jf_runV (pc := 274) F (dj_l d2 d1) (c_X8_clearPath (A := Ac A _) hB) m_X8_clearPath mv_X8_clearPath lk_L_98 e0 rfl ⟨by decide, by decide⟩ (Nat.le_of_ble_eq_true rfl) ⟨by omega, by omega⟩ rfl dL_law_274) (fun r u hp du => ?_)
  obtain ⟨rfl, hB2⟩ := hp
  obtain ⟨d3, d4⟩ := dj_r d2 du
  rw [← mg_as, mg_cm d4]
  first | refine j_aload_n (pc := 277) F dL_law_277 rfl ?_ | refine j_aload_nq (pc := 277) F dL_law_277 rfl ?_
  refine jf_ri (jf_runV (pc := 278) F (dj_cm d4) (c_X9_clearPath (A := Ac A _) hM) m_X9_clearPath mv_X9_clearPath lk_L_101 zc rfl ⟨by decide, by decide⟩ (Nat.le_of_ble_eq_true rfl) ⟨by omega, by omega⟩ rfl dL_law_278) (fun r2 v hp dv => ?_)
  obtain ⟨rfl, hM2⟩ := hp
  have hI : LI g x y o (sClr s) (mg (mg (sg o (aJ g 1 fo)) u) v) := ⟨u, v, fo, _, mg_cm dv, d3, dj_cm dv, hB2, hM2, wf_clr w⟩
  refine j_icmp_eq (pc := 281) F 1543 dL_law_281 (by decide) (fun c => ?_) (fun c => ?_)
  · exact j_widen (by omega) (by omega) (kk _ _ _ hI ⟨rfl, rfl, rfl, rfl, rfl, trivial⟩)
  · exact absurd rfl c
theorem lc_announce (hst : l.stackTraces = false) (F : Fx l X g A RL cL_law 7 (some .boolean) 12 601024 7293034) (hN : NC (xS X)) (hX : va_X b L xs (xS X) (xS X).heap) (hbl : b < (xS X).heap.size) (hbA : ¬ A b) (hL : L ≤ 2560) (hi : i + 4 < L) (hk : k + 8 ≤ 601024 ∧ n + 48 ≤ 7293034) (I : LI g x y o s h) (kk : ∀ (s2 : SG) (h2 : HF) (lv2 : List (Nat × Value)), LI g x y o s2 h2 → lall lv2 (LV b x y o i) → J l X g A 7 (k + 8) (n + 48) h2 1543 lv2 []) : J l X g A 7 k n h 286 (LV b x y o i) [] := by
  obtain ⟨hc, hm, fo, th, rfl, d1, d2, hB, hM, w⟩ := I
  first | refine j_aload_n (pc := 286) F dL_law_286 rfl ?_ | refine j_aload_nq (pc := 286) F dL_law_286 rfl ?_
  first | refine j_aload_n (pc := 287) F dL_law_287 rfl ?_ | refine j_aload_nq (pc := 287) F dL_law_287 rfl ?_
  refine j_iload (pc := 288) F dL_law_288 rfl ?_
  refine j_iconst (pc := 290) (v := (nI 1)) F dL_law_290 (by decide) ?_
  first | refine j_iaddN (pc := 291) F dL_law_291 ?_ | refine j_iadd (pc := 291) F dL_law_291 ?_
  refine j_sld (pc := 292) F hX hbl hbA (by omega) hL dL_law_292 ?_
  first | refine j_aload_n (pc := 293) F dL_law_293 rfl ?_ | refine j_aload_nq (pc := 293) F dL_law_293 rfl ?_
  refine j_iload (pc := 294) F dL_law_294 rfl ?_
  refine j_iconst (pc := 296) (v := (nI 2)) F dL_law_296 (by decide) ?_
  first | refine j_iaddN (pc := 297) F dL_law_297 ?_ | refine j_iadd (pc := 297) F dL_law_297 ?_
  refine j_sld (pc := 298) F hX hbl hbA (by omega) hL dL_law_298 ?_
  first | refine j_aload_n (pc := 299) F dL_law_299 rfl ?_ | refine j_aload_nq (pc := 299) F dL_law_299 rfl ?_
  refine j_iload (pc := 300) F dL_law_300 rfl ?_
  refine j_iconst (pc := 302) (v := (nI 3)) F dL_law_302 (by decide) ?_
  first | refine j_iaddN (pc := 303) F dL_law_303 ?_ | refine j_iadd (pc := 303) F dL_law_303 ?_
  refine j_sld (pc := 304) F hX hbl hbA (by omega) hL dL_law_304 ?_
  first | refine j_aload_n (pc := 305) F dL_law_305 rfl ?_ | refine j_aload_nq (pc := 305) F dL_law_305 rfl ?_
  refine jf_ri (jw_run (pc := 306) F d2 hN (w_announce (A := Ac A hm) hst w (p0 := xs (i + 1)) (p1 := xs (i + 2)) (p2 := xs (i + 3)) hB d1) ⟨wq_announce, nw_L, by decide +kernel, by decide +kernel, wn_announce⟩ wt_announce lk_L_102 ⟨by decide, by decide⟩ (Nat.le_of_ble_eq_true rfl) ⟨by omega, by omega⟩ rfl dL_law_306) (fun r u hp du => ?_)
  obtain ⟨u2, fo2, rfl, e1, rfl, e3, hB2⟩ := hp
  obtain ⟨aa, CC, z, -⟩ := id hM
  have zc := z.cl
  refine j_istore (pc := 309) F dL_law_309 (by decide) ?_
  first | refine j_aload_n (pc := 311) F dL_law_311 rfl ?_ | refine j_aload_nq (pc := 311) F dL_law_311 rfl ?_
  first | refine j_aload_n (pc := 312) F dL_law_312 rfl ?_ | refine j_aload_nq (pc := 312) F dL_law_312 rfl ?_
  refine j_iload (pc := 313) F dL_law_313 rfl ?_
  refine j_iconst (pc := 315) (v := (nI 1)) F dL_law_315 (by decide) ?_
  first | refine j_iaddN (pc := 316) F dL_law_316 ?_ | refine j_iadd (pc := 316) F dL_law_316 ?_
  refine j_sld (pc := 317) F hX hbl hbA (by omega) hL dL_law_317 ?_
  first | refine j_aload_n (pc := 318) F dL_law_318 rfl ?_ | refine j_aload_nq (pc := 318) F dL_law_318 rfl ?_
  refine j_iload (pc := 319) F dL_law_319 rfl ?_
  refine j_iconst (pc := 321) (v := (nI 2)) F dL_law_321 (by decide) ?_
  first | refine j_iaddN (pc := 322) F dL_law_322 ?_ | refine j_iadd (pc := 322) F dL_law_322 ?_
  refine j_sld (pc := 323) F hX hbl hbA (by omega) hL dL_law_323 ?_
  first | refine j_aload_n (pc := 324) F dL_law_324 rfl ?_ | refine j_aload_nq (pc := 324) F dL_law_324 rfl ?_
  refine j_iload (pc := 325) F dL_law_325 rfl ?_
  refine j_iconst (pc := 327) (v := (nI 3)) F dL_law_327 (by decide) ?_
  first | refine j_iaddN (pc := 328) F dL_law_328 ?_ | refine j_iadd (pc := 328) F dL_law_328 ?_
  refine j_sld (pc := 329) F hX hbl hbA (by omega) hL dL_law_329 ?_
  rw [mg_cm du]
  refine jf_ri (jf_runV (pc := 330) F (dj_cm du) (c_X9_announce (A := Ac A _) (p := xs (i + 1)) (b := xs (i + 2)) (c := xs (i + 3)) w hM) m_X9_announce mv_X9_announce lk_L_105 zc rfl ⟨by decide, by decide⟩ (Nat.le_of_ble_eq_true rfl) ⟨by omega, by omega⟩ rfl dL_law_330) (fun r2 v hp dv => ?_)
  obtain ⟨hM2, hv2⟩ := hp
  obtain ⟨aa2, CC2, z2, -⟩ := id hM2
  have zc2 := z2.cl
  refine j_istore (pc := 333) F dL_law_333 (by decide) ?_
  first | refine j_aload_n (pc := 335) F dL_law_335 rfl ?_ | refine j_aload_nq (pc := 335) F dL_law_335 rfl ?_
  refine jf_ri (jf_runV (pc := 336) F dv (c_X9_thrown (A := Ac A _) hM2) m_X9_thrown mv_X9_thrown lk_L_87 zc2 rfl ⟨by decide, by decide⟩ (Nat.le_of_ble_eq_true rfl) ⟨by omega, by omega⟩ rfl dL_law_336) (fun r3 v3 hp dv3 => ?_)
  obtain ⟨rfl, hM3⟩ := hp
  have hI : LI g x y o (nxt (ncode s (xs (i + 1)) (xs (i + 2)) (xs (i + 3))) (sUp s (pN (xs (i + 1))) (pqN (xs (i + 2)) (xs (i + 3))) (sz s)) s) (mg (mg (sg o (aJ g 1 fo2)) u2) v3) := ⟨u2, v3, fo2, _, mg_cm dv3, e1, dj_cm dv3, hB2, hM3, wf_ann w⟩
  refine j_iload (pc := 339) F dL_law_339 rfl ?_
  refine j_icmp_eq (pc := 341) F 346 dL_law_341 (by decide) (fun c => ?_) (fun c => ?_)
  · refine j_iload (pc := 346) F dL_law_346 rfl ?_
    refine j_if_ne (pc := 348) F 370 dL_law_348 (by decide) (fun c2 => ?_) (fun c2 => ?_)
    · refine j_goto (pc := 370) F 1543 dL_law_370 (by decide) ?_
      exact j_widen (by omega) (by omega) (kk _ _ _ hI ⟨rfl, rfl, rfl, rfl, rfl, trivial⟩)
    · have hc0 : ncode s (xs (i + 1)) (xs (i + 2)) (xs (i + 3)) = 0 := nI_z ncode_le4 c2
      obtain ⟨v1, hV1, hfo⟩ := e3 hc0
      have hV2 := hv2 hc0
      have he : r2 = v1 := hV2.trans hV1.symm
      have eo : mg (mg (sg o (aJ g 1 fo2)) u2) v3 o = some (aJ g 1 fo2) := mg_o (mg_o hUp_s)
      first | refine j_aload_n (pc := 351) F dL_law_351 rfl ?_ | refine j_aload_nq (pc := 351) F dL_law_351 rfl ?_
      refine j_iconst (pc := 352) (v := (nI 0)) F dL_law_352 (by decide) ?_
      refine j_laldN (pc := 353) F eo (by omega) (by decide) dL_law_353 ?_
      have hfo : fo2 0 = r2.toInt64 := by rw [he]; exact hfo
      have hr2 : r2 = bI _ := hV2
      generalize decide (tb (sD s) (sm s) (pN (xs (i + 1))) (pqN (xs (i + 2)) (xs (i + 3))) = none) = bb at hr2
      subst hr2
      cases bb with
      | false =>
        refine j_iload (pc := 354) F dL_law_354 rfl ?_
        first | refine j_if_eqB (pc := 356) F 363 dL_law_356 (by decide) (fun cb => ?_) (fun cb => ?_) | refine j_if_eqN (pc := 356) F 363 dL_law_356 (by decide) (by omega) (fun cb => ?_) (fun cb => ?_) | refine j_if_eqI (pc := 356) F 363 dL_law_356 (by decide) (fun cb => ?_) (fun cb => ?_)
        · refine j_lconst (pc := 363) F dL_law_363 rfl ?_
          refine j_lcmp (pc := 364) F dL_law_364 ?_
          refine j_if_eq (pc := 365) F 370 dL_law_365 (by decide) (fun c3 => ?_) (fun c3 => ?_)
          · refine j_goto (pc := 370) F 1543 dL_law_370 (by decide) ?_
            exact j_widen (by omega) (by omega) (kk _ _ _ hI ⟨rfl, rfl, rfl, rfl, rfl, trivial⟩)
          · exact absurd (by rw [hfo]; exact cmp_self _) c3
        · cases cb
      | true =>
        refine j_iload (pc := 354) F dL_law_354 rfl ?_
        first | refine j_if_eqB (pc := 356) F 363 dL_law_356 (by decide) (fun cb => ?_) (fun cb => ?_) | refine j_if_eqN (pc := 356) F 363 dL_law_356 (by decide) (by omega) (fun cb => ?_) (fun cb => ?_) | refine j_if_eqI (pc := 356) F 363 dL_law_356 (by decide) (fun cb => ?_) (fun cb => ?_)
        · cases cb
        · refine j_lconst (pc := 359) F dL_law_359 rfl ?_
          refine j_goto (pc := 360) F 364 dL_law_360 (by decide) ?_
          refine j_lcmp (pc := 364) F dL_law_364 ?_
          refine j_if_eq (pc := 365) F 370 dL_law_365 (by decide) (fun c3 => ?_) (fun c3 => ?_)
          · refine j_goto (pc := 370) F 1543 dL_law_370 (by decide) ?_
            exact j_widen (by omega) (by omega) (kk _ _ _ hI ⟨rfl, rfl, rfl, rfl, rfl, trivial⟩)
          · exact absurd (by rw [hfo]; exact cmp_self _) c3
  · exact absurd rfl c
theorem lc_withdraw (hst : l.stackTraces = false) (F : Fx l X g A RL cL_law 7 (some .boolean) 12 601024 7293034) (hN : NC (xS X)) (hX : va_X b L xs (xS X) (xS X).heap) (hbl : b < (xS X).heap.size) (hbA : ¬ A b) (hL : L ≤ 2560) (hi : i + 4 < L) (hk : k + 8 ≤ 601024 ∧ n + 48 ≤ 7293034) (I : LI g x y o s h) (kk : ∀ (s2 : SG) (h2 : HF) (lv2 : List (Nat × Value)), LI g x y o s2 h2 → lall lv2 (LV b x y o i) → J l X g A 7 (k + 8) (n + 48) h2 1543 lv2 []) : J l X g A 7 k n h 373 (LV b x y o i) [] := by
  obtain ⟨hc, hm, fo, th, rfl, d1, d2, hB, hM, w⟩ := I
  first | refine j_aload_n (pc := 373) F dL_law_373 rfl ?_ | refine j_aload_nq (pc := 373) F dL_law_373 rfl ?_
  first | refine j_aload_n (pc := 374) F dL_law_374 rfl ?_ | refine j_aload_nq (pc := 374) F dL_law_374 rfl ?_
  refine j_iload (pc := 375) F dL_law_375 rfl ?_
  refine j_iconst (pc := 377) (v := (nI 1)) F dL_law_377 (by decide) ?_
  first | refine j_iaddN (pc := 378) F dL_law_378 ?_ | refine j_iadd (pc := 378) F dL_law_378 ?_
  refine j_sld (pc := 379) F hX hbl hbA (by omega) hL dL_law_379 ?_
  first | refine j_aload_n (pc := 380) F dL_law_380 rfl ?_ | refine j_aload_nq (pc := 380) F dL_law_380 rfl ?_
  refine j_iload (pc := 381) F dL_law_381 rfl ?_
  refine j_iconst (pc := 383) (v := (nI 2)) F dL_law_383 (by decide) ?_
  first | refine j_iaddN (pc := 384) F dL_law_384 ?_ | refine j_iadd (pc := 384) F dL_law_384 ?_
  refine j_sld (pc := 385) F hX hbl hbA (by omega) hL dL_law_385 ?_
  first | refine j_aload_n (pc := 386) F dL_law_386 rfl ?_ | refine j_aload_nq (pc := 386) F dL_law_386 rfl ?_
  refine j_iload (pc := 387) F dL_law_387 rfl ?_
  refine j_iconst (pc := 389) (v := (nI 3)) F dL_law_389 (by decide) ?_
  first | refine j_iaddN (pc := 390) F dL_law_390 ?_ | refine j_iadd (pc := 390) F dL_law_390 ?_
  refine j_sld (pc := 391) F hX hbl hbA (by omega) hL dL_law_391 ?_
  first | refine j_aload_n (pc := 392) F dL_law_392 rfl ?_ | refine j_aload_nq (pc := 392) F dL_law_392 rfl ?_
  refine jf_ri (jw_run (pc := 393) F d2 hN (w_withdraw (A := Ac A hm) hst (p0 := xs (i + 1)) (p1 := xs (i + 2)) (p2 := xs (i + 3)) hB d1) ⟨wq_withdraw, nw_L, by decide +kernel, by decide +kernel, wn_withdraw⟩ wt_withdraw lk_L_106 ⟨by decide, by decide⟩ (Nat.le_of_ble_eq_true rfl) ⟨by omega, by omega⟩ rfl dL_law_393) (fun r u hp du => ?_)
  obtain ⟨u2, fo2, rfl, e1, rfl, e3, hB2⟩ := hp
  obtain ⟨aa, CC, z, -⟩ := id hM
  have zc := z.cl
  refine j_istore (pc := 396) F dL_law_396 (by decide) ?_
  first | refine j_aload_n (pc := 398) F dL_law_398 rfl ?_ | refine j_aload_nq (pc := 398) F dL_law_398 rfl ?_
  first | refine j_aload_n (pc := 399) F dL_law_399 rfl ?_ | refine j_aload_nq (pc := 399) F dL_law_399 rfl ?_
  refine j_iload (pc := 400) F dL_law_400 rfl ?_
  refine j_iconst (pc := 402) (v := (nI 1)) F dL_law_402 (by decide) ?_
  first | refine j_iaddN (pc := 403) F dL_law_403 ?_ | refine j_iadd (pc := 403) F dL_law_403 ?_
  refine j_sld (pc := 404) F hX hbl hbA (by omega) hL dL_law_404 ?_
  first | refine j_aload_n (pc := 405) F dL_law_405 rfl ?_ | refine j_aload_nq (pc := 405) F dL_law_405 rfl ?_
  refine j_iload (pc := 406) F dL_law_406 rfl ?_
  refine j_iconst (pc := 408) (v := (nI 2)) F dL_law_408 (by decide) ?_
  first | refine j_iaddN (pc := 409) F dL_law_409 ?_ | refine j_iadd (pc := 409) F dL_law_409 ?_
  refine j_sld (pc := 410) F hX hbl hbA (by omega) hL dL_law_410 ?_
  first | refine j_aload_n (pc := 411) F dL_law_411 rfl ?_ | refine j_aload_nq (pc := 411) F dL_law_411 rfl ?_
  refine j_iload (pc := 412) F dL_law_412 rfl ?_
  refine j_iconst (pc := 414) (v := (nI 3)) F dL_law_414 (by decide) ?_
  first | refine j_iaddN (pc := 415) F dL_law_415 ?_ | refine j_iadd (pc := 415) F dL_law_415 ?_
  refine j_sld (pc := 416) F hX hbl hbA (by omega) hL dL_law_416 ?_
  rw [mg_cm du]
  refine jf_ri (jf_runV (pc := 417) F (dj_cm du) (c_X9_withdraw (A := Ac A _) (p := xs (i + 1)) (b := xs (i + 2)) (c := xs (i + 3)) w hM) m_X9_withdraw mv_X9_withdraw lk_L_108 zc rfl ⟨by decide, by decide⟩ (Nat.le_of_ble_eq_true rfl) ⟨by omega, by omega⟩ rfl dL_law_417) (fun r2 v hp dv => ?_)
  obtain ⟨hM2, hv2⟩ := hp
  obtain ⟨aa2, CC2, z2, -⟩ := id hM2
  have zc2 := z2.cl
  refine j_istore (pc := 420) F dL_law_420 (by decide) ?_
  first | refine j_aload_n (pc := 422) F dL_law_422 rfl ?_ | refine j_aload_nq (pc := 422) F dL_law_422 rfl ?_
  refine jf_ri (jf_runV (pc := 423) F dv (c_X9_thrown (A := Ac A _) hM2) m_X9_thrown mv_X9_thrown lk_L_87 zc2 rfl ⟨by decide, by decide⟩ (Nat.le_of_ble_eq_true rfl) ⟨by omega, by omega⟩ rfl dL_law_423) (fun r3 v3 hp dv3 => ?_)
  obtain ⟨rfl, hM3⟩ := hp
  have hI : LI g x y o (nxt (wcode s (xs (i + 1)) (xs (i + 2)) (xs (i + 3))) (sUp s (pN (xs (i + 1))) (pqN (xs (i + 2)) (xs (i + 3))) 0) s) (mg (mg (sg o (aJ g 1 fo2)) u2) v3) := ⟨u2, v3, fo2, _, mg_cm dv3, e1, dj_cm dv3, hB2, hM3, wf_wd w⟩
  refine j_iload (pc := 426) F dL_law_426 rfl ?_
  refine j_icmp_eq (pc := 428) F 433 dL_law_428 (by decide) (fun c => ?_) (fun c => ?_)
  · refine j_iload (pc := 433) F dL_law_433 rfl ?_
    refine j_if_ne (pc := 435) F 450 dL_law_435 (by decide) (fun c2 => ?_) (fun c2 => ?_)
    · refine j_goto (pc := 450) F 1543 dL_law_450 (by decide) ?_
      exact j_widen (by omega) (by omega) (kk _ _ _ hI ⟨rfl, rfl, rfl, rfl, rfl, trivial⟩)
    · have hc0 : wcode s (xs (i + 1)) (xs (i + 2)) (xs (i + 3)) = 0 := nI_z wcode_le4 c2
      obtain ⟨v1, hV1, hfo⟩ := e3 hc0
      have hV2 := hv2 hc0
      have he : r2 = v1 := hV2.trans hV1.symm
      have eo : mg (mg (sg o (aJ g 1 fo2)) u2) v3 o = some (aJ g 1 fo2) := mg_o (mg_o hUp_s)
      first | refine j_aload_n (pc := 438) F dL_law_438 rfl ?_ | refine j_aload_nq (pc := 438) F dL_law_438 rfl ?_
      refine j_iconst (pc := 439) (v := (nI 0)) F dL_law_439 (by decide) ?_
      refine j_laldN (pc := 440) F eo (by omega) (by decide) dL_law_440 ?_
      refine j_iload (pc := 441) F dL_law_441 rfl ?_
      refine j_i2l (pc := 443) F dL_law_443 ?_
      refine j_lcmp (pc := 444) F dL_law_444 ?_
      refine j_if_eq (pc := 445) F 450 dL_law_445 (by decide) (fun c3 => ?_) (fun c3 => ?_)
      · refine j_goto (pc := 450) F 1543 dL_law_450 (by decide) ?_
        exact j_widen (by omega) (by omega) (kk _ _ _ hI ⟨rfl, rfl, rfl, rfl, rfl, trivial⟩)
      · exact absurd (by rw [hfo, he]; exact cmp_self _) c3
  · exact absurd rfl c
theorem lc_drop (hst : l.stackTraces = false) (F : Fx l X g A RL cL_law 7 (some .boolean) 12 601024 7293034) (hN : NC (xS X)) (hX : va_X b L xs (xS X) (xS X).heap) (hbl : b < (xS X).heap.size) (hbA : ¬ A b) (hL : L ≤ 2560) (hi : i + 4 < L) (hk : k + 8 ≤ 601024 ∧ n + 48 ≤ 7293034) (I : LI g x y o s h) (kk : ∀ (s2 : SG) (h2 : HF) (lv2 : List (Nat × Value)), LI g x y o s2 h2 → lall lv2 (LV b x y o i) → J l X g A 7 (k + 8) (n + 48) h2 1543 lv2 []) : J l X g A 7 k n h 453 (LV b x y o i) [] := by
  obtain ⟨hc, hm, fo, th, rfl, d1, d2, hB, hM, w⟩ := I
  first | refine j_aload_n (pc := 453) F dL_law_453 rfl ?_ | refine j_aload_nq (pc := 453) F dL_law_453 rfl ?_
  first | refine j_aload_n (pc := 454) F dL_law_454 rfl ?_ | refine j_aload_nq (pc := 454) F dL_law_454 rfl ?_
  refine j_iload (pc := 455) F dL_law_455 rfl ?_
  refine j_iconst (pc := 457) (v := (nI 1)) F dL_law_457 (by decide) ?_
  first | refine j_iaddN (pc := 458) F dL_law_458 ?_ | refine j_iadd (pc := 458) F dL_law_458 ?_
  refine j_sld (pc := 459) F hX hbl hbA (by omega) hL dL_law_459 ?_
  first | refine j_aload_n (pc := 460) F dL_law_460 rfl ?_ | refine j_aload_nq (pc := 460) F dL_law_460 rfl ?_
  refine jf_ri (jw_run (pc := 461) F d2 hN (w_drop (A := Ac A hm) hst (p0 := xs (i + 1)) hB d1) ⟨wq_drop, nw_L, by decide +kernel, by decide +kernel, wn_drop⟩ wt_drop lk_L_109 ⟨by decide, by decide⟩ (Nat.le_of_ble_eq_true rfl) ⟨by omega, by omega⟩ rfl dL_law_461) (fun r u hp du => ?_)
  obtain ⟨u2, fo2, rfl, e1, rfl, e3, hB2⟩ := hp
  obtain ⟨aa, CC, z, -⟩ := id hM
  have zc := z.cl
  refine j_istore (pc := 464) F dL_law_464 (by decide) ?_
  first | refine j_aload_n (pc := 466) F dL_law_466 rfl ?_ | refine j_aload_nq (pc := 466) F dL_law_466 rfl ?_
  first | refine j_aload_n (pc := 467) F dL_law_467 rfl ?_ | refine j_aload_nq (pc := 467) F dL_law_467 rfl ?_
  refine j_iload (pc := 468) F dL_law_468 rfl ?_
  refine j_iconst (pc := 470) (v := (nI 1)) F dL_law_470 (by decide) ?_
  first | refine j_iaddN (pc := 471) F dL_law_471 ?_ | refine j_iadd (pc := 471) F dL_law_471 ?_
  refine j_sld (pc := 472) F hX hbl hbA (by omega) hL dL_law_472 ?_
  rw [mg_cm du]
  refine jf_ri (jf_runV (pc := 473) F (dj_cm du) (c_X9_drop (A := Ac A _) (p := xs (i + 1)) w hM) m_X9_drop mv_X9_drop lk_L_111 zc rfl ⟨by decide, by decide⟩ (Nat.le_of_ble_eq_true rfl) ⟨by omega, by omega⟩ rfl dL_law_473) (fun r2 v hp dv => ?_)
  obtain ⟨hM2, hv2⟩ := hp
  obtain ⟨aa2, CC2, z2, -⟩ := id hM2
  have zc2 := z2.cl
  refine j_istore (pc := 476) F dL_law_476 (by decide) ?_
  first | refine j_aload_n (pc := 478) F dL_law_478 rfl ?_ | refine j_aload_nq (pc := 478) F dL_law_478 rfl ?_
  refine jf_ri (jf_runV (pc := 479) F dv (c_X9_thrown (A := Ac A _) hM2) m_X9_thrown mv_X9_thrown lk_L_87 zc2 rfl ⟨by decide, by decide⟩ (Nat.le_of_ble_eq_true rfl) ⟨by omega, by omega⟩ rfl dL_law_479) (fun r3 v3 hp dv3 => ?_)
  obtain ⟨rfl, hM3⟩ := hp
  have hI : LI g x y o (nxt (dcode s (xs (i + 1))) (sUp s (pN (xs (i + 1))) 0 0) s) (mg (mg (sg o (aJ g 1 fo2)) u2) v3) := ⟨u2, v3, fo2, _, mg_cm dv3, e1, dj_cm dv3, hB2, hM3, wf_drop w⟩
  refine j_iload (pc := 482) F dL_law_482 rfl ?_
  refine j_icmp_eq (pc := 484) F 489 dL_law_484 (by decide) (fun c => ?_) (fun c => ?_)
  · refine j_iload (pc := 489) F dL_law_489 rfl ?_
    refine j_if_ne (pc := 491) F 506 dL_law_491 (by decide) (fun c2 => ?_) (fun c2 => ?_)
    · refine j_goto (pc := 506) F 1543 dL_law_506 (by decide) ?_
      exact j_widen (by omega) (by omega) (kk _ _ _ hI ⟨rfl, rfl, rfl, rfl, rfl, trivial⟩)
    · have hc0 : dcode s (xs (i + 1)) = 0 := nI_z dcode_le4 c2
      obtain ⟨v1, hV1, hfo⟩ := e3 hc0
      have hV2 := hv2 hc0
      have he : r2 = v1 := hV2.trans hV1.symm
      have eo : mg (mg (sg o (aJ g 1 fo2)) u2) v3 o = some (aJ g 1 fo2) := mg_o (mg_o hUp_s)
      first | refine j_aload_n (pc := 494) F dL_law_494 rfl ?_ | refine j_aload_nq (pc := 494) F dL_law_494 rfl ?_
      refine j_iconst (pc := 495) (v := (nI 0)) F dL_law_495 (by decide) ?_
      refine j_laldN (pc := 496) F eo (by omega) (by decide) dL_law_496 ?_
      refine j_iload (pc := 497) F dL_law_497 rfl ?_
      refine j_i2l (pc := 499) F dL_law_499 ?_
      refine j_lcmp (pc := 500) F dL_law_500 ?_
      refine j_if_eq (pc := 501) F 506 dL_law_501 (by decide) (fun c3 => ?_) (fun c3 => ?_)
      · refine j_goto (pc := 506) F 1543 dL_law_506 (by decide) ?_
        exact j_widen (by omega) (by omega) (kk _ _ _ hI ⟨rfl, rfl, rfl, rfl, rfl, trivial⟩)
      · exact absurd (by rw [hfo, he]; exact cmp_self _) c3
  · exact absurd rfl c
theorem lc_updates (hst : l.stackTraces = false) (F : Fx l X g A RL cL_law 7 (some .boolean) 12 601024 7293034) (hN : NC (xS X)) (hX : va_X b L xs (xS X) (xS X).heap) (hbl : b < (xS X).heap.size) (hbA : ¬ A b) (hL : L ≤ 2560) (hi : i + 4 < L) (hk : k + 8 ≤ 601024 ∧ n + 48 ≤ 7293034) (I : LI g x y o s h) (kk : ∀ (s2 : SG) (h2 : HF) (lv2 : List (Nat × Value)), LI g x y o s2 h2 → lall lv2 (LV b x y o i) → J l X g A 7 (k + 8) (n + 48) h2 1543 lv2 []) : J l X g A 7 k n h 509 (LV b x y o i) [] := by
  obtain ⟨hc, hm, fo, th, rfl, d1, d2, hB, hM, w⟩ := I
  obtain ⟨pm, am, tr, hi2, rg, rl, T, E, kc, K, hBx⟩ := id hB
  have e0 := hBx.1
  obtain ⟨aa, CC, z, -⟩ := id hM
  have zc := z.cl
  first | refine j_aload_n (pc := 509) F dL_law_509 rfl ?_ | refine j_aload_nq (pc := 509) F dL_law_509 rfl ?_
  rw [mg_as]
  refine jf_ri (jf_runV (pc := 510) F (dj_l d2 d1) (c_X8_updates (A := Ac A _) hB) m_X8_updates mv_X8_updates lk_L_112 e0 rfl ⟨by decide, by decide⟩ (Nat.le_of_ble_eq_true rfl) ⟨by omega, by omega⟩ rfl dL_law_510) (fun r u hp du => ?_)
  obtain ⟨rfl, hB2⟩ := hp
  obtain ⟨d3, d4⟩ := dj_r d2 du
  rw [← mg_as, mg_cm d4]
  first | refine j_aload_n (pc := 513) F dL_law_513 rfl ?_ | refine j_aload_nq (pc := 513) F dL_law_513 rfl ?_
  refine jf_ri (jf_runV (pc := 514) F (dj_cm d4) (c_X9_updates (A := Ac A _) hM) m_X9_updates mv_X9_updates lk_L_115 zc rfl ⟨by decide, by decide⟩ (Nat.le_of_ble_eq_true rfl) ⟨by omega, by omega⟩ rfl dL_law_514) (fun r2 v hp dv => ?_)
  obtain ⟨rfl, hM2⟩ := hp
  have hI : LI g x y o (s) (mg (mg (sg o (aJ g 1 fo)) u) v) := ⟨u, v, fo, _, mg_cm dv, d3, dj_cm dv, hB2, hM2, w⟩
  refine j_icmp_eq (pc := 517) F 1543 dL_law_517 (by decide) (fun c => ?_) (fun c => ?_)
  · exact j_widen (by omega) (by omega) (kk _ _ _ hI ⟨rfl, rfl, rfl, rfl, rfl, trivial⟩)
  · exact absurd rfl c
theorem lc_routes (hst : l.stackTraces = false) (F : Fx l X g A RL cL_law 7 (some .boolean) 12 601024 7293034) (hN : NC (xS X)) (hX : va_X b L xs (xS X) (xS X).heap) (hbl : b < (xS X).heap.size) (hbA : ¬ A b) (hL : L ≤ 2560) (hi : i + 4 < L) (hk : k + 8 ≤ 601024 ∧ n + 48 ≤ 7293034) (I : LI g x y o s h) (kk : ∀ (s2 : SG) (h2 : HF) (lv2 : List (Nat × Value)), LI g x y o s2 h2 → lall lv2 (LV b x y o i) → J l X g A 7 (k + 8) (n + 48) h2 1543 lv2 []) : J l X g A 7 k n h 522 (LV b x y o i) [] := by
  obtain ⟨hc, hm, fo, th, rfl, d1, d2, hB, hM, w⟩ := I
  first | refine j_aload_n (pc := 522) F dL_law_522 rfl ?_ | refine j_aload_nq (pc := 522) F dL_law_522 rfl ?_
  first | refine j_aload_n (pc := 523) F dL_law_523 rfl ?_ | refine j_aload_nq (pc := 523) F dL_law_523 rfl ?_
  refine j_iload (pc := 524) F dL_law_524 rfl ?_
  refine j_iconst (pc := 526) (v := (nI 1)) F dL_law_526 (by decide) ?_
  first | refine j_iaddN (pc := 527) F dL_law_527 ?_ | refine j_iadd (pc := 527) F dL_law_527 ?_
  refine j_sld (pc := 528) F hX hbl hbA (by omega) hL dL_law_528 ?_
  first | refine j_aload_n (pc := 529) F dL_law_529 rfl ?_ | refine j_aload_nq (pc := 529) F dL_law_529 rfl ?_
  refine jf_ri (jw_run (pc := 530) F d2 hN (w_routes (A := Ac A hm) hst (p0 := xs (i + 1)) hB d1) ⟨wq_routes, nw_L, by decide +kernel, by decide +kernel, wn_routes⟩ wt_routes lk_L_116 ⟨by decide, by decide⟩ (Nat.le_of_ble_eq_true rfl) ⟨by omega, by omega⟩ rfl dL_law_530) (fun r u hp du => ?_)
  obtain ⟨u2, fo2, rfl, e1, rfl, e3, hB2⟩ := hp
  obtain ⟨aa, CC, z, -⟩ := id hM
  have zc := z.cl
  refine j_istore (pc := 533) F dL_law_533 (by decide) ?_
  first | refine j_aload_n (pc := 535) F dL_law_535 rfl ?_ | refine j_aload_nq (pc := 535) F dL_law_535 rfl ?_
  first | refine j_aload_n (pc := 536) F dL_law_536 rfl ?_ | refine j_aload_nq (pc := 536) F dL_law_536 rfl ?_
  refine j_iload (pc := 537) F dL_law_537 rfl ?_
  refine j_iconst (pc := 539) (v := (nI 1)) F dL_law_539 (by decide) ?_
  first | refine j_iaddN (pc := 540) F dL_law_540 ?_ | refine j_iadd (pc := 540) F dL_law_540 ?_
  refine j_sld (pc := 541) F hX hbl hbA (by omega) hL dL_law_541 ?_
  rw [mg_cm du]
  refine jf_ri (jf_runV (pc := 542) F (dj_cm du) (c_X9_routes (A := Ac A _) (p := xs (i + 1)) w hM) m_X9_routes mv_X9_routes lk_L_118 zc rfl ⟨by decide, by decide⟩ (Nat.le_of_ble_eq_true rfl) ⟨by omega, by omega⟩ rfl dL_law_542) (fun r2 v hp dv => ?_)
  obtain ⟨hM2, hv2⟩ := hp
  obtain ⟨aa2, CC2, z2, -⟩ := id hM2
  have zc2 := z2.cl
  refine j_istore (pc := 545) F dL_law_545 (by decide) ?_
  first | refine j_aload_n (pc := 547) F dL_law_547 rfl ?_ | refine j_aload_nq (pc := 547) F dL_law_547 rfl ?_
  refine jf_ri (jf_runV (pc := 548) F dv (c_X9_thrown (A := Ac A _) hM2) m_X9_thrown mv_X9_thrown lk_L_87 zc2 rfl ⟨by decide, by decide⟩ (Nat.le_of_ble_eq_true rfl) ⟨by omega, by omega⟩ rfl dL_law_548) (fun r3 v3 hp dv3 => ?_)
  obtain ⟨rfl, hM3⟩ := hp
  rw [nxt_s] at hB2
  have hI : LI g x y o s (mg (mg (sg o (aJ g 1 fo2)) u2) v3) := ⟨u2, v3, fo2, _, mg_cm dv3, e1, dj_cm dv3, hB2, hM3, w⟩
  refine j_iload (pc := 551) F dL_law_551 rfl ?_
  refine j_icmp_eq (pc := 553) F 558 dL_law_553 (by decide) (fun c => ?_) (fun c => ?_)
  · refine j_iload (pc := 558) F dL_law_558 rfl ?_
    refine j_if_ne (pc := 560) F 575 dL_law_560 (by decide) (fun c2 => ?_) (fun c2 => ?_)
    · refine j_goto (pc := 575) F 1543 dL_law_575 (by decide) ?_
      exact j_widen (by omega) (by omega) (kk _ _ _ hI ⟨rfl, rfl, rfl, rfl, rfl, trivial⟩)
    · have hc0 : p1code (xs (i + 1)) = 0 := nI_z p1code_le4 c2
      obtain ⟨v1, hV1, hfo⟩ := e3 hc0
      have hV2 := hv2 hc0
      have he : r2 = v1 := hV2.trans hV1.symm
      have eo : mg (mg (sg o (aJ g 1 fo2)) u2) v3 o = some (aJ g 1 fo2) := mg_o (mg_o hUp_s)
      first | refine j_aload_n (pc := 563) F dL_law_563 rfl ?_ | refine j_aload_nq (pc := 563) F dL_law_563 rfl ?_
      refine j_iconst (pc := 564) (v := (nI 0)) F dL_law_564 (by decide) ?_
      refine j_laldN (pc := 565) F eo (by omega) (by decide) dL_law_565 ?_
      refine j_iload (pc := 566) F dL_law_566 rfl ?_
      refine j_i2l (pc := 568) F dL_law_568 ?_
      refine j_lcmp (pc := 569) F dL_law_569 ?_
      refine j_if_eq (pc := 570) F 575 dL_law_570 (by decide) (fun c3 => ?_) (fun c3 => ?_)
      · refine j_goto (pc := 575) F 1543 dL_law_575 (by decide) ?_
        exact j_widen (by omega) (by omega) (kk _ _ _ hI ⟨rfl, rfl, rfl, rfl, rfl, trivial⟩)
      · exact absurd (by rw [hfo, he]; exact cmp_self _) c3
  · exact absurd rfl c
theorem lc_prefixes (hst : l.stackTraces = false) (F : Fx l X g A RL cL_law 7 (some .boolean) 12 601024 7293034) (hN : NC (xS X)) (hX : va_X b L xs (xS X) (xS X).heap) (hbl : b < (xS X).heap.size) (hbA : ¬ A b) (hL : L ≤ 2560) (hi : i + 4 < L) (hk : k + 8 ≤ 601024 ∧ n + 48 ≤ 7293034) (I : LI g x y o s h) (kk : ∀ (s2 : SG) (h2 : HF) (lv2 : List (Nat × Value)), LI g x y o s2 h2 → lall lv2 (LV b x y o i) → J l X g A 7 (k + 8) (n + 48) h2 1543 lv2 []) : J l X g A 7 k n h 578 (LV b x y o i) [] := by
  obtain ⟨hc, hm, fo, th, rfl, d1, d2, hB, hM, w⟩ := I
  obtain ⟨pm, am, tr, hi2, rg, rl, T, E, kc, K, hBx⟩ := id hB
  have e0 := hBx.1
  obtain ⟨aa, CC, z, -⟩ := id hM
  have zc := z.cl
  first | refine j_aload_n (pc := 578) F dL_law_578 rfl ?_ | refine j_aload_nq (pc := 578) F dL_law_578 rfl ?_
  rw [mg_as]
  refine jf_ri (jf_runV (pc := 579) F (dj_l d2 d1) (c_X8_prefixes (A := Ac A _) hB) m_X8_prefixes mv_X8_prefixes lk_L_119 e0 rfl ⟨by decide, by decide⟩ (Nat.le_of_ble_eq_true rfl) ⟨by omega, by omega⟩ rfl dL_law_579) (fun r u hp du => ?_)
  obtain ⟨rfl, hB2⟩ := hp
  obtain ⟨d3, d4⟩ := dj_r d2 du
  rw [← mg_as, mg_cm d4]
  first | refine j_aload_n (pc := 582) F dL_law_582 rfl ?_ | refine j_aload_nq (pc := 582) F dL_law_582 rfl ?_
  refine jf_ri (jf_runV (pc := 583) F (dj_cm d4) (c_X9_prefixes (A := Ac A _) w hM) m_X9_prefixes mv_X9_prefixes lk_L_122 zc rfl ⟨by decide, by decide⟩ (Nat.le_of_ble_eq_true rfl) ⟨by omega, by omega⟩ rfl dL_law_583) (fun r2 v hp dv => ?_)
  obtain ⟨rfl, hM2⟩ := hp
  have hI : LI g x y o (s) (mg (mg (sg o (aJ g 1 fo)) u) v) := ⟨u, v, fo, _, mg_cm dv, d3, dj_cm dv, hB2, hM2, w⟩
  refine j_icmp_eq (pc := 586) F 1543 dL_law_586 (by decide) (fun c => ?_) (fun c => ?_)
  · exact j_widen (by omega) (by omega) (kk _ _ _ hI ⟨rfl, rfl, rfl, rfl, rfl, trivial⟩)
  · exact absurd rfl c
theorem lc_pathAt (hst : l.stackTraces = false) (F : Fx l X g A RL cL_law 7 (some .boolean) 12 601024 7293034) (hN : NC (xS X)) (hX : va_X b L xs (xS X) (xS X).heap) (hbl : b < (xS X).heap.size) (hbA : ¬ A b) (hL : L ≤ 2560) (hi : i + 4 < L) (hk : k + 8 ≤ 601024 ∧ n + 48 ≤ 7293034) (I : LI g x y o s h) (kk : ∀ (s2 : SG) (h2 : HF) (lv2 : List (Nat × Value)), LI g x y o s2 h2 → lall lv2 (LV b x y o i) → J l X g A 7 (k + 8) (n + 48) h2 1543 lv2 []) : J l X g A 7 k n h 591 (LV b x y o i) [] := by
  obtain ⟨hc, hm, fo, th, rfl, d1, d2, hB, hM, w⟩ := I
  first | refine j_aload_n (pc := 591) F dL_law_591 rfl ?_ | refine j_aload_nq (pc := 591) F dL_law_591 rfl ?_
  first | refine j_aload_n (pc := 592) F dL_law_592 rfl ?_ | refine j_aload_nq (pc := 592) F dL_law_592 rfl ?_
  refine j_iload (pc := 593) F dL_law_593 rfl ?_
  refine j_iconst (pc := 595) (v := (nI 1)) F dL_law_595 (by decide) ?_
  first | refine j_iaddN (pc := 596) F dL_law_596 ?_ | refine j_iadd (pc := 596) F dL_law_596 ?_
  refine j_sld (pc := 597) F hX hbl hbA (by omega) hL dL_law_597 ?_
  first | refine j_aload_n (pc := 598) F dL_law_598 rfl ?_ | refine j_aload_nq (pc := 598) F dL_law_598 rfl ?_
  refine j_iload (pc := 599) F dL_law_599 rfl ?_
  refine j_iconst (pc := 601) (v := (nI 2)) F dL_law_601 (by decide) ?_
  first | refine j_iaddN (pc := 602) F dL_law_602 ?_ | refine j_iadd (pc := 602) F dL_law_602 ?_
  refine j_sld (pc := 603) F hX hbl hbA (by omega) hL dL_law_603 ?_
  first | refine j_aload_n (pc := 604) F dL_law_604 rfl ?_ | refine j_aload_nq (pc := 604) F dL_law_604 rfl ?_
  refine j_iload (pc := 605) F dL_law_605 rfl ?_
  refine j_iconst (pc := 607) (v := (nI 3)) F dL_law_607 (by decide) ?_
  first | refine j_iaddN (pc := 608) F dL_law_608 ?_ | refine j_iadd (pc := 608) F dL_law_608 ?_
  refine j_sld (pc := 609) F hX hbl hbA (by omega) hL dL_law_609 ?_
  first | refine j_aload_n (pc := 610) F dL_law_610 rfl ?_ | refine j_aload_nq (pc := 610) F dL_law_610 rfl ?_
  refine j_iload (pc := 611) F dL_law_611 rfl ?_
  refine j_iconst (pc := 613) (v := (nI 4)) F dL_law_613 (by decide) ?_
  first | refine j_iaddN (pc := 614) F dL_law_614 ?_ | refine j_iadd (pc := 614) F dL_law_614 ?_
  refine j_sld (pc := 615) F hX hbl hbA (by omega) hL dL_law_615 ?_
  first | refine j_aload_n (pc := 616) F dL_law_616 rfl ?_ | refine j_aload_nq (pc := 616) F dL_law_616 rfl ?_
  refine jf_ri (jw_run (pc := 617) F d2 hN (w_pathAt (A := Ac A hm) hst (p0 := xs (i + 1)) (p1 := xs (i + 2)) (p2 := xs (i + 3)) (p3 := xs (i + 4)) hB d1) ⟨wq_pathAt, nw_L, by decide +kernel, by decide +kernel, wn_pathAt⟩ wt_pathAt lk_L_123 ⟨by decide, by decide⟩ (Nat.le_of_ble_eq_true rfl) ⟨by omega, by omega⟩ rfl dL_law_617) (fun r u hp du => ?_)
  obtain ⟨u2, fo2, rfl, e1, rfl, e3, hB2⟩ := hp
  obtain ⟨aa, CC, z, -⟩ := id hM
  have zc := z.cl
  refine j_istore (pc := 620) F dL_law_620 (by decide) ?_
  first | refine j_aload_n (pc := 622) F dL_law_622 rfl ?_ | refine j_aload_nq (pc := 622) F dL_law_622 rfl ?_
  first | refine j_aload_n (pc := 623) F dL_law_623 rfl ?_ | refine j_aload_nq (pc := 623) F dL_law_623 rfl ?_
  refine j_iload (pc := 624) F dL_law_624 rfl ?_
  refine j_iconst (pc := 626) (v := (nI 1)) F dL_law_626 (by decide) ?_
  first | refine j_iaddN (pc := 627) F dL_law_627 ?_ | refine j_iadd (pc := 627) F dL_law_627 ?_
  refine j_sld (pc := 628) F hX hbl hbA (by omega) hL dL_law_628 ?_
  first | refine j_aload_n (pc := 629) F dL_law_629 rfl ?_ | refine j_aload_nq (pc := 629) F dL_law_629 rfl ?_
  refine j_iload (pc := 630) F dL_law_630 rfl ?_
  refine j_iconst (pc := 632) (v := (nI 2)) F dL_law_632 (by decide) ?_
  first | refine j_iaddN (pc := 633) F dL_law_633 ?_ | refine j_iadd (pc := 633) F dL_law_633 ?_
  refine j_sld (pc := 634) F hX hbl hbA (by omega) hL dL_law_634 ?_
  first | refine j_aload_n (pc := 635) F dL_law_635 rfl ?_ | refine j_aload_nq (pc := 635) F dL_law_635 rfl ?_
  refine j_iload (pc := 636) F dL_law_636 rfl ?_
  refine j_iconst (pc := 638) (v := (nI 3)) F dL_law_638 (by decide) ?_
  first | refine j_iaddN (pc := 639) F dL_law_639 ?_ | refine j_iadd (pc := 639) F dL_law_639 ?_
  refine j_sld (pc := 640) F hX hbl hbA (by omega) hL dL_law_640 ?_
  first | refine j_aload_n (pc := 641) F dL_law_641 rfl ?_ | refine j_aload_nq (pc := 641) F dL_law_641 rfl ?_
  refine j_iload (pc := 642) F dL_law_642 rfl ?_
  refine j_iconst (pc := 644) (v := (nI 4)) F dL_law_644 (by decide) ?_
  first | refine j_iaddN (pc := 645) F dL_law_645 ?_ | refine j_iadd (pc := 645) F dL_law_645 ?_
  refine j_sld (pc := 646) F hX hbl hbA (by omega) hL dL_law_646 ?_
  rw [mg_cm du]
  refine jf_ri (jf_runV (pc := 647) F (dj_cm du) (c_X9_pathAt (A := Ac A _) (p := xs (i + 1)) (b := xs (i + 2)) (c := xs (i + 3)) (i := xs (i + 4)) w hM) m_X9_pathAt mv_X9_pathAt lk_L_126 zc rfl ⟨by decide, by decide⟩ (Nat.le_of_ble_eq_true rfl) ⟨by omega, by omega⟩ rfl dL_law_647) (fun r2 v hp dv => ?_)
  obtain ⟨hM2, hv2⟩ := hp
  obtain ⟨aa2, CC2, z2, -⟩ := id hM2
  have zc2 := z2.cl
  refine j_istore (pc := 650) F dL_law_650 (by decide) ?_
  first | refine j_aload_n (pc := 652) F dL_law_652 rfl ?_ | refine j_aload_nq (pc := 652) F dL_law_652 rfl ?_
  refine jf_ri (jf_runV (pc := 653) F dv (c_X9_thrown (A := Ac A _) hM2) m_X9_thrown mv_X9_thrown lk_L_87 zc2 rfl ⟨by decide, by decide⟩ (Nat.le_of_ble_eq_true rfl) ⟨by omega, by omega⟩ rfl dL_law_653) (fun r3 v3 hp dv3 => ?_)
  obtain ⟨rfl, hM3⟩ := hp
  rw [nxt_s] at hB2
  have hI : LI g x y o s (mg (mg (sg o (aJ g 1 fo2)) u2) v3) := ⟨u2, v3, fo2, _, mg_cm dv3, e1, dj_cm dv3, hB2, hM3, w⟩
  refine j_iload (pc := 656) F dL_law_656 rfl ?_
  refine j_icmp_eq (pc := 658) F 663 dL_law_658 (by decide) (fun c => ?_) (fun c => ?_)
  · refine j_iload (pc := 663) F dL_law_663 rfl ?_
    refine j_if_ne (pc := 665) F 680 dL_law_665 (by decide) (fun c2 => ?_) (fun c2 => ?_)
    · refine j_goto (pc := 680) F 1543 dL_law_680 (by decide) ?_
      exact j_widen (by omega) (by omega) (kk _ _ _ hI ⟨rfl, rfl, rfl, rfl, rfl, trivial⟩)
    · have hc0 : pcode s (xs (i + 1)) (xs (i + 2)) (xs (i + 3)) (xs (i + 4)) = 0 := nI_z pcode_le4 c2
      obtain ⟨v1, hV1, hfo⟩ := e3 hc0
      have hV2 := hv2 hc0
      obtain ⟨t1, ht1, hr1⟩ := hV1
      obtain ⟨t2, ht2, hr2⟩ := hV2
      rw [ht1] at ht2
      cases ht2
      have he : r2 = v1 := hr2.trans hr1.symm
      have eo : mg (mg (sg o (aJ g 1 fo2)) u2) v3 o = some (aJ g 1 fo2) := mg_o (mg_o hUp_s)
      first | refine j_aload_n (pc := 668) F dL_law_668 rfl ?_ | refine j_aload_nq (pc := 668) F dL_law_668 rfl ?_
      refine j_iconst (pc := 669) (v := (nI 0)) F dL_law_669 (by decide) ?_
      refine j_laldN (pc := 670) F eo (by omega) (by decide) dL_law_670 ?_
      refine j_iload (pc := 671) F dL_law_671 rfl ?_
      refine j_i2l (pc := 673) F dL_law_673 ?_
      refine j_lcmp (pc := 674) F dL_law_674 ?_
      refine j_if_eq (pc := 675) F 680 dL_law_675 (by decide) (fun c3 => ?_) (fun c3 => ?_)
      · refine j_goto (pc := 680) F 1543 dL_law_680 (by decide) ?_
        exact j_widen (by omega) (by omega) (kk _ _ _ hI ⟨rfl, rfl, rfl, rfl, rfl, trivial⟩)
      · exact absurd (by rw [hfo, he]; exact cmp_self _) c3
  · exact absurd rfl c
theorem lc_bestPeer (hst : l.stackTraces = false) (F : Fx l X g A RL cL_law 7 (some .boolean) 12 601024 7293034) (hN : NC (xS X)) (hX : va_X b L xs (xS X) (xS X).heap) (hbl : b < (xS X).heap.size) (hbA : ¬ A b) (hL : L ≤ 2560) (hi : i + 4 < L) (hk : k + 8 ≤ 601024 ∧ n + 48 ≤ 7293034) (I : LI g x y o s h) (kk : ∀ (s2 : SG) (h2 : HF) (lv2 : List (Nat × Value)), LI g x y o s2 h2 → lall lv2 (LV b x y o i) → J l X g A 7 (k + 8) (n + 48) h2 1543 lv2 []) : J l X g A 7 k n h 683 (LV b x y o i) [] := by
  obtain ⟨hc, hm, fo, th, rfl, d1, d2, hB, hM, w⟩ := I
  first | refine j_aload_n (pc := 683) F dL_law_683 rfl ?_ | refine j_aload_nq (pc := 683) F dL_law_683 rfl ?_
  first | refine j_aload_n (pc := 684) F dL_law_684 rfl ?_ | refine j_aload_nq (pc := 684) F dL_law_684 rfl ?_
  refine j_iload (pc := 685) F dL_law_685 rfl ?_
  refine j_iconst (pc := 687) (v := (nI 1)) F dL_law_687 (by decide) ?_
  first | refine j_iaddN (pc := 688) F dL_law_688 ?_ | refine j_iadd (pc := 688) F dL_law_688 ?_
  refine j_sld (pc := 689) F hX hbl hbA (by omega) hL dL_law_689 ?_
  first | refine j_aload_n (pc := 690) F dL_law_690 rfl ?_ | refine j_aload_nq (pc := 690) F dL_law_690 rfl ?_
  refine j_iload (pc := 691) F dL_law_691 rfl ?_
  refine j_iconst (pc := 693) (v := (nI 2)) F dL_law_693 (by decide) ?_
  first | refine j_iaddN (pc := 694) F dL_law_694 ?_ | refine j_iadd (pc := 694) F dL_law_694 ?_
  refine j_sld (pc := 695) F hX hbl hbA (by omega) hL dL_law_695 ?_
  first | refine j_aload_n (pc := 696) F dL_law_696 rfl ?_ | refine j_aload_nq (pc := 696) F dL_law_696 rfl ?_
  refine jf_ri (jw_run (pc := 697) F d2 hN (w_bestPeer (A := Ac A hm) hst (p0 := xs (i + 1)) (p1 := xs (i + 2)) hB d1) ⟨wq_bestPeer, nw_L, by decide +kernel, by decide +kernel, wn_bestPeer⟩ wt_bestPeer lk_L_127 ⟨by decide, by decide⟩ (Nat.le_of_ble_eq_true rfl) ⟨by omega, by omega⟩ rfl dL_law_697) (fun r u hp du => ?_)
  obtain ⟨u2, fo2, rfl, e1, rfl, e3, hB2⟩ := hp
  obtain ⟨aa, CC, z, -⟩ := id hM
  have zc := z.cl
  refine j_istore (pc := 700) F dL_law_700 (by decide) ?_
  first | refine j_aload_n (pc := 702) F dL_law_702 rfl ?_ | refine j_aload_nq (pc := 702) F dL_law_702 rfl ?_
  first | refine j_aload_n (pc := 703) F dL_law_703 rfl ?_ | refine j_aload_nq (pc := 703) F dL_law_703 rfl ?_
  refine j_iload (pc := 704) F dL_law_704 rfl ?_
  refine j_iconst (pc := 706) (v := (nI 1)) F dL_law_706 (by decide) ?_
  first | refine j_iaddN (pc := 707) F dL_law_707 ?_ | refine j_iadd (pc := 707) F dL_law_707 ?_
  refine j_sld (pc := 708) F hX hbl hbA (by omega) hL dL_law_708 ?_
  first | refine j_aload_n (pc := 709) F dL_law_709 rfl ?_ | refine j_aload_nq (pc := 709) F dL_law_709 rfl ?_
  refine j_iload (pc := 710) F dL_law_710 rfl ?_
  refine j_iconst (pc := 712) (v := (nI 2)) F dL_law_712 (by decide) ?_
  first | refine j_iaddN (pc := 713) F dL_law_713 ?_ | refine j_iadd (pc := 713) F dL_law_713 ?_
  refine j_sld (pc := 714) F hX hbl hbA (by omega) hL dL_law_714 ?_
  rw [mg_cm du]
  refine jf_ri (jf_runV (pc := 715) F (dj_cm du) (c_X9_bestPeer (A := Ac A _) (b := xs (i + 1)) (c := xs (i + 2)) w hM) m_X9_bestPeer mv_X9_bestPeer lk_L_130 zc rfl ⟨by decide, by decide⟩ (Nat.le_of_ble_eq_true rfl) ⟨by omega, by omega⟩ rfl dL_law_715) (fun r2 v hp dv => ?_)
  obtain ⟨hM2, hv2⟩ := hp
  obtain ⟨aa2, CC2, z2, -⟩ := id hM2
  have zc2 := z2.cl
  refine j_istore (pc := 718) F dL_law_718 (by decide) ?_
  first | refine j_aload_n (pc := 720) F dL_law_720 rfl ?_ | refine j_aload_nq (pc := 720) F dL_law_720 rfl ?_
  refine jf_ri (jf_runV (pc := 721) F dv (c_X9_thrown (A := Ac A _) hM2) m_X9_thrown mv_X9_thrown lk_L_87 zc2 rfl ⟨by decide, by decide⟩ (Nat.le_of_ble_eq_true rfl) ⟨by omega, by omega⟩ rfl dL_law_721) (fun r3 v3 hp dv3 => ?_)
  obtain ⟨rfl, hM3⟩ := hp
  rw [nxt_s] at hB2
  have hI : LI g x y o s (mg (mg (sg o (aJ g 1 fo2)) u2) v3) := ⟨u2, v3, fo2, _, mg_cm dv3, e1, dj_cm dv3, hB2, hM3, w⟩
  refine j_iload (pc := 724) F dL_law_724 rfl ?_
  refine j_icmp_eq (pc := 726) F 731 dL_law_726 (by decide) (fun c => ?_) (fun c => ?_)
  · refine j_iload (pc := 731) F dL_law_731 rfl ?_
    refine j_if_ne (pc := 733) F 748 dL_law_733 (by decide) (fun c2 => ?_) (fun c2 => ?_)
    · refine j_goto (pc := 748) F 1543 dL_law_748 (by decide) ?_
      exact j_widen (by omega) (by omega) (kk _ _ _ hI ⟨rfl, rfl, rfl, rfl, rfl, trivial⟩)
    · have hc0 : xcode (xs (i + 1)) (xs (i + 2)) = 0 := nI_z xcode_le4 c2
      obtain ⟨v1, hV1, hfo⟩ := e3 hc0
      have hV2 := hv2 hc0
      have he : r2 = v1 := hV2.trans hV1.symm
      have eo : mg (mg (sg o (aJ g 1 fo2)) u2) v3 o = some (aJ g 1 fo2) := mg_o (mg_o hUp_s)
      first | refine j_aload_n (pc := 736) F dL_law_736 rfl ?_ | refine j_aload_nq (pc := 736) F dL_law_736 rfl ?_
      refine j_iconst (pc := 737) (v := (nI 0)) F dL_law_737 (by decide) ?_
      refine j_laldN (pc := 738) F eo (by omega) (by decide) dL_law_738 ?_
      refine j_iload (pc := 739) F dL_law_739 rfl ?_
      refine j_i2l (pc := 741) F dL_law_741 ?_
      refine j_lcmp (pc := 742) F dL_law_742 ?_
      refine j_if_eq (pc := 743) F 748 dL_law_743 (by decide) (fun c3 => ?_) (fun c3 => ?_)
      · refine j_goto (pc := 748) F 1543 dL_law_748 (by decide) ?_
        exact j_widen (by omega) (by omega) (kk _ _ _ hI ⟨rfl, rfl, rfl, rfl, rfl, trivial⟩)
      · exact absurd (by rw [hfo, he]; exact cmp_self _) c3
  · exact absurd rfl c
theorem lc_lookUp (hst : l.stackTraces = false) (F : Fx l X g A RL cL_law 7 (some .boolean) 12 601024 7293034) (hN : NC (xS X)) (hX : va_X b L xs (xS X) (xS X).heap) (hbl : b < (xS X).heap.size) (hbA : ¬ A b) (hL : L ≤ 2560) (hi : i + 4 < L) (hk : k + 8 ≤ 601024 ∧ n + 48 ≤ 7293034) (I : LI g x y o s h) (kk : ∀ (s2 : SG) (h2 : HF) (lv2 : List (Nat × Value)), LI g x y o s2 h2 → lall lv2 (LV b x y o i) → J l X g A 7 (k + 8) (n + 48) h2 1543 lv2 []) : J l X g A 7 k n h 751 (LV b x y o i) [] := by
  obtain ⟨hc, hm, fo, th, rfl, d1, d2, hB, hM, w⟩ := I
  first | refine j_aload_n (pc := 751) F dL_law_751 rfl ?_ | refine j_aload_nq (pc := 751) F dL_law_751 rfl ?_
  first | refine j_aload_n (pc := 752) F dL_law_752 rfl ?_ | refine j_aload_nq (pc := 752) F dL_law_752 rfl ?_
  refine j_iload (pc := 753) F dL_law_753 rfl ?_
  refine j_iconst (pc := 755) (v := (nI 1)) F dL_law_755 (by decide) ?_
  first | refine j_iaddN (pc := 756) F dL_law_756 ?_ | refine j_iadd (pc := 756) F dL_law_756 ?_
  refine j_sld (pc := 757) F hX hbl hbA (by omega) hL dL_law_757 ?_
  first | refine j_aload_n (pc := 758) F dL_law_758 rfl ?_ | refine j_aload_nq (pc := 758) F dL_law_758 rfl ?_
  refine jf_ri (jw_run (pc := 759) F d2 hN (w_lookUp (A := Ac A hm) hst (p0 := xs (i + 1)) hB d1) ⟨wq_lookUp, nw_L, by decide +kernel, by decide +kernel, wn_lookUp⟩ wt_lookUp lk_L_131 ⟨by decide, by decide⟩ (Nat.le_of_ble_eq_true rfl) ⟨by omega, by omega⟩ rfl dL_law_759) (fun r u hp du => ?_)
  obtain ⟨u2, fo2, rfl, e1, rfl, e3, hB2⟩ := hp
  obtain ⟨aa, CC, z, -⟩ := id hM
  have zc := z.cl
  refine j_istore (pc := 762) F dL_law_762 (by decide) ?_
  first | refine j_aload_n (pc := 764) F dL_law_764 rfl ?_ | refine j_aload_nq (pc := 764) F dL_law_764 rfl ?_
  first | refine j_aload_n (pc := 765) F dL_law_765 rfl ?_ | refine j_aload_nq (pc := 765) F dL_law_765 rfl ?_
  refine j_iload (pc := 766) F dL_law_766 rfl ?_
  refine j_iconst (pc := 768) (v := (nI 1)) F dL_law_768 (by decide) ?_
  first | refine j_iaddN (pc := 769) F dL_law_769 ?_ | refine j_iadd (pc := 769) F dL_law_769 ?_
  refine j_sld (pc := 770) F hX hbl hbA (by omega) hL dL_law_770 ?_
  rw [mg_cm du]
  refine jf_ri (jf_runV (pc := 771) F (dj_cm du) (c_X9_lookUp (A := Ac A _) (b := xs (i + 1)) w hM) m_X9_lookUp mv_X9_lookUp lk_L_133 zc rfl ⟨by decide, by decide⟩ (Nat.le_of_ble_eq_true rfl) ⟨by omega, by omega⟩ rfl dL_law_771) (fun r2 v hp dv => ?_)
  obtain ⟨hM2, hv2⟩ := hp
  obtain ⟨aa2, CC2, z2, -⟩ := id hM2
  have zc2 := z2.cl
  refine j_istore (pc := 774) F dL_law_774 (by decide) ?_
  first | refine j_aload_n (pc := 776) F dL_law_776 rfl ?_ | refine j_aload_nq (pc := 776) F dL_law_776 rfl ?_
  refine jf_ri (jf_runV (pc := 777) F dv (c_X9_thrown (A := Ac A _) hM2) m_X9_thrown mv_X9_thrown lk_L_87 zc2 rfl ⟨by decide, by decide⟩ (Nat.le_of_ble_eq_true rfl) ⟨by omega, by omega⟩ rfl dL_law_777) (fun r3 v3 hp dv3 => ?_)
  obtain ⟨rfl, hM3⟩ := hp
  rw [nxt_s] at hB2
  have hI : LI g x y o s (mg (mg (sg o (aJ g 1 fo2)) u2) v3) := ⟨u2, v3, fo2, _, mg_cm dv3, e1, dj_cm dv3, hB2, hM3, w⟩
  refine j_iload (pc := 780) F dL_law_780 rfl ?_
  refine j_icmp_eq (pc := 782) F 787 dL_law_782 (by decide) (fun c => ?_) (fun c => ?_)
  · refine j_iload (pc := 787) F dL_law_787 rfl ?_
    refine j_if_ne (pc := 789) F 804 dL_law_789 (by decide) (fun c2 => ?_) (fun c2 => ?_)
    · refine j_goto (pc := 804) F 1543 dL_law_804 (by decide) ?_
      exact j_widen (by omega) (by omega) (kk _ _ _ hI ⟨rfl, rfl, rfl, rfl, rfl, trivial⟩)
    · have hc0 : a1code (xs (i + 1)) = 0 := nI_z a1code_le4 c2
      obtain ⟨v1, hV1, hfo⟩ := e3 hc0
      have hV2 := hv2 hc0
      have he : r2 = v1 := hV2.trans hV1.symm
      have eo : mg (mg (sg o (aJ g 1 fo2)) u2) v3 o = some (aJ g 1 fo2) := mg_o (mg_o hUp_s)
      first | refine j_aload_n (pc := 792) F dL_law_792 rfl ?_ | refine j_aload_nq (pc := 792) F dL_law_792 rfl ?_
      refine j_iconst (pc := 793) (v := (nI 0)) F dL_law_793 (by decide) ?_
      refine j_laldN (pc := 794) F eo (by omega) (by decide) dL_law_794 ?_
      refine j_iload (pc := 795) F dL_law_795 rfl ?_
      refine j_i2l (pc := 797) F dL_law_797 ?_
      refine j_lcmp (pc := 798) F dL_law_798 ?_
      refine j_if_eq (pc := 799) F 804 dL_law_799 (by decide) (fun c3 => ?_) (fun c3 => ?_)
      · refine j_goto (pc := 804) F 1543 dL_law_804 (by decide) ?_
        exact j_widen (by omega) (by omega) (kk _ _ _ hI ⟨rfl, rfl, rfl, rfl, rfl, trivial⟩)
      · exact absurd (by rw [hfo, he]; exact cmp_self _) c3
  · exact absurd rfl c
theorem lc_lookUpByScan (hst : l.stackTraces = false) (F : Fx l X g A RL cL_law 7 (some .boolean) 12 601024 7293034) (hN : NC (xS X)) (hX : va_X b L xs (xS X) (xS X).heap) (hbl : b < (xS X).heap.size) (hbA : ¬ A b) (hL : L ≤ 2560) (hi : i + 4 < L) (hk : k + 8 ≤ 601024 ∧ n + 48 ≤ 7293034) (I : LI g x y o s h) (kk : ∀ (s2 : SG) (h2 : HF) (lv2 : List (Nat × Value)), LI g x y o s2 h2 → lall lv2 (LV b x y o i) → J l X g A 7 (k + 8) (n + 48) h2 1543 lv2 []) : J l X g A 7 k n h 807 (LV b x y o i) [] := by
  obtain ⟨hc, hm, fo, th, rfl, d1, d2, hB, hM, w⟩ := I
  first | refine j_aload_n (pc := 807) F dL_law_807 rfl ?_ | refine j_aload_nq (pc := 807) F dL_law_807 rfl ?_
  first | refine j_aload_n (pc := 808) F dL_law_808 rfl ?_ | refine j_aload_nq (pc := 808) F dL_law_808 rfl ?_
  refine j_iload (pc := 809) F dL_law_809 rfl ?_
  refine j_iconst (pc := 811) (v := (nI 1)) F dL_law_811 (by decide) ?_
  first | refine j_iaddN (pc := 812) F dL_law_812 ?_ | refine j_iadd (pc := 812) F dL_law_812 ?_
  refine j_sld (pc := 813) F hX hbl hbA (by omega) hL dL_law_813 ?_
  first | refine j_aload_n (pc := 814) F dL_law_814 rfl ?_ | refine j_aload_nq (pc := 814) F dL_law_814 rfl ?_
  refine jf_ri (jw_run (pc := 815) F d2 hN (w_lookUpByScan (A := Ac A hm) hst w (p0 := xs (i + 1)) hB d1) ⟨wq_lookUpByScan, nw_L, by decide +kernel, by decide +kernel, wn_lookUpByScan⟩ wt_lookUpByScan lk_L_134 ⟨by decide, by decide⟩ (Nat.le_of_ble_eq_true rfl) ⟨by omega, by omega⟩ rfl dL_law_815) (fun r u hp du => ?_)
  obtain ⟨u2, fo2, rfl, e1, rfl, e3, hB2⟩ := hp
  obtain ⟨aa, CC, z, -⟩ := id hM
  have zc := z.cl
  refine j_istore (pc := 818) F dL_law_818 (by decide) ?_
  first | refine j_aload_n (pc := 820) F dL_law_820 rfl ?_ | refine j_aload_nq (pc := 820) F dL_law_820 rfl ?_
  first | refine j_aload_n (pc := 821) F dL_law_821 rfl ?_ | refine j_aload_nq (pc := 821) F dL_law_821 rfl ?_
  refine j_iload (pc := 822) F dL_law_822 rfl ?_
  refine j_iconst (pc := 824) (v := (nI 1)) F dL_law_824 (by decide) ?_
  first | refine j_iaddN (pc := 825) F dL_law_825 ?_ | refine j_iadd (pc := 825) F dL_law_825 ?_
  refine j_sld (pc := 826) F hX hbl hbA (by omega) hL dL_law_826 ?_
  rw [mg_cm du]
  refine jf_ri (jf_runV (pc := 827) F (dj_cm du) (c_X9_lookUpByScan (A := Ac A _) (b := xs (i + 1)) w hM) m_X9_lookUpByScan mv_X9_lookUpByScan lk_L_136 zc rfl ⟨by decide, by decide⟩ (Nat.le_of_ble_eq_true rfl) ⟨by omega, by omega⟩ rfl dL_law_827) (fun r2 v hp dv => ?_)
  obtain ⟨hM2, hv2⟩ := hp
  obtain ⟨aa2, CC2, z2, -⟩ := id hM2
  have zc2 := z2.cl
  refine j_istore (pc := 830) F dL_law_830 (by decide) ?_
  first | refine j_aload_n (pc := 832) F dL_law_832 rfl ?_ | refine j_aload_nq (pc := 832) F dL_law_832 rfl ?_
  refine jf_ri (jf_runV (pc := 833) F dv (c_X9_thrown (A := Ac A _) hM2) m_X9_thrown mv_X9_thrown lk_L_87 zc2 rfl ⟨by decide, by decide⟩ (Nat.le_of_ble_eq_true rfl) ⟨by omega, by omega⟩ rfl dL_law_833) (fun r3 v3 hp dv3 => ?_)
  obtain ⟨rfl, hM3⟩ := hp
  rw [nxt_s] at hB2
  have hI : LI g x y o s (mg (mg (sg o (aJ g 1 fo2)) u2) v3) := ⟨u2, v3, fo2, _, mg_cm dv3, e1, dj_cm dv3, hB2, hM3, w⟩
  refine j_iload (pc := 836) F dL_law_836 rfl ?_
  refine j_icmp_eq (pc := 838) F 843 dL_law_838 (by decide) (fun c => ?_) (fun c => ?_)
  · refine j_iload (pc := 843) F dL_law_843 rfl ?_
    refine j_if_ne (pc := 845) F 860 dL_law_845 (by decide) (fun c2 => ?_) (fun c2 => ?_)
    · refine j_goto (pc := 860) F 1543 dL_law_860 (by decide) ?_
      exact j_widen (by omega) (by omega) (kk _ _ _ hI ⟨rfl, rfl, rfl, rfl, rfl, trivial⟩)
    · have hc0 : a1code (xs (i + 1)) = 0 := nI_z a1code_le4 c2
      obtain ⟨v1, hV1, hfo⟩ := e3 hc0
      have hV2 := hv2 hc0
      have he : r2 = v1 := hV2.trans hV1.symm
      have eo : mg (mg (sg o (aJ g 1 fo2)) u2) v3 o = some (aJ g 1 fo2) := mg_o (mg_o hUp_s)
      first | refine j_aload_n (pc := 848) F dL_law_848 rfl ?_ | refine j_aload_nq (pc := 848) F dL_law_848 rfl ?_
      refine j_iconst (pc := 849) (v := (nI 0)) F dL_law_849 (by decide) ?_
      refine j_laldN (pc := 850) F eo (by omega) (by decide) dL_law_850 ?_
      refine j_iload (pc := 851) F dL_law_851 rfl ?_
      refine j_i2l (pc := 853) F dL_law_853 ?_
      refine j_lcmp (pc := 854) F dL_law_854 ?_
      refine j_if_eq (pc := 855) F 860 dL_law_855 (by decide) (fun c3 => ?_) (fun c3 => ?_)
      · refine j_goto (pc := 860) F 1543 dL_law_860 (by decide) ?_
        exact j_widen (by omega) (by omega) (kk _ _ _ hI ⟨rfl, rfl, rfl, rfl, rfl, trivial⟩)
      · exact absurd (by rw [hfo, he]; exact cmp_self _) c3
  · exact absurd rfl c
theorem lc_origins (hst : l.stackTraces = false) (F : Fx l X g A RL cL_law 7 (some .boolean) 12 601024 7293034) (hN : NC (xS X)) (hX : va_X b L xs (xS X) (xS X).heap) (hbl : b < (xS X).heap.size) (hbA : ¬ A b) (hL : L ≤ 2560) (hi : i + 4 < L) (hk : k + 8 ≤ 601024 ∧ n + 48 ≤ 7293034) (I : LI g x y o s h) (kk : ∀ (s2 : SG) (h2 : HF) (lv2 : List (Nat × Value)), LI g x y o s2 h2 → lall lv2 (LV b x y o i) → J l X g A 7 (k + 8) (n + 48) h2 1543 lv2 []) : J l X g A 7 k n h 863 (LV b x y o i) [] := by
  obtain ⟨hc, hm, fo, th, rfl, d1, d2, hB, hM, w⟩ := I
  first | refine j_aload_n (pc := 863) F dL_law_863 rfl ?_ | refine j_aload_nq (pc := 863) F dL_law_863 rfl ?_
  first | refine j_aload_n (pc := 864) F dL_law_864 rfl ?_ | refine j_aload_nq (pc := 864) F dL_law_864 rfl ?_
  refine j_iload (pc := 865) F dL_law_865 rfl ?_
  refine j_iconst (pc := 867) (v := (nI 1)) F dL_law_867 (by decide) ?_
  first | refine j_iaddN (pc := 868) F dL_law_868 ?_ | refine j_iadd (pc := 868) F dL_law_868 ?_
  refine j_sld (pc := 869) F hX hbl hbA (by omega) hL dL_law_869 ?_
  first | refine j_aload_n (pc := 870) F dL_law_870 rfl ?_ | refine j_aload_nq (pc := 870) F dL_law_870 rfl ?_
  refine j_iload (pc := 871) F dL_law_871 rfl ?_
  refine j_iconst (pc := 873) (v := (nI 2)) F dL_law_873 (by decide) ?_
  first | refine j_iaddN (pc := 874) F dL_law_874 ?_ | refine j_iadd (pc := 874) F dL_law_874 ?_
  refine j_sld (pc := 875) F hX hbl hbA (by omega) hL dL_law_875 ?_
  first | refine j_aload_n (pc := 876) F dL_law_876 rfl ?_ | refine j_aload_nq (pc := 876) F dL_law_876 rfl ?_
  refine jf_ri (jw_run (pc := 877) F d2 hN (w_origins (A := Ac A hm) hst (p0 := xs (i + 1)) (p1 := xs (i + 2)) hB d1) ⟨wq_origins, nw_L, by decide +kernel, by decide +kernel, wn_origins⟩ wt_origins lk_L_137 ⟨by decide, by decide⟩ (Nat.le_of_ble_eq_true rfl) ⟨by omega, by omega⟩ rfl dL_law_877) (fun r u hp du => ?_)
  obtain ⟨u2, fo2, rfl, e1, rfl, e3, hB2⟩ := hp
  obtain ⟨aa, CC, z, -⟩ := id hM
  have zc := z.cl
  refine j_istore (pc := 880) F dL_law_880 (by decide) ?_
  first | refine j_aload_n (pc := 882) F dL_law_882 rfl ?_ | refine j_aload_nq (pc := 882) F dL_law_882 rfl ?_
  first | refine j_aload_n (pc := 883) F dL_law_883 rfl ?_ | refine j_aload_nq (pc := 883) F dL_law_883 rfl ?_
  refine j_iload (pc := 884) F dL_law_884 rfl ?_
  refine j_iconst (pc := 886) (v := (nI 1)) F dL_law_886 (by decide) ?_
  first | refine j_iaddN (pc := 887) F dL_law_887 ?_ | refine j_iadd (pc := 887) F dL_law_887 ?_
  refine j_sld (pc := 888) F hX hbl hbA (by omega) hL dL_law_888 ?_
  first | refine j_aload_n (pc := 889) F dL_law_889 rfl ?_ | refine j_aload_nq (pc := 889) F dL_law_889 rfl ?_
  refine j_iload (pc := 890) F dL_law_890 rfl ?_
  refine j_iconst (pc := 892) (v := (nI 2)) F dL_law_892 (by decide) ?_
  first | refine j_iaddN (pc := 893) F dL_law_893 ?_ | refine j_iadd (pc := 893) F dL_law_893 ?_
  refine j_sld (pc := 894) F hX hbl hbA (by omega) hL dL_law_894 ?_
  rw [mg_cm du]
  refine jf_ri (jf_runV (pc := 895) F (dj_cm du) (c_X9_origins (A := Ac A _) (b := xs (i + 1)) (c := xs (i + 2)) w hM) m_X9_origins mv_X9_origins lk_L_139 zc rfl ⟨by decide, by decide⟩ (Nat.le_of_ble_eq_true rfl) ⟨by omega, by omega⟩ rfl dL_law_895) (fun r2 v hp dv => ?_)
  obtain ⟨hM2, hv2⟩ := hp
  obtain ⟨aa2, CC2, z2, -⟩ := id hM2
  have zc2 := z2.cl
  refine j_istore (pc := 898) F dL_law_898 (by decide) ?_
  first | refine j_aload_n (pc := 900) F dL_law_900 rfl ?_ | refine j_aload_nq (pc := 900) F dL_law_900 rfl ?_
  refine jf_ri (jf_runV (pc := 901) F dv (c_X9_thrown (A := Ac A _) hM2) m_X9_thrown mv_X9_thrown lk_L_87 zc2 rfl ⟨by decide, by decide⟩ (Nat.le_of_ble_eq_true rfl) ⟨by omega, by omega⟩ rfl dL_law_901) (fun r3 v3 hp dv3 => ?_)
  obtain ⟨rfl, hM3⟩ := hp
  rw [nxt_s] at hB2
  have hI : LI g x y o s (mg (mg (sg o (aJ g 1 fo2)) u2) v3) := ⟨u2, v3, fo2, _, mg_cm dv3, e1, dj_cm dv3, hB2, hM3, w⟩
  refine j_iload (pc := 904) F dL_law_904 rfl ?_
  refine j_icmp_eq (pc := 906) F 911 dL_law_906 (by decide) (fun c => ?_) (fun c => ?_)
  · refine j_iload (pc := 911) F dL_law_911 rfl ?_
    refine j_if_ne (pc := 913) F 928 dL_law_913 (by decide) (fun c2 => ?_) (fun c2 => ?_)
    · refine j_goto (pc := 928) F 1543 dL_law_928 (by decide) ?_
      exact j_widen (by omega) (by omega) (kk _ _ _ hI ⟨rfl, rfl, rfl, rfl, rfl, trivial⟩)
    · have hc0 : xcode (xs (i + 1)) (xs (i + 2)) = 0 := nI_z xcode_le4 c2
      obtain ⟨v1, hV1, hfo⟩ := e3 hc0
      have hV2 := hv2 hc0
      have he : r2 = v1 := hV2.trans hV1.symm
      have eo : mg (mg (sg o (aJ g 1 fo2)) u2) v3 o = some (aJ g 1 fo2) := mg_o (mg_o hUp_s)
      first | refine j_aload_n (pc := 916) F dL_law_916 rfl ?_ | refine j_aload_nq (pc := 916) F dL_law_916 rfl ?_
      refine j_iconst (pc := 917) (v := (nI 0)) F dL_law_917 (by decide) ?_
      refine j_laldN (pc := 918) F eo (by omega) (by decide) dL_law_918 ?_
      refine j_iload (pc := 919) F dL_law_919 rfl ?_
      refine j_i2l (pc := 921) F dL_law_921 ?_
      refine j_lcmp (pc := 922) F dL_law_922 ?_
      refine j_if_eq (pc := 923) F 928 dL_law_923 (by decide) (fun c3 => ?_) (fun c3 => ?_)
      · refine j_goto (pc := 928) F 1543 dL_law_928 (by decide) ?_
        exact j_widen (by omega) (by omega) (kk _ _ _ hI ⟨rfl, rfl, rfl, rfl, rfl, trivial⟩)
      · exact absurd (by rw [hfo, he]; exact cmp_self _) c3
  · exact absurd rfl c
theorem lc_contested (hst : l.stackTraces = false) (F : Fx l X g A RL cL_law 7 (some .boolean) 12 601024 7293034) (hN : NC (xS X)) (hX : va_X b L xs (xS X) (xS X).heap) (hbl : b < (xS X).heap.size) (hbA : ¬ A b) (hL : L ≤ 2560) (hi : i + 4 < L) (hk : k + 8 ≤ 601024 ∧ n + 48 ≤ 7293034) (I : LI g x y o s h) (kk : ∀ (s2 : SG) (h2 : HF) (lv2 : List (Nat × Value)), LI g x y o s2 h2 → lall lv2 (LV b x y o i) → J l X g A 7 (k + 8) (n + 48) h2 1543 lv2 []) : J l X g A 7 k n h 931 (LV b x y o i) [] := by
  obtain ⟨hc, hm, fo, th, rfl, d1, d2, hB, hM, w⟩ := I
  obtain ⟨pm, am, tr, hi2, rg, rl, T, E, kc, K, hBx⟩ := id hB
  have e0 := hBx.1
  obtain ⟨aa, CC, z, -⟩ := id hM
  have zc := z.cl
  first | refine j_aload_n (pc := 931) F dL_law_931 rfl ?_ | refine j_aload_nq (pc := 931) F dL_law_931 rfl ?_
  rw [mg_as]
  refine jf_ri (jf_runV (pc := 932) F (dj_l d2 d1) (c_X8_contested (A := Ac A _) hB) m_X8_contested mv_X8_contested lk_L_140 e0 rfl ⟨by decide, by decide⟩ (Nat.le_of_ble_eq_true rfl) ⟨by omega, by omega⟩ rfl dL_law_932) (fun r u hp du => ?_)
  obtain ⟨rfl, hB2⟩ := hp
  obtain ⟨d3, d4⟩ := dj_r d2 du
  rw [← mg_as, mg_cm d4]
  first | refine j_aload_n (pc := 935) F dL_law_935 rfl ?_ | refine j_aload_nq (pc := 935) F dL_law_935 rfl ?_
  refine jf_ri (jf_runV (pc := 936) F (dj_cm d4) (c_X9_contested (A := Ac A _) w hM) m_X9_contested mv_X9_contested lk_L_143 zc rfl ⟨by decide, by decide⟩ (Nat.le_of_ble_eq_true rfl) ⟨by omega, by omega⟩ rfl dL_law_936) (fun r2 v hp dv => ?_)
  obtain ⟨rfl, hM2⟩ := hp
  have hI : LI g x y o (s) (mg (mg (sg o (aJ g 1 fo)) u) v) := ⟨u, v, fo, _, mg_cm dv, d3, dj_cm dv, hB2, hM2, w⟩
  refine j_icmp_eq (pc := 939) F 1543 dL_law_939 (by decide) (fun c => ?_) (fun c => ?_)
  · exact j_widen (by omega) (by omega) (kk _ _ _ hI ⟨rfl, rfl, rfl, rfl, rfl, trivial⟩)
  · exact absurd rfl c
theorem lc_isHijack (hst : l.stackTraces = false) (F : Fx l X g A RL cL_law 7 (some .boolean) 12 601024 7293034) (hN : NC (xS X)) (hX : va_X b L xs (xS X) (xS X).heap) (hbl : b < (xS X).heap.size) (hbA : ¬ A b) (hL : L ≤ 2560) (hi : i + 4 < L) (hk : k + 8 ≤ 601024 ∧ n + 48 ≤ 7293034) (I : LI g x y o s h) (kk : ∀ (s2 : SG) (h2 : HF) (lv2 : List (Nat × Value)), LI g x y o s2 h2 → lall lv2 (LV b x y o i) → J l X g A 7 (k + 8) (n + 48) h2 1543 lv2 []) : J l X g A 7 k n h 944 (LV b x y o i) [] := by
  obtain ⟨hc, hm, fo, th, rfl, d1, d2, hB, hM, w⟩ := I
  first | refine j_aload_n (pc := 944) F dL_law_944 rfl ?_ | refine j_aload_nq (pc := 944) F dL_law_944 rfl ?_
  first | refine j_aload_n (pc := 945) F dL_law_945 rfl ?_ | refine j_aload_nq (pc := 945) F dL_law_945 rfl ?_
  refine j_iload (pc := 946) F dL_law_946 rfl ?_
  refine j_iconst (pc := 948) (v := (nI 1)) F dL_law_948 (by decide) ?_
  first | refine j_iaddN (pc := 949) F dL_law_949 ?_ | refine j_iadd (pc := 949) F dL_law_949 ?_
  refine j_sld (pc := 950) F hX hbl hbA (by omega) hL dL_law_950 ?_
  first | refine j_aload_n (pc := 951) F dL_law_951 rfl ?_ | refine j_aload_nq (pc := 951) F dL_law_951 rfl ?_
  refine j_iload (pc := 952) F dL_law_952 rfl ?_
  refine j_iconst (pc := 954) (v := (nI 2)) F dL_law_954 (by decide) ?_
  first | refine j_iaddN (pc := 955) F dL_law_955 ?_ | refine j_iadd (pc := 955) F dL_law_955 ?_
  refine j_sld (pc := 956) F hX hbl hbA (by omega) hL dL_law_956 ?_
  first | refine j_aload_n (pc := 957) F dL_law_957 rfl ?_ | refine j_aload_nq (pc := 957) F dL_law_957 rfl ?_
  refine j_iload (pc := 958) F dL_law_958 rfl ?_
  refine j_iconst (pc := 960) (v := (nI 3)) F dL_law_960 (by decide) ?_
  first | refine j_iaddN (pc := 961) F dL_law_961 ?_ | refine j_iadd (pc := 961) F dL_law_961 ?_
  refine j_sld (pc := 962) F hX hbl hbA (by omega) hL dL_law_962 ?_
  first | refine j_aload_n (pc := 963) F dL_law_963 rfl ?_ | refine j_aload_nq (pc := 963) F dL_law_963 rfl ?_
  refine jf_ri (jw_run (pc := 964) F d2 hN (w_isHijack (A := Ac A hm) hst (p0 := xs (i + 1)) (p1 := xs (i + 2)) (p2 := xs (i + 3)) hB d1) ⟨wq_isHijack, nw_L, by decide +kernel, by decide +kernel, wn_isHijack⟩ wt_isHijack lk_L_144 ⟨by decide, by decide⟩ (Nat.le_of_ble_eq_true rfl) ⟨by omega, by omega⟩ rfl dL_law_964) (fun r u hp du => ?_)
  obtain ⟨u2, fo2, rfl, e1, rfl, e3, hB2⟩ := hp
  obtain ⟨aa, CC, z, -⟩ := id hM
  have zc := z.cl
  refine j_istore (pc := 967) F dL_law_967 (by decide) ?_
  first | refine j_aload_n (pc := 969) F dL_law_969 rfl ?_ | refine j_aload_nq (pc := 969) F dL_law_969 rfl ?_
  first | refine j_aload_n (pc := 970) F dL_law_970 rfl ?_ | refine j_aload_nq (pc := 970) F dL_law_970 rfl ?_
  refine j_iload (pc := 971) F dL_law_971 rfl ?_
  refine j_iconst (pc := 973) (v := (nI 1)) F dL_law_973 (by decide) ?_
  first | refine j_iaddN (pc := 974) F dL_law_974 ?_ | refine j_iadd (pc := 974) F dL_law_974 ?_
  refine j_sld (pc := 975) F hX hbl hbA (by omega) hL dL_law_975 ?_
  first | refine j_aload_n (pc := 976) F dL_law_976 rfl ?_ | refine j_aload_nq (pc := 976) F dL_law_976 rfl ?_
  refine j_iload (pc := 977) F dL_law_977 rfl ?_
  refine j_iconst (pc := 979) (v := (nI 2)) F dL_law_979 (by decide) ?_
  first | refine j_iaddN (pc := 980) F dL_law_980 ?_ | refine j_iadd (pc := 980) F dL_law_980 ?_
  refine j_sld (pc := 981) F hX hbl hbA (by omega) hL dL_law_981 ?_
  first | refine j_aload_n (pc := 982) F dL_law_982 rfl ?_ | refine j_aload_nq (pc := 982) F dL_law_982 rfl ?_
  refine j_iload (pc := 983) F dL_law_983 rfl ?_
  refine j_iconst (pc := 985) (v := (nI 3)) F dL_law_985 (by decide) ?_
  first | refine j_iaddN (pc := 986) F dL_law_986 ?_ | refine j_iadd (pc := 986) F dL_law_986 ?_
  refine j_sld (pc := 987) F hX hbl hbA (by omega) hL dL_law_987 ?_
  rw [mg_cm du]
  refine jf_ri (jf_runV (pc := 988) F (dj_cm du) (c_X9_isHijack (A := Ac A _) (p := xs (i + 1)) (b := xs (i + 2)) (c := xs (i + 3)) w hM) m_X9_isHijack mv_X9_isHijack lk_L_146 zc rfl ⟨by decide, by decide⟩ (Nat.le_of_ble_eq_true rfl) ⟨by omega, by omega⟩ rfl dL_law_988) (fun r2 v hp dv => ?_)
  obtain ⟨hM2, hv2⟩ := hp
  obtain ⟨aa2, CC2, z2, -⟩ := id hM2
  have zc2 := z2.cl
  refine j_istore (pc := 991) F dL_law_991 (by decide) ?_
  first | refine j_aload_n (pc := 993) F dL_law_993 rfl ?_ | refine j_aload_nq (pc := 993) F dL_law_993 rfl ?_
  refine jf_ri (jf_runV (pc := 994) F dv (c_X9_thrown (A := Ac A _) hM2) m_X9_thrown mv_X9_thrown lk_L_87 zc2 rfl ⟨by decide, by decide⟩ (Nat.le_of_ble_eq_true rfl) ⟨by omega, by omega⟩ rfl dL_law_994) (fun r3 v3 hp dv3 => ?_)
  obtain ⟨rfl, hM3⟩ := hp
  rw [nxt_s] at hB2
  have hI : LI g x y o s (mg (mg (sg o (aJ g 1 fo2)) u2) v3) := ⟨u2, v3, fo2, _, mg_cm dv3, e1, dj_cm dv3, hB2, hM3, w⟩
  refine j_iload (pc := 997) F dL_law_997 rfl ?_
  refine j_icmp_eq (pc := 999) F 1004 dL_law_999 (by decide) (fun c => ?_) (fun c => ?_)
  · refine j_iload (pc := 1004) F dL_law_1004 rfl ?_
    refine j_if_ne (pc := 1006) F 1028 dL_law_1006 (by decide) (fun c2 => ?_) (fun c2 => ?_)
    · refine j_goto (pc := 1028) F 1543 dL_law_1028 (by decide) ?_
      exact j_widen (by omega) (by omega) (kk _ _ _ hI ⟨rfl, rfl, rfl, rfl, rfl, trivial⟩)
    · have hc0 : rcode s (xs (i + 1)) (xs (i + 2)) (xs (i + 3)) = 0 := nI_z rcode_le4 c2
      obtain ⟨v1, hV1, hfo⟩ := e3 hc0
      have hV2 := hv2 hc0
      obtain ⟨t1, ht1, hr1⟩ := hV1
      obtain ⟨t2, ht2, hr2⟩ := hV2
      rw [ht1] at ht2
      cases ht2
      have he : r2 = v1 := hr2.trans hr1.symm
      have eo : mg (mg (sg o (aJ g 1 fo2)) u2) v3 o = some (aJ g 1 fo2) := mg_o (mg_o hUp_s)
      first | refine j_aload_n (pc := 1009) F dL_law_1009 rfl ?_ | refine j_aload_nq (pc := 1009) F dL_law_1009 rfl ?_
      refine j_iconst (pc := 1010) (v := (nI 0)) F dL_law_1010 (by decide) ?_
      refine j_laldN (pc := 1011) F eo (by omega) (by decide) dL_law_1011 ?_
      have hfo : fo2 0 = r2.toInt64 := by rw [he]; exact hfo
      generalize hbb : vHij s t1 = bb at hr2
      have hr2 := hr2
      subst hr2
      cases bb with
      | false =>
        refine j_iload (pc := 1012) F dL_law_1012 rfl ?_
        first | refine j_if_eqB (pc := 1014) F 1021 dL_law_1014 (by decide) (fun cb => ?_) (fun cb => ?_) | refine j_if_eqN (pc := 1014) F 1021 dL_law_1014 (by decide) (by omega) (fun cb => ?_) (fun cb => ?_) | refine j_if_eqI (pc := 1014) F 1021 dL_law_1014 (by decide) (fun cb => ?_) (fun cb => ?_)
        · refine j_lconst (pc := 1021) F dL_law_1021 rfl ?_
          refine j_lcmp (pc := 1022) F dL_law_1022 ?_
          refine j_if_eq (pc := 1023) F 1028 dL_law_1023 (by decide) (fun c3 => ?_) (fun c3 => ?_)
          · refine j_goto (pc := 1028) F 1543 dL_law_1028 (by decide) ?_
            exact j_widen (by omega) (by omega) (kk _ _ _ hI ⟨rfl, rfl, rfl, rfl, rfl, trivial⟩)
          · exact absurd (by rw [hfo]; exact cmp_self _) c3
        · cases cb
      | true =>
        refine j_iload (pc := 1012) F dL_law_1012 rfl ?_
        first | refine j_if_eqB (pc := 1014) F 1021 dL_law_1014 (by decide) (fun cb => ?_) (fun cb => ?_) | refine j_if_eqN (pc := 1014) F 1021 dL_law_1014 (by decide) (by omega) (fun cb => ?_) (fun cb => ?_) | refine j_if_eqI (pc := 1014) F 1021 dL_law_1014 (by decide) (fun cb => ?_) (fun cb => ?_)
        · cases cb
        · refine j_lconst (pc := 1017) F dL_law_1017 rfl ?_
          refine j_goto (pc := 1018) F 1022 dL_law_1018 (by decide) ?_
          refine j_lcmp (pc := 1022) F dL_law_1022 ?_
          refine j_if_eq (pc := 1023) F 1028 dL_law_1023 (by decide) (fun c3 => ?_) (fun c3 => ?_)
          · refine j_goto (pc := 1028) F 1543 dL_law_1028 (by decide) ?_
            exact j_widen (by omega) (by omega) (kk _ _ _ hI ⟨rfl, rfl, rfl, rfl, rfl, trivial⟩)
          · exact absurd (by rw [hfo]; exact cmp_self _) c3
  · exact absurd rfl c
theorem lc_allow (hst : l.stackTraces = false) (F : Fx l X g A RL cL_law 7 (some .boolean) 12 601024 7293034) (hN : NC (xS X)) (hX : va_X b L xs (xS X) (xS X).heap) (hbl : b < (xS X).heap.size) (hbA : ¬ A b) (hL : L ≤ 2560) (hi : i + 4 < L) (hk : k + 8 ≤ 601024 ∧ n + 48 ≤ 7293034) (I : LI g x y o s h) (kk : ∀ (s2 : SG) (h2 : HF) (lv2 : List (Nat × Value)), LI g x y o s2 h2 → lall lv2 (LV b x y o i) → J l X g A 7 (k + 8) (n + 48) h2 1543 lv2 []) : J l X g A 7 k n h 1031 (LV b x y o i) [] := by
  obtain ⟨hc, hm, fo, th, rfl, d1, d2, hB, hM, w⟩ := I
  first | refine j_aload_n (pc := 1031) F dL_law_1031 rfl ?_ | refine j_aload_nq (pc := 1031) F dL_law_1031 rfl ?_
  first | refine j_aload_n (pc := 1032) F dL_law_1032 rfl ?_ | refine j_aload_nq (pc := 1032) F dL_law_1032 rfl ?_
  refine j_iload (pc := 1033) F dL_law_1033 rfl ?_
  refine j_iconst (pc := 1035) (v := (nI 1)) F dL_law_1035 (by decide) ?_
  first | refine j_iaddN (pc := 1036) F dL_law_1036 ?_ | refine j_iadd (pc := 1036) F dL_law_1036 ?_
  refine j_sld (pc := 1037) F hX hbl hbA (by omega) hL dL_law_1037 ?_
  first | refine j_aload_n (pc := 1038) F dL_law_1038 rfl ?_ | refine j_aload_nq (pc := 1038) F dL_law_1038 rfl ?_
  refine j_iload (pc := 1039) F dL_law_1039 rfl ?_
  refine j_iconst (pc := 1041) (v := (nI 2)) F dL_law_1041 (by decide) ?_
  first | refine j_iaddN (pc := 1042) F dL_law_1042 ?_ | refine j_iadd (pc := 1042) F dL_law_1042 ?_
  refine j_sld (pc := 1043) F hX hbl hbA (by omega) hL dL_law_1043 ?_
  first | refine j_aload_n (pc := 1044) F dL_law_1044 rfl ?_ | refine j_aload_nq (pc := 1044) F dL_law_1044 rfl ?_
  refine j_iload (pc := 1045) F dL_law_1045 rfl ?_
  refine j_iconst (pc := 1047) (v := (nI 3)) F dL_law_1047 (by decide) ?_
  first | refine j_iaddN (pc := 1048) F dL_law_1048 ?_ | refine j_iadd (pc := 1048) F dL_law_1048 ?_
  refine j_sld (pc := 1049) F hX hbl hbA (by omega) hL dL_law_1049 ?_
  first | refine j_aload_n (pc := 1050) F dL_law_1050 rfl ?_ | refine j_aload_nq (pc := 1050) F dL_law_1050 rfl ?_
  refine j_iload (pc := 1051) F dL_law_1051 rfl ?_
  refine j_iconst (pc := 1053) (v := (nI 4)) F dL_law_1053 (by decide) ?_
  first | refine j_iaddN (pc := 1054) F dL_law_1054 ?_ | refine j_iadd (pc := 1054) F dL_law_1054 ?_
  refine j_sld (pc := 1055) F hX hbl hbA (by omega) hL dL_law_1055 ?_
  first | refine j_aload_n (pc := 1056) F dL_law_1056 rfl ?_ | refine j_aload_nq (pc := 1056) F dL_law_1056 rfl ?_
  refine jf_ri (jw_run (pc := 1057) F d2 hN (w_allow (A := Ac A hm) hst (p0 := xs (i + 1)) (p1 := xs (i + 2)) (p2 := xs (i + 3)) (p3 := xs (i + 4)) hB d1) ⟨wq_allow, nw_L, by decide +kernel, by decide +kernel, wn_allow⟩ wt_allow lk_L_147 ⟨by decide, by decide⟩ (Nat.le_of_ble_eq_true rfl) ⟨by omega, by omega⟩ rfl dL_law_1057) (fun r u hp du => ?_)
  obtain ⟨u2, fo2, rfl, e1, rfl, e3, hB2⟩ := hp
  obtain ⟨aa, CC, z, -⟩ := id hM
  have zc := z.cl
  refine j_istore (pc := 1060) F dL_law_1060 (by decide) ?_
  first | refine j_aload_n (pc := 1062) F dL_law_1062 rfl ?_ | refine j_aload_nq (pc := 1062) F dL_law_1062 rfl ?_
  first | refine j_aload_n (pc := 1063) F dL_law_1063 rfl ?_ | refine j_aload_nq (pc := 1063) F dL_law_1063 rfl ?_
  refine j_iload (pc := 1064) F dL_law_1064 rfl ?_
  refine j_iconst (pc := 1066) (v := (nI 1)) F dL_law_1066 (by decide) ?_
  first | refine j_iaddN (pc := 1067) F dL_law_1067 ?_ | refine j_iadd (pc := 1067) F dL_law_1067 ?_
  refine j_sld (pc := 1068) F hX hbl hbA (by omega) hL dL_law_1068 ?_
  first | refine j_aload_n (pc := 1069) F dL_law_1069 rfl ?_ | refine j_aload_nq (pc := 1069) F dL_law_1069 rfl ?_
  refine j_iload (pc := 1070) F dL_law_1070 rfl ?_
  refine j_iconst (pc := 1072) (v := (nI 2)) F dL_law_1072 (by decide) ?_
  first | refine j_iaddN (pc := 1073) F dL_law_1073 ?_ | refine j_iadd (pc := 1073) F dL_law_1073 ?_
  refine j_sld (pc := 1074) F hX hbl hbA (by omega) hL dL_law_1074 ?_
  first | refine j_aload_n (pc := 1075) F dL_law_1075 rfl ?_ | refine j_aload_nq (pc := 1075) F dL_law_1075 rfl ?_
  refine j_iload (pc := 1076) F dL_law_1076 rfl ?_
  refine j_iconst (pc := 1078) (v := (nI 3)) F dL_law_1078 (by decide) ?_
  first | refine j_iaddN (pc := 1079) F dL_law_1079 ?_ | refine j_iadd (pc := 1079) F dL_law_1079 ?_
  refine j_sld (pc := 1080) F hX hbl hbA (by omega) hL dL_law_1080 ?_
  first | refine j_aload_n (pc := 1081) F dL_law_1081 rfl ?_ | refine j_aload_nq (pc := 1081) F dL_law_1081 rfl ?_
  refine j_iload (pc := 1082) F dL_law_1082 rfl ?_
  refine j_iconst (pc := 1084) (v := (nI 4)) F dL_law_1084 (by decide) ?_
  first | refine j_iaddN (pc := 1085) F dL_law_1085 ?_ | refine j_iadd (pc := 1085) F dL_law_1085 ?_
  refine j_sld (pc := 1086) F hX hbl hbA (by omega) hL dL_law_1086 ?_
  rw [mg_cm du]
  refine jf_ri (jf_runV (pc := 1087) F (dj_cm du) (c_X9_allow (A := Ac A _) (b := xs (i + 1)) (c := xs (i + 2)) (lo := xs (i + 3)) (og := xs (i + 4)) w hM) m_X9_allow mv_X9_allow lk_L_149 zc rfl ⟨by decide, by decide⟩ (Nat.le_of_ble_eq_true rfl) ⟨by omega, by omega⟩ rfl dL_law_1087) (fun r2 v hp dv => ?_)
  obtain ⟨hM2, hv2⟩ := hp
  obtain ⟨aa2, CC2, z2, -⟩ := id hM2
  have zc2 := z2.cl
  refine j_istore (pc := 1090) F dL_law_1090 (by decide) ?_
  first | refine j_aload_n (pc := 1092) F dL_law_1092 rfl ?_ | refine j_aload_nq (pc := 1092) F dL_law_1092 rfl ?_
  refine jf_ri (jf_runV (pc := 1093) F dv (c_X9_thrown (A := Ac A _) hM2) m_X9_thrown mv_X9_thrown lk_L_87 zc2 rfl ⟨by decide, by decide⟩ (Nat.le_of_ble_eq_true rfl) ⟨by omega, by omega⟩ rfl dL_law_1093) (fun r3 v3 hp dv3 => ?_)
  obtain ⟨rfl, hM3⟩ := hp
  have hI : LI g x y o (nxt (acode s (xs (i + 1)) (xs (i + 2)) (xs (i + 3)) (xs (i + 4))) (sAl s (pqN (xs (i + 1)) (xs (i + 2))) (pN (xs (i + 3))) (pN (xs (i + 4)))) s) (mg (mg (sg o (aJ g 1 fo2)) u2) v3) := ⟨u2, v3, fo2, _, mg_cm dv3, e1, dj_cm dv3, hB2, hM3, wf_al w⟩
  refine j_iload (pc := 1096) F dL_law_1096 rfl ?_
  refine j_icmp_eq (pc := 1098) F 1103 dL_law_1098 (by decide) (fun c => ?_) (fun c => ?_)
  · refine j_iload (pc := 1103) F dL_law_1103 rfl ?_
    refine j_if_ne (pc := 1105) F 1127 dL_law_1105 (by decide) (fun c2 => ?_) (fun c2 => ?_)
    · refine j_goto (pc := 1127) F 1543 dL_law_1127 (by decide) ?_
      exact j_widen (by omega) (by omega) (kk _ _ _ hI ⟨rfl, rfl, rfl, rfl, rfl, trivial⟩)
    · have hc0 : acode s (xs (i + 1)) (xs (i + 2)) (xs (i + 3)) (xs (i + 4)) = 0 := nI_z acode_le4 c2
      obtain ⟨v1, hV1, hfo⟩ := e3 hc0
      have hV2 := hv2 hc0
      have he : r2 = v1 := hV2.trans hV1.symm
      have eo : mg (mg (sg o (aJ g 1 fo2)) u2) v3 o = some (aJ g 1 fo2) := mg_o (mg_o hUp_s)
      first | refine j_aload_n (pc := 1108) F dL_law_1108 rfl ?_ | refine j_aload_nq (pc := 1108) F dL_law_1108 rfl ?_
      refine j_iconst (pc := 1109) (v := (nI 0)) F dL_law_1109 (by decide) ?_
      refine j_laldN (pc := 1110) F eo (by omega) (by decide) dL_law_1110 ?_
      have hfo : fo2 0 = r2.toInt64 := by rw [he]; exact hfo
      have hr2 : r2 = bI _ := hV2
      generalize decide (sPl s (pqN (xs (i + 1)) (xs (i + 2))) (pN (xs (i + 3))) (pN (xs (i + 4))) = none) = bb at hr2
      subst hr2
      cases bb with
      | false =>
        refine j_iload (pc := 1111) F dL_law_1111 rfl ?_
        first | refine j_if_eqB (pc := 1113) F 1120 dL_law_1113 (by decide) (fun cb => ?_) (fun cb => ?_) | refine j_if_eqN (pc := 1113) F 1120 dL_law_1113 (by decide) (by omega) (fun cb => ?_) (fun cb => ?_) | refine j_if_eqI (pc := 1113) F 1120 dL_law_1113 (by decide) (fun cb => ?_) (fun cb => ?_)
        · refine j_lconst (pc := 1120) F dL_law_1120 rfl ?_
          refine j_lcmp (pc := 1121) F dL_law_1121 ?_
          refine j_if_eq (pc := 1122) F 1127 dL_law_1122 (by decide) (fun c3 => ?_) (fun c3 => ?_)
          · refine j_goto (pc := 1127) F 1543 dL_law_1127 (by decide) ?_
            exact j_widen (by omega) (by omega) (kk _ _ _ hI ⟨rfl, rfl, rfl, rfl, rfl, trivial⟩)
          · exact absurd (by rw [hfo]; exact cmp_self _) c3
        · cases cb
      | true =>
        refine j_iload (pc := 1111) F dL_law_1111 rfl ?_
        first | refine j_if_eqB (pc := 1113) F 1120 dL_law_1113 (by decide) (fun cb => ?_) (fun cb => ?_) | refine j_if_eqN (pc := 1113) F 1120 dL_law_1113 (by decide) (by omega) (fun cb => ?_) (fun cb => ?_) | refine j_if_eqI (pc := 1113) F 1120 dL_law_1113 (by decide) (fun cb => ?_) (fun cb => ?_)
        · cases cb
        · refine j_lconst (pc := 1116) F dL_law_1116 rfl ?_
          refine j_goto (pc := 1117) F 1121 dL_law_1117 (by decide) ?_
          refine j_lcmp (pc := 1121) F dL_law_1121 ?_
          refine j_if_eq (pc := 1122) F 1127 dL_law_1122 (by decide) (fun c3 => ?_) (fun c3 => ?_)
          · refine j_goto (pc := 1127) F 1543 dL_law_1127 (by decide) ?_
            exact j_widen (by omega) (by omega) (kk _ _ _ hI ⟨rfl, rfl, rfl, rfl, rfl, trivial⟩)
          · exact absurd (by rw [hfo]; exact cmp_self _) c3
  · exact absurd rfl c
theorem lc_verdict (hst : l.stackTraces = false) (F : Fx l X g A RL cL_law 7 (some .boolean) 12 601024 7293034) (hN : NC (xS X)) (hX : va_X b L xs (xS X) (xS X).heap) (hbl : b < (xS X).heap.size) (hbA : ¬ A b) (hL : L ≤ 2560) (hi : i + 4 < L) (hk : k + 8 ≤ 601024 ∧ n + 48 ≤ 7293034) (I : LI g x y o s h) (kk : ∀ (s2 : SG) (h2 : HF) (lv2 : List (Nat × Value)), LI g x y o s2 h2 → lall lv2 (LV b x y o i) → J l X g A 7 (k + 8) (n + 48) h2 1543 lv2 []) : J l X g A 7 k n h 1130 (LV b x y o i) [] := by
  obtain ⟨hc, hm, fo, th, rfl, d1, d2, hB, hM, w⟩ := I
  first | refine j_aload_n (pc := 1130) F dL_law_1130 rfl ?_ | refine j_aload_nq (pc := 1130) F dL_law_1130 rfl ?_
  first | refine j_aload_n (pc := 1131) F dL_law_1131 rfl ?_ | refine j_aload_nq (pc := 1131) F dL_law_1131 rfl ?_
  refine j_iload (pc := 1132) F dL_law_1132 rfl ?_
  refine j_iconst (pc := 1134) (v := (nI 1)) F dL_law_1134 (by decide) ?_
  first | refine j_iaddN (pc := 1135) F dL_law_1135 ?_ | refine j_iadd (pc := 1135) F dL_law_1135 ?_
  refine j_sld (pc := 1136) F hX hbl hbA (by omega) hL dL_law_1136 ?_
  first | refine j_aload_n (pc := 1137) F dL_law_1137 rfl ?_ | refine j_aload_nq (pc := 1137) F dL_law_1137 rfl ?_
  refine j_iload (pc := 1138) F dL_law_1138 rfl ?_
  refine j_iconst (pc := 1140) (v := (nI 2)) F dL_law_1140 (by decide) ?_
  first | refine j_iaddN (pc := 1141) F dL_law_1141 ?_ | refine j_iadd (pc := 1141) F dL_law_1141 ?_
  refine j_sld (pc := 1142) F hX hbl hbA (by omega) hL dL_law_1142 ?_
  first | refine j_aload_n (pc := 1143) F dL_law_1143 rfl ?_ | refine j_aload_nq (pc := 1143) F dL_law_1143 rfl ?_
  refine j_iload (pc := 1144) F dL_law_1144 rfl ?_
  refine j_iconst (pc := 1146) (v := (nI 3)) F dL_law_1146 (by decide) ?_
  first | refine j_iaddN (pc := 1147) F dL_law_1147 ?_ | refine j_iadd (pc := 1147) F dL_law_1147 ?_
  refine j_sld (pc := 1148) F hX hbl hbA (by omega) hL dL_law_1148 ?_
  first | refine j_aload_n (pc := 1149) F dL_law_1149 rfl ?_ | refine j_aload_nq (pc := 1149) F dL_law_1149 rfl ?_
  refine jf_ri (jw_run (pc := 1150) F d2 hN (w_verdict (A := Ac A hm) hst (p0 := xs (i + 1)) (p1 := xs (i + 2)) (p2 := xs (i + 3)) hB d1) ⟨wq_verdict, nw_L, by decide +kernel, by decide +kernel, wn_verdict⟩ wt_verdict lk_L_150 ⟨by decide, by decide⟩ (Nat.le_of_ble_eq_true rfl) ⟨by omega, by omega⟩ rfl dL_law_1150) (fun r u hp du => ?_)
  obtain ⟨u2, fo2, rfl, e1, rfl, e3, hB2⟩ := hp
  obtain ⟨aa, CC, z, -⟩ := id hM
  have zc := z.cl
  refine j_istore (pc := 1153) F dL_law_1153 (by decide) ?_
  first | refine j_aload_n (pc := 1155) F dL_law_1155 rfl ?_ | refine j_aload_nq (pc := 1155) F dL_law_1155 rfl ?_
  first | refine j_aload_n (pc := 1156) F dL_law_1156 rfl ?_ | refine j_aload_nq (pc := 1156) F dL_law_1156 rfl ?_
  refine j_iload (pc := 1157) F dL_law_1157 rfl ?_
  refine j_iconst (pc := 1159) (v := (nI 1)) F dL_law_1159 (by decide) ?_
  first | refine j_iaddN (pc := 1160) F dL_law_1160 ?_ | refine j_iadd (pc := 1160) F dL_law_1160 ?_
  refine j_sld (pc := 1161) F hX hbl hbA (by omega) hL dL_law_1161 ?_
  first | refine j_aload_n (pc := 1162) F dL_law_1162 rfl ?_ | refine j_aload_nq (pc := 1162) F dL_law_1162 rfl ?_
  refine j_iload (pc := 1163) F dL_law_1163 rfl ?_
  refine j_iconst (pc := 1165) (v := (nI 2)) F dL_law_1165 (by decide) ?_
  first | refine j_iaddN (pc := 1166) F dL_law_1166 ?_ | refine j_iadd (pc := 1166) F dL_law_1166 ?_
  refine j_sld (pc := 1167) F hX hbl hbA (by omega) hL dL_law_1167 ?_
  first | refine j_aload_n (pc := 1168) F dL_law_1168 rfl ?_ | refine j_aload_nq (pc := 1168) F dL_law_1168 rfl ?_
  refine j_iload (pc := 1169) F dL_law_1169 rfl ?_
  refine j_iconst (pc := 1171) (v := (nI 3)) F dL_law_1171 (by decide) ?_
  first | refine j_iaddN (pc := 1172) F dL_law_1172 ?_ | refine j_iadd (pc := 1172) F dL_law_1172 ?_
  refine j_sld (pc := 1173) F hX hbl hbA (by omega) hL dL_law_1173 ?_
  rw [mg_cm du]
  refine jf_ri (jf_runV (pc := 1174) F (dj_cm du) (c_X9_verdict (A := Ac A _) (p := xs (i + 1)) (b := xs (i + 2)) (c := xs (i + 3)) w hM) m_X9_verdict mv_X9_verdict lk_L_152 zc rfl ⟨by decide, by decide⟩ (Nat.le_of_ble_eq_true rfl) ⟨by omega, by omega⟩ rfl dL_law_1174) (fun r2 v hp dv => ?_)
  obtain ⟨hM2, hv2⟩ := hp
  obtain ⟨aa2, CC2, z2, -⟩ := id hM2
  have zc2 := z2.cl
  refine j_istore (pc := 1177) F dL_law_1177 (by decide) ?_
  first | refine j_aload_n (pc := 1179) F dL_law_1179 rfl ?_ | refine j_aload_nq (pc := 1179) F dL_law_1179 rfl ?_
  refine jf_ri (jf_runV (pc := 1180) F dv (c_X9_thrown (A := Ac A _) hM2) m_X9_thrown mv_X9_thrown lk_L_87 zc2 rfl ⟨by decide, by decide⟩ (Nat.le_of_ble_eq_true rfl) ⟨by omega, by omega⟩ rfl dL_law_1180) (fun r3 v3 hp dv3 => ?_)
  obtain ⟨rfl, hM3⟩ := hp
  rw [nxt_s] at hB2
  have hI : LI g x y o s (mg (mg (sg o (aJ g 1 fo2)) u2) v3) := ⟨u2, v3, fo2, _, mg_cm dv3, e1, dj_cm dv3, hB2, hM3, w⟩
  refine j_iload (pc := 1183) F dL_law_1183 rfl ?_
  refine j_icmp_eq (pc := 1185) F 1190 dL_law_1185 (by decide) (fun c => ?_) (fun c => ?_)
  · refine j_iload (pc := 1190) F dL_law_1190 rfl ?_
    refine j_if_ne (pc := 1192) F 1207 dL_law_1192 (by decide) (fun c2 => ?_) (fun c2 => ?_)
    · refine j_goto (pc := 1207) F 1543 dL_law_1207 (by decide) ?_
      exact j_widen (by omega) (by omega) (kk _ _ _ hI ⟨rfl, rfl, rfl, rfl, rfl, trivial⟩)
    · have hc0 : rcode s (xs (i + 1)) (xs (i + 2)) (xs (i + 3)) = 0 := nI_z rcode_le4 c2
      obtain ⟨v1, hV1, hfo⟩ := e3 hc0
      have hV2 := hv2 hc0
      obtain ⟨t1, ht1, hr1⟩ := hV1
      obtain ⟨t2, ht2, hr2⟩ := hV2
      rw [ht1] at ht2
      cases ht2
      have he : r2 = v1 := hr2.trans hr1.symm
      have eo : mg (mg (sg o (aJ g 1 fo2)) u2) v3 o = some (aJ g 1 fo2) := mg_o (mg_o hUp_s)
      first | refine j_aload_n (pc := 1195) F dL_law_1195 rfl ?_ | refine j_aload_nq (pc := 1195) F dL_law_1195 rfl ?_
      refine j_iconst (pc := 1196) (v := (nI 0)) F dL_law_1196 (by decide) ?_
      refine j_laldN (pc := 1197) F eo (by omega) (by decide) dL_law_1197 ?_
      refine j_iload (pc := 1198) F dL_law_1198 rfl ?_
      refine j_i2l (pc := 1200) F dL_law_1200 ?_
      refine j_lcmp (pc := 1201) F dL_law_1201 ?_
      refine j_if_eq (pc := 1202) F 1207 dL_law_1202 (by decide) (fun c3 => ?_) (fun c3 => ?_)
      · refine j_goto (pc := 1207) F 1543 dL_law_1207 (by decide) ?_
        exact j_widen (by omega) (by omega) (kk _ _ _ hI ⟨rfl, rfl, rfl, rfl, rfl, trivial⟩)
      · exact absurd (by rw [hfo, he]; exact cmp_self _) c3
  · exact absurd rfl c
theorem lc_relate (hst : l.stackTraces = false) (F : Fx l X g A RL cL_law 7 (some .boolean) 12 601024 7293034) (hN : NC (xS X)) (hX : va_X b L xs (xS X) (xS X).heap) (hbl : b < (xS X).heap.size) (hbA : ¬ A b) (hL : L ≤ 2560) (hi : i + 4 < L) (hk : k + 8 ≤ 601024 ∧ n + 48 ≤ 7293034) (I : LI g x y o s h) (kk : ∀ (s2 : SG) (h2 : HF) (lv2 : List (Nat × Value)), LI g x y o s2 h2 → lall lv2 (LV b x y o i) → J l X g A 7 (k + 8) (n + 48) h2 1543 lv2 []) : J l X g A 7 k n h 1210 (LV b x y o i) [] := by
  obtain ⟨hc, hm, fo, th, rfl, d1, d2, hB, hM, w⟩ := I
  first | refine j_aload_n (pc := 1210) F dL_law_1210 rfl ?_ | refine j_aload_nq (pc := 1210) F dL_law_1210 rfl ?_
  first | refine j_aload_n (pc := 1211) F dL_law_1211 rfl ?_ | refine j_aload_nq (pc := 1211) F dL_law_1211 rfl ?_
  refine j_iload (pc := 1212) F dL_law_1212 rfl ?_
  refine j_iconst (pc := 1214) (v := (nI 1)) F dL_law_1214 (by decide) ?_
  first | refine j_iaddN (pc := 1215) F dL_law_1215 ?_ | refine j_iadd (pc := 1215) F dL_law_1215 ?_
  refine j_sld (pc := 1216) F hX hbl hbA (by omega) hL dL_law_1216 ?_
  first | refine j_aload_n (pc := 1217) F dL_law_1217 rfl ?_ | refine j_aload_nq (pc := 1217) F dL_law_1217 rfl ?_
  refine j_iload (pc := 1218) F dL_law_1218 rfl ?_
  refine j_iconst (pc := 1220) (v := (nI 2)) F dL_law_1220 (by decide) ?_
  first | refine j_iaddN (pc := 1221) F dL_law_1221 ?_ | refine j_iadd (pc := 1221) F dL_law_1221 ?_
  refine j_sld (pc := 1222) F hX hbl hbA (by omega) hL dL_law_1222 ?_
  first | refine j_aload_n (pc := 1223) F dL_law_1223 rfl ?_ | refine j_aload_nq (pc := 1223) F dL_law_1223 rfl ?_
  refine j_iload (pc := 1224) F dL_law_1224 rfl ?_
  refine j_iconst (pc := 1226) (v := (nI 3)) F dL_law_1226 (by decide) ?_
  first | refine j_iaddN (pc := 1227) F dL_law_1227 ?_ | refine j_iadd (pc := 1227) F dL_law_1227 ?_
  refine j_sld (pc := 1228) F hX hbl hbA (by omega) hL dL_law_1228 ?_
  first | refine j_aload_n (pc := 1229) F dL_law_1229 rfl ?_ | refine j_aload_nq (pc := 1229) F dL_law_1229 rfl ?_
  refine jf_ri (jw_run (pc := 1230) F d2 hN (w_relate (A := Ac A hm) hst (p0 := xs (i + 1)) (p1 := xs (i + 2)) (p2 := xs (i + 3)) hB d1) ⟨wq_relate, nw_L, by decide +kernel, by decide +kernel, wn_relate⟩ wt_relate lk_L_153 ⟨by decide, by decide⟩ (Nat.le_of_ble_eq_true rfl) ⟨by omega, by omega⟩ rfl dL_law_1230) (fun r u hp du => ?_)
  obtain ⟨u2, fo2, rfl, e1, rfl, e3, hB2⟩ := hp
  obtain ⟨aa, CC, z, -⟩ := id hM
  have zc := z.cl
  refine j_istore (pc := 1233) F dL_law_1233 (by decide) ?_
  first | refine j_aload_n (pc := 1235) F dL_law_1235 rfl ?_ | refine j_aload_nq (pc := 1235) F dL_law_1235 rfl ?_
  first | refine j_aload_n (pc := 1236) F dL_law_1236 rfl ?_ | refine j_aload_nq (pc := 1236) F dL_law_1236 rfl ?_
  refine j_iload (pc := 1237) F dL_law_1237 rfl ?_
  refine j_iconst (pc := 1239) (v := (nI 1)) F dL_law_1239 (by decide) ?_
  first | refine j_iaddN (pc := 1240) F dL_law_1240 ?_ | refine j_iadd (pc := 1240) F dL_law_1240 ?_
  refine j_sld (pc := 1241) F hX hbl hbA (by omega) hL dL_law_1241 ?_
  first | refine j_aload_n (pc := 1242) F dL_law_1242 rfl ?_ | refine j_aload_nq (pc := 1242) F dL_law_1242 rfl ?_
  refine j_iload (pc := 1243) F dL_law_1243 rfl ?_
  refine j_iconst (pc := 1245) (v := (nI 2)) F dL_law_1245 (by decide) ?_
  first | refine j_iaddN (pc := 1246) F dL_law_1246 ?_ | refine j_iadd (pc := 1246) F dL_law_1246 ?_
  refine j_sld (pc := 1247) F hX hbl hbA (by omega) hL dL_law_1247 ?_
  first | refine j_aload_n (pc := 1248) F dL_law_1248 rfl ?_ | refine j_aload_nq (pc := 1248) F dL_law_1248 rfl ?_
  refine j_iload (pc := 1249) F dL_law_1249 rfl ?_
  refine j_iconst (pc := 1251) (v := (nI 3)) F dL_law_1251 (by decide) ?_
  first | refine j_iaddN (pc := 1252) F dL_law_1252 ?_ | refine j_iadd (pc := 1252) F dL_law_1252 ?_
  refine j_sld (pc := 1253) F hX hbl hbA (by omega) hL dL_law_1253 ?_
  rw [mg_cm du]
  refine jf_ri (jf_runV (pc := 1254) F (dj_cm du) (c_X9_relate (A := Ac A _) (b := xs (i + 1)) (c := xs (i + 2)) (v := xs (i + 3)) w hM) m_X9_relate mv_X9_relate lk_L_155 zc rfl ⟨by decide, by decide⟩ (Nat.le_of_ble_eq_true rfl) ⟨by omega, by omega⟩ rfl dL_law_1254) (fun r2 v hp dv => ?_)
  obtain ⟨hM2, hv2⟩ := hp
  obtain ⟨aa2, CC2, z2, -⟩ := id hM2
  have zc2 := z2.cl
  refine j_istore (pc := 1257) F dL_law_1257 (by decide) ?_
  first | refine j_aload_n (pc := 1259) F dL_law_1259 rfl ?_ | refine j_aload_nq (pc := 1259) F dL_law_1259 rfl ?_
  refine jf_ri (jf_runV (pc := 1260) F dv (c_X9_thrown (A := Ac A _) hM2) m_X9_thrown mv_X9_thrown lk_L_87 zc2 rfl ⟨by decide, by decide⟩ (Nat.le_of_ble_eq_true rfl) ⟨by omega, by omega⟩ rfl dL_law_1260) (fun r3 v3 hp dv3 => ?_)
  obtain ⟨rfl, hM3⟩ := hp
  have hI : LI g x y o (nxt (lcode (xs (i + 1)) (xs (i + 2)) (xs (i + 3))) (sRel s (pN (xs (i + 1))) (pN (xs (i + 2))) (pN (xs (i + 3)))) s) (mg (mg (sg o (aJ g 1 fo2)) u2) v3) := ⟨u2, v3, fo2, _, mg_cm dv3, e1, dj_cm dv3, hB2, hM3, wf_rel w⟩
  refine j_iload (pc := 1263) F dL_law_1263 rfl ?_
  refine j_icmp_eq (pc := 1265) F 1270 dL_law_1265 (by decide) (fun c => ?_) (fun c => ?_)
  · refine j_iload (pc := 1270) F dL_law_1270 rfl ?_
    refine j_if_ne (pc := 1272) F 1287 dL_law_1272 (by decide) (fun c2 => ?_) (fun c2 => ?_)
    · refine j_goto (pc := 1287) F 1543 dL_law_1287 (by decide) ?_
      exact j_widen (by omega) (by omega) (kk _ _ _ hI ⟨rfl, rfl, rfl, rfl, rfl, trivial⟩)
    · have hc0 : lcode (xs (i + 1)) (xs (i + 2)) (xs (i + 3)) = 0 := nI_z lcode_le4 c2
      obtain ⟨v1, hV1, hfo⟩ := e3 hc0
      have hV2 := hv2 hc0
      have he : r2 = v1 := hV2.trans hV1.symm
      have eo : mg (mg (sg o (aJ g 1 fo2)) u2) v3 o = some (aJ g 1 fo2) := mg_o (mg_o hUp_s)
      first | refine j_aload_n (pc := 1275) F dL_law_1275 rfl ?_ | refine j_aload_nq (pc := 1275) F dL_law_1275 rfl ?_
      refine j_iconst (pc := 1276) (v := (nI 0)) F dL_law_1276 (by decide) ?_
      refine j_laldN (pc := 1277) F eo (by omega) (by decide) dL_law_1277 ?_
      refine j_iload (pc := 1278) F dL_law_1278 rfl ?_
      refine j_i2l (pc := 1280) F dL_law_1280 ?_
      refine j_lcmp (pc := 1281) F dL_law_1281 ?_
      refine j_if_eq (pc := 1282) F 1287 dL_law_1282 (by decide) (fun c3 => ?_) (fun c3 => ?_)
      · refine j_goto (pc := 1287) F 1543 dL_law_1287 (by decide) ?_
        exact j_widen (by omega) (by omega) (kk _ _ _ hI ⟨rfl, rfl, rfl, rfl, rfl, trivial⟩)
      · exact absurd (by rw [hfo, he]; exact cmp_self _) c3
  · exact absurd rfl c
theorem lc_valley (hst : l.stackTraces = false) (F : Fx l X g A RL cL_law 7 (some .boolean) 12 601024 7293034) (hN : NC (xS X)) (hX : va_X b L xs (xS X) (xS X).heap) (hbl : b < (xS X).heap.size) (hbA : ¬ A b) (hL : L ≤ 2560) (hi : i + 4 < L) (hk : k + 8 ≤ 601024 ∧ n + 48 ≤ 7293034) (I : LI g x y o s h) (kk : ∀ (s2 : SG) (h2 : HF) (lv2 : List (Nat × Value)), LI g x y o s2 h2 → lall lv2 (LV b x y o i) → J l X g A 7 (k + 8) (n + 48) h2 1543 lv2 []) : J l X g A 7 k n h 1290 (LV b x y o i) [] := by
  obtain ⟨hc, hm, fo, th, rfl, d1, d2, hB, hM, w⟩ := I
  first | refine j_aload_n (pc := 1290) F dL_law_1290 rfl ?_ | refine j_aload_nq (pc := 1290) F dL_law_1290 rfl ?_
  first | refine j_aload_n (pc := 1291) F dL_law_1291 rfl ?_ | refine j_aload_nq (pc := 1291) F dL_law_1291 rfl ?_
  refine j_iload (pc := 1292) F dL_law_1292 rfl ?_
  refine j_iconst (pc := 1294) (v := (nI 1)) F dL_law_1294 (by decide) ?_
  first | refine j_iaddN (pc := 1295) F dL_law_1295 ?_ | refine j_iadd (pc := 1295) F dL_law_1295 ?_
  refine j_sld (pc := 1296) F hX hbl hbA (by omega) hL dL_law_1296 ?_
  first | refine j_aload_n (pc := 1297) F dL_law_1297 rfl ?_ | refine j_aload_nq (pc := 1297) F dL_law_1297 rfl ?_
  refine j_iload (pc := 1298) F dL_law_1298 rfl ?_
  refine j_iconst (pc := 1300) (v := (nI 2)) F dL_law_1300 (by decide) ?_
  first | refine j_iaddN (pc := 1301) F dL_law_1301 ?_ | refine j_iadd (pc := 1301) F dL_law_1301 ?_
  refine j_sld (pc := 1302) F hX hbl hbA (by omega) hL dL_law_1302 ?_
  first | refine j_aload_n (pc := 1303) F dL_law_1303 rfl ?_ | refine j_aload_nq (pc := 1303) F dL_law_1303 rfl ?_
  refine j_iload (pc := 1304) F dL_law_1304 rfl ?_
  refine j_iconst (pc := 1306) (v := (nI 3)) F dL_law_1306 (by decide) ?_
  first | refine j_iaddN (pc := 1307) F dL_law_1307 ?_ | refine j_iadd (pc := 1307) F dL_law_1307 ?_
  refine j_sld (pc := 1308) F hX hbl hbA (by omega) hL dL_law_1308 ?_
  first | refine j_aload_n (pc := 1309) F dL_law_1309 rfl ?_ | refine j_aload_nq (pc := 1309) F dL_law_1309 rfl ?_
  refine jf_ri (jw_run (pc := 1310) F d2 hN (w_valley (A := Ac A hm) hst w (p0 := xs (i + 1)) (p1 := xs (i + 2)) (p2 := xs (i + 3)) hB d1) ⟨wq_valley, nw_L, by decide +kernel, by decide +kernel, wn_valley⟩ wt_valley lk_L_156 ⟨by decide, by decide⟩ (Nat.le_of_ble_eq_true rfl) ⟨by omega, by omega⟩ rfl dL_law_1310) (fun r u hp du => ?_)
  obtain ⟨u2, fo2, rfl, e1, rfl, e3, hB2⟩ := hp
  obtain ⟨aa, CC, z, -⟩ := id hM
  have zc := z.cl
  refine j_istore (pc := 1313) F dL_law_1313 (by decide) ?_
  first | refine j_aload_n (pc := 1315) F dL_law_1315 rfl ?_ | refine j_aload_nq (pc := 1315) F dL_law_1315 rfl ?_
  first | refine j_aload_n (pc := 1316) F dL_law_1316 rfl ?_ | refine j_aload_nq (pc := 1316) F dL_law_1316 rfl ?_
  refine j_iload (pc := 1317) F dL_law_1317 rfl ?_
  refine j_iconst (pc := 1319) (v := (nI 1)) F dL_law_1319 (by decide) ?_
  first | refine j_iaddN (pc := 1320) F dL_law_1320 ?_ | refine j_iadd (pc := 1320) F dL_law_1320 ?_
  refine j_sld (pc := 1321) F hX hbl hbA (by omega) hL dL_law_1321 ?_
  first | refine j_aload_n (pc := 1322) F dL_law_1322 rfl ?_ | refine j_aload_nq (pc := 1322) F dL_law_1322 rfl ?_
  refine j_iload (pc := 1323) F dL_law_1323 rfl ?_
  refine j_iconst (pc := 1325) (v := (nI 2)) F dL_law_1325 (by decide) ?_
  first | refine j_iaddN (pc := 1326) F dL_law_1326 ?_ | refine j_iadd (pc := 1326) F dL_law_1326 ?_
  refine j_sld (pc := 1327) F hX hbl hbA (by omega) hL dL_law_1327 ?_
  first | refine j_aload_n (pc := 1328) F dL_law_1328 rfl ?_ | refine j_aload_nq (pc := 1328) F dL_law_1328 rfl ?_
  refine j_iload (pc := 1329) F dL_law_1329 rfl ?_
  refine j_iconst (pc := 1331) (v := (nI 3)) F dL_law_1331 (by decide) ?_
  first | refine j_iaddN (pc := 1332) F dL_law_1332 ?_ | refine j_iadd (pc := 1332) F dL_law_1332 ?_
  refine j_sld (pc := 1333) F hX hbl hbA (by omega) hL dL_law_1333 ?_
  rw [mg_cm du]
  refine jf_ri (jf_runV (pc := 1334) F (dj_cm du) (c_X9_valley (A := Ac A _) (p := xs (i + 1)) (b := xs (i + 2)) (c := xs (i + 3)) w hM) m_X9_valley mv_X9_valley lk_L_158 zc rfl ⟨by decide, by decide⟩ (Nat.le_of_ble_eq_true rfl) ⟨by omega, by omega⟩ rfl dL_law_1334) (fun r2 v hp dv => ?_)
  obtain ⟨hM2, hv2⟩ := hp
  obtain ⟨aa2, CC2, z2, -⟩ := id hM2
  have zc2 := z2.cl
  refine j_istore (pc := 1337) F dL_law_1337 (by decide) ?_
  first | refine j_aload_n (pc := 1339) F dL_law_1339 rfl ?_ | refine j_aload_nq (pc := 1339) F dL_law_1339 rfl ?_
  refine jf_ri (jf_runV (pc := 1340) F dv (c_X9_thrown (A := Ac A _) hM2) m_X9_thrown mv_X9_thrown lk_L_87 zc2 rfl ⟨by decide, by decide⟩ (Nat.le_of_ble_eq_true rfl) ⟨by omega, by omega⟩ rfl dL_law_1340) (fun r3 v3 hp dv3 => ?_)
  obtain ⟨rfl, hM3⟩ := hp
  rw [nxt_s] at hB2
  have hI : LI g x y o s (mg (mg (sg o (aJ g 1 fo2)) u2) v3) := ⟨u2, v3, fo2, _, mg_cm dv3, e1, dj_cm dv3, hB2, hM3, w⟩
  refine j_iload (pc := 1343) F dL_law_1343 rfl ?_
  refine j_icmp_eq (pc := 1345) F 1350 dL_law_1345 (by decide) (fun c => ?_) (fun c => ?_)
  · refine j_iload (pc := 1350) F dL_law_1350 rfl ?_
    refine j_if_ne (pc := 1352) F 1367 dL_law_1352 (by decide) (fun c2 => ?_) (fun c2 => ?_)
    · refine j_goto (pc := 1367) F 1543 dL_law_1367 (by decide) ?_
      exact j_widen (by omega) (by omega) (kk _ _ _ hI ⟨rfl, rfl, rfl, rfl, rfl, trivial⟩)
    · have hc0 : rcode s (xs (i + 1)) (xs (i + 2)) (xs (i + 3)) = 0 := nI_z rcode_le4 c2
      obtain ⟨v1, hV1, hfo⟩ := e3 hc0
      have hV2 := hv2 hc0
      obtain ⟨t1, ht1, hr1⟩ := hV1
      obtain ⟨t2, ht2, hr2⟩ := hV2
      rw [ht1] at ht2
      cases ht2
      have he : r2 = v1 := hr2.trans hr1.symm
      have eo : mg (mg (sg o (aJ g 1 fo2)) u2) v3 o = some (aJ g 1 fo2) := mg_o (mg_o hUp_s)
      first | refine j_aload_n (pc := 1355) F dL_law_1355 rfl ?_ | refine j_aload_nq (pc := 1355) F dL_law_1355 rfl ?_
      refine j_iconst (pc := 1356) (v := (nI 0)) F dL_law_1356 (by decide) ?_
      refine j_laldN (pc := 1357) F eo (by omega) (by decide) dL_law_1357 ?_
      refine j_iload (pc := 1358) F dL_law_1358 rfl ?_
      refine j_i2l (pc := 1360) F dL_law_1360 ?_
      refine j_lcmp (pc := 1361) F dL_law_1361 ?_
      refine j_if_eq (pc := 1362) F 1367 dL_law_1362 (by decide) (fun c3 => ?_) (fun c3 => ?_)
      · refine j_goto (pc := 1367) F 1543 dL_law_1367 (by decide) ?_
        exact j_widen (by omega) (by omega) (kk _ _ _ hI ⟨rfl, rfl, rfl, rfl, rfl, trivial⟩)
      · exact absurd (by rw [hfo, he]; exact cmp_self _) c3
  · exact absurd rfl c
theorem lc_lookUpAt (hst : l.stackTraces = false) (F : Fx l X g A RL cL_law 7 (some .boolean) 12 601024 7293034) (hN : NC (xS X)) (hX : va_X b L xs (xS X) (xS X).heap) (hbl : b < (xS X).heap.size) (hbA : ¬ A b) (hL : L ≤ 2560) (hi : i + 4 < L) (hk : k + 8 ≤ 601024 ∧ n + 48 ≤ 7293034) (I : LI g x y o s h) (kk : ∀ (s2 : SG) (h2 : HF) (lv2 : List (Nat × Value)), LI g x y o s2 h2 → lall lv2 (LV b x y o i) → J l X g A 7 (k + 8) (n + 48) h2 1543 lv2 []) : J l X g A 7 k n h 1370 (LV b x y o i) [] := by
  obtain ⟨hc, hm, fo, th, rfl, d1, d2, hB, hM, w⟩ := I
  first | refine j_aload_n (pc := 1370) F dL_law_1370 rfl ?_ | refine j_aload_nq (pc := 1370) F dL_law_1370 rfl ?_
  first | refine j_aload_n (pc := 1371) F dL_law_1371 rfl ?_ | refine j_aload_nq (pc := 1371) F dL_law_1371 rfl ?_
  refine j_iload (pc := 1372) F dL_law_1372 rfl ?_
  refine j_iconst (pc := 1374) (v := (nI 1)) F dL_law_1374 (by decide) ?_
  first | refine j_iaddN (pc := 1375) F dL_law_1375 ?_ | refine j_iadd (pc := 1375) F dL_law_1375 ?_
  refine j_sld (pc := 1376) F hX hbl hbA (by omega) hL dL_law_1376 ?_
  first | refine j_aload_n (pc := 1377) F dL_law_1377 rfl ?_ | refine j_aload_nq (pc := 1377) F dL_law_1377 rfl ?_
  refine j_iload (pc := 1378) F dL_law_1378 rfl ?_
  refine j_iconst (pc := 1380) (v := (nI 2)) F dL_law_1380 (by decide) ?_
  first | refine j_iaddN (pc := 1381) F dL_law_1381 ?_ | refine j_iadd (pc := 1381) F dL_law_1381 ?_
  refine j_sld (pc := 1382) F hX hbl hbA (by omega) hL dL_law_1382 ?_
  first | refine j_aload_n (pc := 1383) F dL_law_1383 rfl ?_ | refine j_aload_nq (pc := 1383) F dL_law_1383 rfl ?_
  refine jf_ri (jw_run (pc := 1384) F d2 hN (w_lookUpAt (A := Ac A hm) hst w (p0 := xs (i + 1)) (p1 := xs (i + 2)) hB d1) ⟨wq_lookUpAt, nw_L, by decide +kernel, by decide +kernel, wn_lookUpAt⟩ wt_lookUpAt lk_L_159 ⟨by decide, by decide⟩ (Nat.le_of_ble_eq_true rfl) ⟨by omega, by omega⟩ rfl dL_law_1384) (fun r u hp du => ?_)
  obtain ⟨u2, fo2, rfl, e1, rfl, e3, hB2⟩ := hp
  obtain ⟨aa, CC, z, -⟩ := id hM
  have zc := z.cl
  refine j_istore (pc := 1387) F dL_law_1387 (by decide) ?_
  first | refine j_aload_n (pc := 1389) F dL_law_1389 rfl ?_ | refine j_aload_nq (pc := 1389) F dL_law_1389 rfl ?_
  first | refine j_aload_n (pc := 1390) F dL_law_1390 rfl ?_ | refine j_aload_nq (pc := 1390) F dL_law_1390 rfl ?_
  refine j_iload (pc := 1391) F dL_law_1391 rfl ?_
  refine j_iconst (pc := 1393) (v := (nI 1)) F dL_law_1393 (by decide) ?_
  first | refine j_iaddN (pc := 1394) F dL_law_1394 ?_ | refine j_iadd (pc := 1394) F dL_law_1394 ?_
  refine j_sld (pc := 1395) F hX hbl hbA (by omega) hL dL_law_1395 ?_
  first | refine j_aload_n (pc := 1396) F dL_law_1396 rfl ?_ | refine j_aload_nq (pc := 1396) F dL_law_1396 rfl ?_
  refine j_iload (pc := 1397) F dL_law_1397 rfl ?_
  refine j_iconst (pc := 1399) (v := (nI 2)) F dL_law_1399 (by decide) ?_
  first | refine j_iaddN (pc := 1400) F dL_law_1400 ?_ | refine j_iadd (pc := 1400) F dL_law_1400 ?_
  refine j_sld (pc := 1401) F hX hbl hbA (by omega) hL dL_law_1401 ?_
  rw [mg_cm du]
  refine jf_ri (jf_runV (pc := 1402) F (dj_cm du) (c_X9_lookUpAt (A := Ac A _) (t := xs (i + 1)) (b := xs (i + 2)) w hM) m_X9_lookUpAt mv_X9_lookUpAt lk_L_161 zc rfl ⟨by decide, by decide⟩ (Nat.le_of_ble_eq_true rfl) ⟨by omega, by omega⟩ rfl dL_law_1402) (fun r2 v hp dv => ?_)
  obtain ⟨hM2, hv2⟩ := hp
  obtain ⟨aa2, CC2, z2, -⟩ := id hM2
  have zc2 := z2.cl
  refine j_istore (pc := 1405) F dL_law_1405 (by decide) ?_
  first | refine j_aload_n (pc := 1407) F dL_law_1407 rfl ?_ | refine j_aload_nq (pc := 1407) F dL_law_1407 rfl ?_
  refine jf_ri (jf_runV (pc := 1408) F dv (c_X9_thrown (A := Ac A _) hM2) m_X9_thrown mv_X9_thrown lk_L_87 zc2 rfl ⟨by decide, by decide⟩ (Nat.le_of_ble_eq_true rfl) ⟨by omega, by omega⟩ rfl dL_law_1408) (fun r3 v3 hp dv3 => ?_)
  obtain ⟨rfl, hM3⟩ := hp
  rw [nxt_s] at hB2
  have hI : LI g x y o s (mg (mg (sg o (aJ g 1 fo2)) u2) v3) := ⟨u2, v3, fo2, _, mg_cm dv3, e1, dj_cm dv3, hB2, hM3, w⟩
  refine j_iload (pc := 1411) F dL_law_1411 rfl ?_
  refine j_icmp_eq (pc := 1413) F 1418 dL_law_1413 (by decide) (fun c => ?_) (fun c => ?_)
  · refine j_iload (pc := 1418) F dL_law_1418 rfl ?_
    refine j_if_ne (pc := 1420) F 1435 dL_law_1420 (by decide) (fun c2 => ?_) (fun c2 => ?_)
    · refine j_goto (pc := 1435) F 1543 dL_law_1435 (by decide) ?_
      exact j_widen (by omega) (by omega) (kk _ _ _ hI ⟨rfl, rfl, rfl, rfl, rfl, trivial⟩)
    · have hc0 : a1code (xs (i + 2)) = 0 := nI_z a1code_le4 c2
      obtain ⟨v1, hV1, hfo⟩ := e3 hc0
      have hV2 := hv2 hc0
      have he : r2 = v1 := hV2.trans hV1.symm
      have eo : mg (mg (sg o (aJ g 1 fo2)) u2) v3 o = some (aJ g 1 fo2) := mg_o (mg_o hUp_s)
      first | refine j_aload_n (pc := 1423) F dL_law_1423 rfl ?_ | refine j_aload_nq (pc := 1423) F dL_law_1423 rfl ?_
      refine j_iconst (pc := 1424) (v := (nI 0)) F dL_law_1424 (by decide) ?_
      refine j_laldN (pc := 1425) F eo (by omega) (by decide) dL_law_1425 ?_
      refine j_iload (pc := 1426) F dL_law_1426 rfl ?_
      refine j_i2l (pc := 1428) F dL_law_1428 ?_
      refine j_lcmp (pc := 1429) F dL_law_1429 ?_
      refine j_if_eq (pc := 1430) F 1435 dL_law_1430 (by decide) (fun c3 => ?_) (fun c3 => ?_)
      · refine j_goto (pc := 1435) F 1543 dL_law_1435 (by decide) ?_
        exact j_widen (by omega) (by omega) (kk _ _ _ hI ⟨rfl, rfl, rfl, rfl, rfl, trivial⟩)
      · exact absurd (by rw [hfo, he]; exact cmp_self _) c3
  · exact absurd rfl c
theorem lc_originAt (hst : l.stackTraces = false) (F : Fx l X g A RL cL_law 7 (some .boolean) 12 601024 7293034) (hN : NC (xS X)) (hX : va_X b L xs (xS X) (xS X).heap) (hbl : b < (xS X).heap.size) (hbA : ¬ A b) (hL : L ≤ 2560) (hi : i + 4 < L) (hk : k + 8 ≤ 601024 ∧ n + 48 ≤ 7293034) (I : LI g x y o s h) (kk : ∀ (s2 : SG) (h2 : HF) (lv2 : List (Nat × Value)), LI g x y o s2 h2 → lall lv2 (LV b x y o i) → J l X g A 7 (k + 8) (n + 48) h2 1543 lv2 []) : J l X g A 7 k n h 1438 (LV b x y o i) [] := by
  obtain ⟨hc, hm, fo, th, rfl, d1, d2, hB, hM, w⟩ := I
  first | refine j_aload_n (pc := 1438) F dL_law_1438 rfl ?_ | refine j_aload_nq (pc := 1438) F dL_law_1438 rfl ?_
  first | refine j_aload_n (pc := 1439) F dL_law_1439 rfl ?_ | refine j_aload_nq (pc := 1439) F dL_law_1439 rfl ?_
  refine j_iload (pc := 1440) F dL_law_1440 rfl ?_
  refine j_iconst (pc := 1442) (v := (nI 1)) F dL_law_1442 (by decide) ?_
  first | refine j_iaddN (pc := 1443) F dL_law_1443 ?_ | refine j_iadd (pc := 1443) F dL_law_1443 ?_
  refine j_sld (pc := 1444) F hX hbl hbA (by omega) hL dL_law_1444 ?_
  first | refine j_aload_n (pc := 1445) F dL_law_1445 rfl ?_ | refine j_aload_nq (pc := 1445) F dL_law_1445 rfl ?_
  refine j_iload (pc := 1446) F dL_law_1446 rfl ?_
  refine j_iconst (pc := 1448) (v := (nI 2)) F dL_law_1448 (by decide) ?_
  first | refine j_iaddN (pc := 1449) F dL_law_1449 ?_ | refine j_iadd (pc := 1449) F dL_law_1449 ?_
  refine j_sld (pc := 1450) F hX hbl hbA (by omega) hL dL_law_1450 ?_
  first | refine j_aload_n (pc := 1451) F dL_law_1451 rfl ?_ | refine j_aload_nq (pc := 1451) F dL_law_1451 rfl ?_
  refine jf_ri (jw_run (pc := 1452) F d2 hN (w_originAt (A := Ac A hm) hst w (p0 := xs (i + 1)) (p1 := xs (i + 2)) hB d1) ⟨wq_originAt, nw_L, by decide +kernel, by decide +kernel, wn_originAt⟩ wt_originAt lk_L_162 ⟨by decide, by decide⟩ (Nat.le_of_ble_eq_true rfl) ⟨by omega, by omega⟩ rfl dL_law_1452) (fun r u hp du => ?_)
  obtain ⟨u2, fo2, rfl, e1, rfl, e3, hB2⟩ := hp
  obtain ⟨aa, CC, z, -⟩ := id hM
  have zc := z.cl
  refine j_istore (pc := 1455) F dL_law_1455 (by decide) ?_
  first | refine j_aload_n (pc := 1457) F dL_law_1457 rfl ?_ | refine j_aload_nq (pc := 1457) F dL_law_1457 rfl ?_
  first | refine j_aload_n (pc := 1458) F dL_law_1458 rfl ?_ | refine j_aload_nq (pc := 1458) F dL_law_1458 rfl ?_
  refine j_iload (pc := 1459) F dL_law_1459 rfl ?_
  refine j_iconst (pc := 1461) (v := (nI 1)) F dL_law_1461 (by decide) ?_
  first | refine j_iaddN (pc := 1462) F dL_law_1462 ?_ | refine j_iadd (pc := 1462) F dL_law_1462 ?_
  refine j_sld (pc := 1463) F hX hbl hbA (by omega) hL dL_law_1463 ?_
  first | refine j_aload_n (pc := 1464) F dL_law_1464 rfl ?_ | refine j_aload_nq (pc := 1464) F dL_law_1464 rfl ?_
  refine j_iload (pc := 1465) F dL_law_1465 rfl ?_
  refine j_iconst (pc := 1467) (v := (nI 2)) F dL_law_1467 (by decide) ?_
  first | refine j_iaddN (pc := 1468) F dL_law_1468 ?_ | refine j_iadd (pc := 1468) F dL_law_1468 ?_
  refine j_sld (pc := 1469) F hX hbl hbA (by omega) hL dL_law_1469 ?_
  rw [mg_cm du]
  refine jf_ri (jf_runV (pc := 1470) F (dj_cm du) (c_X9_originAt (A := Ac A _) (t := xs (i + 1)) (b := xs (i + 2)) w hM) m_X9_originAt mv_X9_originAt lk_L_164 zc rfl ⟨by decide, by decide⟩ (Nat.le_of_ble_eq_true rfl) ⟨by omega, by omega⟩ rfl dL_law_1470) (fun r2 v hp dv => ?_)
  obtain ⟨hM2, hv2⟩ := hp
  obtain ⟨aa2, CC2, z2, -⟩ := id hM2
  have zc2 := z2.cl
  refine j_istore (pc := 1473) F dL_law_1473 (by decide) ?_
  first | refine j_aload_n (pc := 1475) F dL_law_1475 rfl ?_ | refine j_aload_nq (pc := 1475) F dL_law_1475 rfl ?_
  refine jf_ri (jf_runV (pc := 1476) F dv (c_X9_thrown (A := Ac A _) hM2) m_X9_thrown mv_X9_thrown lk_L_87 zc2 rfl ⟨by decide, by decide⟩ (Nat.le_of_ble_eq_true rfl) ⟨by omega, by omega⟩ rfl dL_law_1476) (fun r3 v3 hp dv3 => ?_)
  obtain ⟨rfl, hM3⟩ := hp
  rw [nxt_s] at hB2
  have hI : LI g x y o s (mg (mg (sg o (aJ g 1 fo2)) u2) v3) := ⟨u2, v3, fo2, _, mg_cm dv3, e1, dj_cm dv3, hB2, hM3, w⟩
  refine j_iload (pc := 1479) F dL_law_1479 rfl ?_
  refine j_icmp_eq (pc := 1481) F 1486 dL_law_1481 (by decide) (fun c => ?_) (fun c => ?_)
  · refine j_iload (pc := 1486) F dL_law_1486 rfl ?_
    refine j_if_ne (pc := 1488) F 1503 dL_law_1488 (by decide) (fun c2 => ?_) (fun c2 => ?_)
    · refine j_goto (pc := 1503) F 1543 dL_law_1503 (by decide) ?_
      exact j_widen (by omega) (by omega) (kk _ _ _ hI ⟨rfl, rfl, rfl, rfl, rfl, trivial⟩)
    · have hc0 : a1code (xs (i + 2)) = 0 := nI_z a1code_le4 c2
      obtain ⟨v1, hV1, hfo⟩ := e3 hc0
      have hV2 := hv2 hc0
      have he : r2 = v1 := hV2.trans hV1.symm
      have eo : mg (mg (sg o (aJ g 1 fo2)) u2) v3 o = some (aJ g 1 fo2) := mg_o (mg_o hUp_s)
      first | refine j_aload_n (pc := 1491) F dL_law_1491 rfl ?_ | refine j_aload_nq (pc := 1491) F dL_law_1491 rfl ?_
      refine j_iconst (pc := 1492) (v := (nI 0)) F dL_law_1492 (by decide) ?_
      refine j_laldN (pc := 1493) F eo (by omega) (by decide) dL_law_1493 ?_
      refine j_iload (pc := 1494) F dL_law_1494 rfl ?_
      refine j_i2l (pc := 1496) F dL_law_1496 ?_
      refine j_lcmp (pc := 1497) F dL_law_1497 ?_
      refine j_if_eq (pc := 1498) F 1503 dL_law_1498 (by decide) (fun c3 => ?_) (fun c3 => ?_)
      · refine j_goto (pc := 1503) F 1543 dL_law_1503 (by decide) ?_
        exact j_widen (by omega) (by omega) (kk _ _ _ hI ⟨rfl, rfl, rfl, rfl, rfl, trivial⟩)
      · exact absurd (by rw [hfo, he]; exact cmp_self _) c3
  · exact absurd rfl c
theorem lc_changes (hst : l.stackTraces = false) (F : Fx l X g A RL cL_law 7 (some .boolean) 12 601024 7293034) (hN : NC (xS X)) (hX : va_X b L xs (xS X) (xS X).heap) (hbl : b < (xS X).heap.size) (hbA : ¬ A b) (hL : L ≤ 2560) (hi : i + 4 < L) (hk : k + 8 ≤ 601024 ∧ n + 48 ≤ 7293034) (I : LI g x y o s h) (kk : ∀ (s2 : SG) (h2 : HF) (lv2 : List (Nat × Value)), LI g x y o s2 h2 → lall lv2 (LV b x y o i) → J l X g A 7 (k + 8) (n + 48) h2 1543 lv2 []) : J l X g A 7 k n h 1506 (LV b x y o i) [] := by
  obtain ⟨hc, hm, fo, th, rfl, d1, d2, hB, hM, w⟩ := I
  obtain ⟨pm, am, tr, hi2, rg, rl, T, E, kc, K, hBx⟩ := id hB
  have e0 := hBx.1
  obtain ⟨aa, CC, z, -⟩ := id hM
  have zc := z.cl
  first | refine j_aload_n (pc := 1506) F dL_law_1506 rfl ?_ | refine j_aload_nq (pc := 1506) F dL_law_1506 rfl ?_
  first | refine j_aload_n (pc := 1507) F dL_law_1507 rfl ?_ | refine j_aload_nq (pc := 1507) F dL_law_1507 rfl ?_
  refine j_iload (pc := 1508) F dL_law_1508 rfl ?_
  refine j_iconst (pc := 1510) (v := (nI 1)) F dL_law_1510 (by decide) ?_
  first | refine j_iaddN (pc := 1511) F dL_law_1511 ?_ | refine j_iadd (pc := 1511) F dL_law_1511 ?_
  refine j_sld (pc := 1512) F hX hbl hbA (by omega) hL dL_law_1512 ?_
  first | refine j_aload_n (pc := 1513) F dL_law_1513 rfl ?_ | refine j_aload_nq (pc := 1513) F dL_law_1513 rfl ?_
  refine j_iload (pc := 1514) F dL_law_1514 rfl ?_
  refine j_iconst (pc := 1516) (v := (nI 2)) F dL_law_1516 (by decide) ?_
  first | refine j_iaddN (pc := 1517) F dL_law_1517 ?_ | refine j_iadd (pc := 1517) F dL_law_1517 ?_
  refine j_sld (pc := 1518) F hX hbl hbA (by omega) hL dL_law_1518 ?_
  rw [mg_as]
  refine jf_ri (jf_runV (pc := 1519) F (dj_l d2 d1) (c_X8_changes (A := Ac A _) (t := xs (i + 1)) (t2 := xs (i + 2)) w hB) m_X8_changes mv_X8_changes lk_L_165 e0 rfl ⟨by decide, by decide⟩ (Nat.le_of_ble_eq_true rfl) ⟨by omega, by omega⟩ rfl dL_law_1519) (fun r u hp du => ?_)
  obtain ⟨rfl, hB2⟩ := hp
  obtain ⟨d3, d4⟩ := dj_r d2 du
  rw [← mg_as, mg_cm d4]
  first | refine j_aload_n (pc := 1522) F dL_law_1522 rfl ?_ | refine j_aload_nq (pc := 1522) F dL_law_1522 rfl ?_
  first | refine j_aload_n (pc := 1523) F dL_law_1523 rfl ?_ | refine j_aload_nq (pc := 1523) F dL_law_1523 rfl ?_
  refine j_iload (pc := 1524) F dL_law_1524 rfl ?_
  refine j_iconst (pc := 1526) (v := (nI 1)) F dL_law_1526 (by decide) ?_
  first | refine j_iaddN (pc := 1527) F dL_law_1527 ?_ | refine j_iadd (pc := 1527) F dL_law_1527 ?_
  refine j_sld (pc := 1528) F hX hbl hbA (by omega) hL dL_law_1528 ?_
  first | refine j_aload_n (pc := 1529) F dL_law_1529 rfl ?_ | refine j_aload_nq (pc := 1529) F dL_law_1529 rfl ?_
  refine j_iload (pc := 1530) F dL_law_1530 rfl ?_
  refine j_iconst (pc := 1532) (v := (nI 2)) F dL_law_1532 (by decide) ?_
  first | refine j_iaddN (pc := 1533) F dL_law_1533 ?_ | refine j_iadd (pc := 1533) F dL_law_1533 ?_
  refine j_sld (pc := 1534) F hX hbl hbA (by omega) hL dL_law_1534 ?_
  refine jf_ri (jf_runV (pc := 1535) F (dj_cm d4) (c_X9_changes (A := Ac A _) (t := xs (i + 1)) (t2 := xs (i + 2)) w hM) m_X9_changes mv_X9_changes lk_L_168 zc rfl ⟨by decide, by decide⟩ (Nat.le_of_ble_eq_true rfl) ⟨by omega, by omega⟩ rfl dL_law_1535) (fun r2 v hp dv => ?_)
  obtain ⟨rfl, hM2⟩ := hp
  have hI : LI g x y o (s) (mg (mg (sg o (aJ g 1 fo)) u) v) := ⟨u, v, fo, _, mg_cm dv, d3, dj_cm dv, hB2, hM2, w⟩
  refine j_icmp_eq (pc := 1538) F 1543 dL_law_1538 (by decide) (fun c => ?_) (fun c => ?_)
  · exact j_widen (by omega) (by omega) (kk _ _ _ hI ⟨rfl, rfl, rfl, rfl, rfl, trivial⟩)
  · exact absurd rfl c
end LC
