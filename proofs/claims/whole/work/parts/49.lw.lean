def sg (a : Nat) (e : va_E) : HF := hUp (fun _ => none) a e
theorem mg_up {a : Nat} {e e2 : va_E} {u : HF} : hUp (mg (sg a e) u) a e2 = mg (sg a e2) u := by
  funext b
  unfold hUp mg sg hUp
  by_cases c : b = a
  · simp [c]
  · simp [c]
theorem dj_sg {a : Nat} {e e2 : va_E} {u : HF} (d : dj (sg a e) u) : dj (sg a e2) u := fun b x hb => by
  have h1 := d b x hb
  by_cases c : b = a
  · rw [c] at h1
    rw [show sg a e a = some e from hUp_s] at h1
    cases h1
  · exact hUp_n c
/-- what a wrapper answers: the code; what it leaves in out; the class's object -/
def WQ (g : GG) (x o code : Nat) (V : Int32 → Prop) (s2 : SG) (r : Int32) (h1 : HF) : Prop := ∃ (u : HF) (fo : Nat → Int64), h1 = mg (sg o (aJ g 1 fo)) u ∧ dj (sg o (aJ g 1 fo)) u ∧ r = nI code ∧ (code = 0 → ∃ v, V v ∧ fo 0 = v.toInt64) ∧ isB g u x s2
abbrev WI (l : Launch) (g : GG) (A : Nat → Prop) (h : HF) (y : MethodName) (c : ByteArray) (nL : Nat) (hh : List (Nat × Nat × Nat × Nat)) (f mc ms : Nat) (av : List Value) (post : Int32 → HF → Prop) : Prop := Met l y (.codeWith y c nL (some .int) hh :: wU) (rmF f mc ms) (va_Pc av (PRn g h A)) (va_Qi post (BQ g A) A) mc ms A
theorem nm1 {a E : String} {c : Nat} (h : nm [a] c E) : c = 1 ∧ E = a := by
  obtain ⟨h1, h2⟩ := h
  rcases c with _ | _ | c
  · omega
  · cases h2; exact ⟨rfl, rfl⟩
  · simp at h2
theorem nm2 {a b E : String} {c : Nat} (h : nm [a, b] c E) : (c = 1 ∧ E = a) ∨ (c = 2 ∧ E = b) := by
  obtain ⟨h1, h2⟩ := h
  rcases c with _ | _ | _ | c
  · omega
  · cases h2; exact Or.inl ⟨rfl, rfl⟩
  · cases h2; exact Or.inr ⟨rfl, rfl⟩
  · simp at h2
theorem nm3 {a b d E : String} {c : Nat} (h : nm [a, b, d] c E) : (c = 1 ∧ E = a) ∨ (c = 2 ∧ E = b) ∨ (c = 3 ∧ E = d) := by
  obtain ⟨h1, h2⟩ := h
  rcases c with _ | _ | _ | _ | c
  · omega
  · cases h2; exact Or.inl ⟨rfl, rfl⟩
  · cases h2; exact Or.inr (Or.inl ⟨rfl, rfl⟩)
  · cases h2; exact Or.inr (Or.inr ⟨rfl, rfl⟩)
  · simp at h2
theorem nm4 {a b d e E : String} {c : Nat} (h : nm [a, b, d, e] c E) : (c = 1 ∧ E = a) ∨ (c = 2 ∧ E = b) ∨ (c = 3 ∧ E = d) ∨ (c = 4 ∧ E = e) := by
  obtain ⟨h1, h2⟩ := h
  rcases c with _ | _ | _ | _ | _ | c
  · omega
  · cases h2; exact Or.inl ⟨rfl, rfl⟩
  · cases h2; exact Or.inr (Or.inl ⟨rfl, rfl⟩)
  · cases h2; exact Or.inr (Or.inr (Or.inl ⟨rfl, rfl⟩))
  · cases h2; exact Or.inr (Or.inr (Or.inr ⟨rfl, rfl⟩))
  · simp at h2
section LW
variable {l : Launch} {g : GG} {A : Nat → Prop} {x : Nat} {s : SG} {hc : HF} {o : Nat} {fo : Nat → Int64}
theorem wq_relate : Cond.codeWith yL_relate cL_relate 6 (some .int) [(0, 12, 15, 13)] ∈ wU := wU_at 726 (by decide +kernel) rfl
theorem wt_relate : Cond.static yL_relate ∈ wU := wU_at 725 (by decide +kernel) rfl
theorem w_relate (hst : l.stackTraces = false) {p0 p1 p2 : Int32} (hB : isB g hc x s) (dj0 : dj (sg o (aJ g 1 fo)) hc) : WI l g A (mg (sg o (aJ g 1 fo)) hc) yL_relate cL_relate 6 [(0, 12, 15, 13)] 9 3 18 ([.ref x, .int p0, .int p1, .int p2, .ref o]) (fun r h1 => WQ g x o (lcode p0 p1 p2) (fun r => r = nI (sM s (pN p0) (pN p1))) (nxt (lcode p0 p1 p2) (sRel s (pN p0) (pN p1) (pN p2)) s) r h1) := by
  have hB2 := hB
  obtain ⟨pm, am, tr, hi, rg, rl, T, E, kc, K, hBx⟩ := hB2
  have e0 := hBx.1
  refine jw_met (by decide +kernel) (Nat.le_of_ble_eq_true rfl) (fun X F htab hN hQ => ?_)
  have eo : mg (sg o (aJ g 1 fo)) hc o = some (aJ g 1 fo) := mg_o hUp_s
  first | refine j_aload (pc := 0) F dL_relate_0 rfl ?_ | refine j_aloadq (pc := 0) F dL_relate_0 rfl ?_
  refine j_iconst (pc := 2) (v := (nI 0)) F dL_relate_2 (by decide) ?_
  first | refine j_aload_n (pc := 3) F dL_relate_3 rfl ?_ | refine j_aload_nq (pc := 3) F dL_relate_3 rfl ?_
  refine j_iload_n (pc := 4) F dL_relate_4 rfl ?_
  refine j_iload_n (pc := 5) F dL_relate_5 rfl ?_
  refine j_iload_n (pc := 6) F dL_relate_6 rfl ?_
  refine jfx_ri (jfx_runV (pc := 7) F dj0 (c_X8_relate (A := Ac A (sg o (aJ g 1 fo))) hst hB) m_X8_relate mv_X8_relate lk_L_65 e0 rfl ⟨by decide, by decide⟩ (Nat.le_of_ble_eq_true rfl) ⟨by omega, by omega⟩ rfl dL_relate_7) (fun E u hp dju => ?_) (fun r u hp dju => ?_)
  · have hx : nm [IAE] (lcode p0 p1 p2) E := by
      have hE : E = IAE := hp.2.1
      rw [show lcode p0 p1 p2 = 1 from hp.1, hE]; exact ⟨by decide, rfl⟩
    have hBu : isB g u x s := hp.2.2
    obtain ⟨hc1, rfl⟩ := nm1 hx
    refine j_catch F [] ⟨0, 12, 15, 13⟩ [] (htab.trans rfl) (fun z hz => nomatch hz) (by decide) (by decide) lc_L_13 cs_8 (fun q => ?_)
    first | refine j_astore (pc := 15) F dL_relate_15 (by decide) ?_ | refine j_astoreq (pc := 15) F dL_relate_15 (by decide) ?_ | refine j_astoreN (pc := 15) F dL_relate_15 (by decide) ?_
    refine j_iconst (pc := 17) (v := (nI 1)) F dL_relate_17 (by decide) ?_
    exact j_iret F hQ rfl rfl (by omega) (by omega) dL_relate_18 ⟨u, fo, rfl, dju, by rw [hc1], fun e => by omega, by rw [hc1]; exact hBu⟩
  · have ec : lcode p0 p1 p2 = 0 := hp.1
    have hV : r = nI (sM s (pN p0) (pN p1)) := hp.2.1
    have hBu : isB g u x (sRel s (pN p0) (pN p1) (pN p2)) := hp.2.2
    have eu : mg (sg o (aJ g 1 fo)) u o = some (aJ g 1 fo) := mg_o hUp_s
    refine j_i2l (pc := 10) F dL_relate_10 ?_
    refine j_lastN (pc := 11) F (by first | assumption | exact hUp_s) (by omega) (by decide) dL_relate_11 ?_
    rw [mg_up]
    refine j_goto (pc := 12) F 19 dL_relate_12 (by decide) ?_
    refine j_iconst (pc := 19) (v := (nI 0)) F dL_relate_19 (by decide) ?_
    exact j_iret F hQ rfl rfl (by omega) (by omega) dL_relate_20 ⟨u, _, rfl, dj_sg dju, by rw [ec], fun _ => ⟨r, hV, rfl⟩, by rw [ec]; exact hBu⟩
theorem wq_pass : Cond.codeWith yL_pass cL_pass 4 (some .int) [(0, 9, 12, 13), (0, 9, 15, 15)] ∈ wU := wU_at 267 (by decide +kernel) rfl
theorem wt_pass : Cond.static yL_pass ∈ wU := wU_at 266 (by decide +kernel) rfl
theorem w_pass (hst : l.stackTraces = false) (w : wf s) {p0 : Int32} (hB : isB g hc x s) (dj0 : dj (sg o (aJ g 1 fo)) hc) : WI l g A (mg (sg o (aJ g 1 fo)) hc) yL_pass cL_pass 4 [(0, 9, 12, 13), (0, 9, 15, 15)] 9 3 18 ([.ref x, .int p0, .ref o]) (fun r h1 => WQ g x o (tcode s p0) (fun r => r = nI (sT s + pN p0)) (nxt (tcode s p0) (sPass s (pN p0)) s) r h1) := by
  have hB2 := hB
  obtain ⟨pm, am, tr, hi, rg, rl, T, E, kc, K, hBx⟩ := hB2
  have e0 := hBx.1
  refine jw_met (by decide +kernel) (Nat.le_of_ble_eq_true rfl) (fun X F htab hN hQ => ?_)
  have eo : mg (sg o (aJ g 1 fo)) hc o = some (aJ g 1 fo) := mg_o hUp_s
  first | refine j_aload_n (pc := 0) F dL_pass_0 rfl ?_ | refine j_aload_nq (pc := 0) F dL_pass_0 rfl ?_
  refine j_iconst (pc := 1) (v := (nI 0)) F dL_pass_1 (by decide) ?_
  first | refine j_aload_n (pc := 2) F dL_pass_2 rfl ?_ | refine j_aload_nq (pc := 2) F dL_pass_2 rfl ?_
  refine j_iload_n (pc := 3) F dL_pass_3 rfl ?_
  refine jfx_ri (jfx_runV (pc := 4) F dj0 (c_X8_pass (A := Ac A (sg o (aJ g 1 fo))) hst w hB) m_X8_pass mv_X8_pass lk_L_7 e0 rfl ⟨by decide, by decide⟩ (Nat.le_of_ble_eq_true rfl) ⟨by omega, by omega⟩ rfl dL_pass_4) (fun E u hp dju => ?_) (fun r u hp dju => ?_)
  · have hx : nm [IAE, ISE] (tcode s p0) E := hp.1
    have hBu : isB g u x s := hp.2
    rcases nm2 hx with ⟨hc1, rfl⟩ | ⟨hc1, rfl⟩
    · refine j_catch F [] ⟨0, 9, 12, 13⟩ [⟨0, 9, 15, 15⟩] (htab.trans rfl) (fun z hz => nomatch hz) (by decide) (by decide) lc_L_13 cs_8 (fun q => ?_)
      first | refine j_astore_n (pc := 12) F dL_pass_12 (by decide) ?_ | refine j_astore_nq (pc := 12) F dL_pass_12 (by decide) ?_ | refine j_astore_nN (pc := 12) F dL_pass_12 (by decide) ?_
      refine j_iconst (pc := 13) (v := (nI 1)) F dL_pass_13 (by decide) ?_
      exact j_iret F hQ rfl rfl (by omega) (by omega) dL_pass_14 ⟨u, fo, rfl, dju, by rw [hc1], fun e => by omega, by rw [hc1]; exact hBu⟩
    · refine j_catch F [⟨0, 9, 12, 13⟩] ⟨0, 9, 15, 15⟩ [] (htab.trans rfl) (fun z hz => by rw [List.mem_singleton.mp hz]; exact (Or.inr ⟨by decide, IAE, lc_L_13, hN.2.2.2.1⟩)) (by decide) (by decide) lc_L_15 cs_15 (fun q => ?_)
      first | refine j_astore_n (pc := 15) F dL_pass_15 (by decide) ?_ | refine j_astore_nq (pc := 15) F dL_pass_15 (by decide) ?_ | refine j_astore_nN (pc := 15) F dL_pass_15 (by decide) ?_
      refine j_iconst (pc := 16) (v := (nI 2)) F dL_pass_16 (by decide) ?_
      exact j_iret F hQ rfl rfl (by omega) (by omega) dL_pass_17 ⟨u, fo, rfl, dju, by rw [hc1], fun e => by omega, by rw [hc1]; exact hBu⟩
  · have ec : tcode s p0 = 0 := hp.1
    have hV : r = nI (sT s + pN p0) := hp.2.1
    have hBu : isB g u x (sPass s (pN p0)) := hp.2.2
    have eu : mg (sg o (aJ g 1 fo)) u o = some (aJ g 1 fo) := mg_o hUp_s
    refine j_i2l (pc := 7) F dL_pass_7 ?_
    refine j_lastN (pc := 8) F (by first | assumption | exact hUp_s) (by omega) (by decide) dL_pass_8 ?_
    rw [mg_up]
    refine j_goto (pc := 9) F 18 dL_pass_9 (by decide) ?_
    refine j_iconst (pc := 18) (v := (nI 0)) F dL_pass_18 (by decide) ?_
    exact j_iret F hQ rfl rfl (by omega) (by omega) dL_pass_19 ⟨u, _, rfl, dj_sg dju, by rw [ec], fun _ => ⟨r, hV, rfl⟩, by rw [ec]; exact hBu⟩
theorem wq_hop : Cond.codeWith yL_hop cL_hop 4 (some .int) [(0, 9, 12, 13), (0, 9, 15, 15)] ∈ wU := wU_at 362 (by decide +kernel) rfl
theorem wt_hop : Cond.static yL_hop ∈ wU := wU_at 361 (by decide +kernel) rfl
theorem w_hop (hst : l.stackTraces = false) {p0 : Int32} (hB : isB g hc x s) (dj0 : dj (sg o (aJ g 1 fo)) hc) : WI l g A (mg (sg o (aJ g 1 fo)) hc) yL_hop cL_hop 4 [(0, 9, 12, 13), (0, 9, 15, 15)] 9 3 18 ([.ref x, .int p0, .ref o]) (fun r h1 => WQ g x o (hcode s p0) (fun r => r = nI (sz s + 1)) (nxt (hcode s p0) (sHop s (pN p0)) s) r h1) := by
  have hB2 := hB
  obtain ⟨pm, am, tr, hi, rg, rl, T, E, kc, K, hBx⟩ := hB2
  have e0 := hBx.1
  refine jw_met (by decide +kernel) (Nat.le_of_ble_eq_true rfl) (fun X F htab hN hQ => ?_)
  have eo : mg (sg o (aJ g 1 fo)) hc o = some (aJ g 1 fo) := mg_o hUp_s
  first | refine j_aload_n (pc := 0) F dL_hop_0 rfl ?_ | refine j_aload_nq (pc := 0) F dL_hop_0 rfl ?_
  refine j_iconst (pc := 1) (v := (nI 0)) F dL_hop_1 (by decide) ?_
  first | refine j_aload_n (pc := 2) F dL_hop_2 rfl ?_ | refine j_aload_nq (pc := 2) F dL_hop_2 rfl ?_
  refine j_iload_n (pc := 3) F dL_hop_3 rfl ?_
  refine jfx_ri (jfx_runV (pc := 4) F dj0 (c_X8_hop (A := Ac A (sg o (aJ g 1 fo))) hst hB) m_X8_hop mv_X8_hop lk_L_17 e0 rfl ⟨by decide, by decide⟩ (Nat.le_of_ble_eq_true rfl) ⟨by omega, by omega⟩ rfl dL_hop_4) (fun E u hp dju => ?_) (fun r u hp dju => ?_)
  · have hx : nm [IAE, ISE] (hcode s p0) E := hp.1
    have hBu : isB g u x s := hp.2
    rcases nm2 hx with ⟨hc1, rfl⟩ | ⟨hc1, rfl⟩
    · refine j_catch F [] ⟨0, 9, 12, 13⟩ [⟨0, 9, 15, 15⟩] (htab.trans rfl) (fun z hz => nomatch hz) (by decide) (by decide) lc_L_13 cs_8 (fun q => ?_)
      first | refine j_astore_n (pc := 12) F dL_hop_12 (by decide) ?_ | refine j_astore_nq (pc := 12) F dL_hop_12 (by decide) ?_ | refine j_astore_nN (pc := 12) F dL_hop_12 (by decide) ?_
      refine j_iconst (pc := 13) (v := (nI 1)) F dL_hop_13 (by decide) ?_
      exact j_iret F hQ rfl rfl (by omega) (by omega) dL_hop_14 ⟨u, fo, rfl, dju, by rw [hc1], fun e => by omega, by rw [hc1]; exact hBu⟩
    · refine j_catch F [⟨0, 9, 12, 13⟩] ⟨0, 9, 15, 15⟩ [] (htab.trans rfl) (fun z hz => by rw [List.mem_singleton.mp hz]; exact (Or.inr ⟨by decide, IAE, lc_L_13, hN.2.2.2.1⟩)) (by decide) (by decide) lc_L_15 cs_15 (fun q => ?_)
      first | refine j_astore_n (pc := 15) F dL_hop_15 (by decide) ?_ | refine j_astore_nq (pc := 15) F dL_hop_15 (by decide) ?_ | refine j_astore_nN (pc := 15) F dL_hop_15 (by decide) ?_
      refine j_iconst (pc := 16) (v := (nI 2)) F dL_hop_16 (by decide) ?_
      exact j_iret F hQ rfl rfl (by omega) (by omega) dL_hop_17 ⟨u, fo, rfl, dju, by rw [hc1], fun e => by omega, by rw [hc1]; exact hBu⟩
  · have ec : hcode s p0 = 0 := hp.1
    have hV : r = nI (sz s + 1) := hp.2.1
    have hBu : isB g u x (sHop s (pN p0)) := hp.2.2
    have eu : mg (sg o (aJ g 1 fo)) u o = some (aJ g 1 fo) := mg_o hUp_s
    refine j_i2l (pc := 7) F dL_hop_7 ?_
    refine j_lastN (pc := 8) F (by first | assumption | exact hUp_s) (by omega) (by decide) dL_hop_8 ?_
    rw [mg_up]
    refine j_goto (pc := 9) F 18 dL_hop_9 (by decide) ?_
    refine j_iconst (pc := 18) (v := (nI 0)) F dL_hop_18 (by decide) ?_
    exact j_iret F hQ rfl rfl (by omega) (by omega) dL_hop_19 ⟨u, _, rfl, dj_sg dju, by rw [ec], fun _ => ⟨r, hV, rfl⟩, by rw [ec]; exact hBu⟩
theorem wq_announce : Cond.codeWith yL_announce cL_announce 6 (some .int) [(0, 19, 22, 24), (0, 19, 26, 13), (0, 19, 30, 15)] ∈ wU := wU_at 389 (by decide +kernel) rfl
theorem wt_announce : Cond.static yL_announce ∈ wU := wU_at 388 (by decide +kernel) rfl
theorem w_announce (hst : l.stackTraces = false) (w : wf s) {p0 p1 p2 : Int32} (hB : isB g hc x s) (dj0 : dj (sg o (aJ g 1 fo)) hc) : WI l g A (mg (sg o (aJ g 1 fo)) hc) yL_announce cL_announce 6 [(0, 19, 22, 24), (0, 19, 26, 13), (0, 19, 30, 15)] 9 8 48 ([.ref x, .int p0, .int p1, .int p2, .ref o]) (fun r h1 => WQ g x o (ncode s p0 p1 p2) (fun r => r = bI (decide (tb (sD s) (sm s) (pN p0) (pqN p1 p2) = none))) (nxt (ncode s p0 p1 p2) (sUp s (pN p0) (pqN p1 p2) (sz s)) s) r h1) := by
  have hB2 := hB
  obtain ⟨pm, am, tr, hi, rg, rl, T, E, kc, K, hBx⟩ := hB2
  have e0 := hBx.1
  refine jw_met (by decide +kernel) (Nat.le_of_ble_eq_true rfl) (fun X F htab hN hQ => ?_)
  have eo : mg (sg o (aJ g 1 fo)) hc o = some (aJ g 1 fo) := mg_o hUp_s
  first | refine j_aload (pc := 0) F dL_announce_0 rfl ?_ | refine j_aloadq (pc := 0) F dL_announce_0 rfl ?_
  refine j_iconst (pc := 2) (v := (nI 0)) F dL_announce_2 (by decide) ?_
  first | refine j_aload_n (pc := 3) F dL_announce_3 rfl ?_ | refine j_aload_nq (pc := 3) F dL_announce_3 rfl ?_
  refine j_iload_n (pc := 4) F dL_announce_4 rfl ?_
  refine j_iload_n (pc := 5) F dL_announce_5 rfl ?_
  refine j_iload_n (pc := 6) F dL_announce_6 rfl ?_
  refine jfx_ri (jfx_runV (pc := 7) F dj0 (c_X8_announce (A := Ac A (sg o (aJ g 1 fo))) hst w hB) m_X8_announce mv_X8_announce lk_L_20 e0 rfl ⟨by decide, by decide⟩ (Nat.le_of_ble_eq_true rfl) ⟨by omega, by omega⟩ rfl dL_announce_7) (fun E u hp dju => ?_) (fun r u hp dju => ?_)
  · have hx : nm [IOOB, IAE, ISE] (ncode s p0 p1 p2) E := hp.1
    have hBu : isB g u x s := hp.2
    rcases nm3 hx with ⟨hc1, rfl⟩ | ⟨hc1, rfl⟩ | ⟨hc1, rfl⟩
    · refine j_catch F [] ⟨0, 19, 22, 24⟩ [⟨0, 19, 26, 13⟩, ⟨0, 19, 30, 15⟩] (htab.trans rfl) (fun z hz => nomatch hz) (by decide) (by decide) lc_L_24 cs_16 (fun q => ?_)
      first | refine j_astore (pc := 22) F dL_announce_22 (by decide) ?_ | refine j_astoreq (pc := 22) F dL_announce_22 (by decide) ?_ | refine j_astoreN (pc := 22) F dL_announce_22 (by decide) ?_
      refine j_iconst (pc := 24) (v := (nI 1)) F dL_announce_24 (by decide) ?_
      exact j_iret F hQ rfl rfl (by omega) (by omega) dL_announce_25 ⟨u, fo, rfl, dju, by rw [hc1], fun e => by omega, by rw [hc1]; exact hBu⟩
    · refine j_catch F [⟨0, 19, 22, 24⟩] ⟨0, 19, 26, 13⟩ [⟨0, 19, 30, 15⟩] (htab.trans rfl) (fun z hz => by rw [List.mem_singleton.mp hz]; exact (Or.inr ⟨by decide, IOOB, lc_L_24, hN.1⟩)) (by decide) (by decide) lc_L_13 cs_8 (fun q => ?_)
      first | refine j_astore (pc := 26) F dL_announce_26 (by decide) ?_ | refine j_astoreq (pc := 26) F dL_announce_26 (by decide) ?_ | refine j_astoreN (pc := 26) F dL_announce_26 (by decide) ?_
      refine j_iconst (pc := 28) (v := (nI 2)) F dL_announce_28 (by decide) ?_
      exact j_iret F hQ rfl rfl (by omega) (by omega) dL_announce_29 ⟨u, fo, rfl, dju, by rw [hc1], fun e => by omega, by rw [hc1]; exact hBu⟩
    · refine j_catch F [⟨0, 19, 22, 24⟩, ⟨0, 19, 26, 13⟩] ⟨0, 19, 30, 15⟩ [] (htab.trans rfl) (fun z hz => (List.mem_cons.mp hz).elim (fun e => by rw [e]; exact (Or.inr ⟨by decide, IOOB, lc_L_24, hN.2.1⟩)) (fun hz => by rw [List.mem_singleton.mp hz]; exact (Or.inr ⟨by decide, IAE, lc_L_13, hN.2.2.2.1⟩))) (by decide) (by decide) lc_L_15 cs_15 (fun q => ?_)
      first | refine j_astore (pc := 30) F dL_announce_30 (by decide) ?_ | refine j_astoreq (pc := 30) F dL_announce_30 (by decide) ?_ | refine j_astoreN (pc := 30) F dL_announce_30 (by decide) ?_
      refine j_iconst (pc := 32) (v := (nI 3)) F dL_announce_32 (by decide) ?_
      exact j_iret F hQ rfl rfl (by omega) (by omega) dL_announce_33 ⟨u, fo, rfl, dju, by rw [hc1], fun e => by omega, by rw [hc1]; exact hBu⟩
  · have ec : ncode s p0 p1 p2 = 0 := hp.1
    have hV : r = bI (decide (tb (sD s) (sm s) (pN p0) (pqN p1 p2) = none)) := hp.2.1
    have hBu : isB g u x (sUp s (pN p0) (pqN p1 p2) (sz s)) := hp.2.2
    have eu : mg (sg o (aJ g 1 fo)) u o = some (aJ g 1 fo) := mg_o hUp_s
    have hr := hV
    generalize hbb : decide (tb (sD s) (sm s) (pN p0) (pqN p1 p2) = none) = bb at hr
    subst hr
    cases bb with
    | false =>
      first | refine j_if_eqB (pc := 10) F 17 dL_announce_10 (by decide) (fun c => ?_) (fun c => ?_) | refine j_if_eqN (pc := 10) F 17 dL_announce_10 (by decide) (by omega) (fun c => ?_) (fun c => ?_) | refine j_if_eqI (pc := 10) F 17 dL_announce_10 (by decide) (fun c => ?_) (fun c => ?_)
      · refine j_lconst (pc := 17) F dL_announce_17 rfl ?_
        refine j_lastN (pc := 18) F (by first | assumption | exact hUp_s) (by omega) (by decide) dL_announce_18 ?_
        rw [mg_up]
        refine j_goto (pc := 19) F 34 dL_announce_19 (by decide) ?_
        refine j_iconst (pc := 34) (v := (nI 0)) F dL_announce_34 (by decide) ?_
        exact j_iret F hQ rfl rfl (by omega) (by omega) dL_announce_35 ⟨u, _, rfl, dj_sg dju, by rw [ec], fun _ => ⟨bI false, by rw [hbb], rfl⟩, by rw [ec]; exact hBu⟩
      · cases c
    | true =>
      first | refine j_if_eqB (pc := 10) F 17 dL_announce_10 (by decide) (fun c => ?_) (fun c => ?_) | refine j_if_eqN (pc := 10) F 17 dL_announce_10 (by decide) (by omega) (fun c => ?_) (fun c => ?_) | refine j_if_eqI (pc := 10) F 17 dL_announce_10 (by decide) (fun c => ?_) (fun c => ?_)
      · cases c
      · refine j_lconst (pc := 13) F dL_announce_13 rfl ?_
        refine j_goto (pc := 14) F 18 dL_announce_14 (by decide) ?_
        refine j_lastN (pc := 18) F (by first | assumption | exact hUp_s) (by omega) (by decide) dL_announce_18 ?_
        rw [mg_up]
        refine j_goto (pc := 19) F 34 dL_announce_19 (by decide) ?_
        refine j_iconst (pc := 34) (v := (nI 0)) F dL_announce_34 (by decide) ?_
        exact j_iret F hQ rfl rfl (by omega) (by omega) dL_announce_35 ⟨u, _, rfl, dj_sg dju, by rw [ec], fun _ => ⟨bI true, by rw [hbb], rfl⟩, by rw [ec]; exact hBu⟩
theorem wq_withdraw : Cond.codeWith yL_withdraw cL_withdraw 6 (some .int) [(0, 12, 15, 24), (0, 12, 19, 13), (0, 12, 23, 30), (0, 12, 27, 15)] ∈ wU := wU_at 527 (by decide +kernel) rfl
theorem wt_withdraw : Cond.static yL_withdraw ∈ wU := wU_at 526 (by decide +kernel) rfl
theorem w_withdraw (hst : l.stackTraces = false) {p0 p1 p2 : Int32} (hB : isB g hc x s) (dj0 : dj (sg o (aJ g 1 fo)) hc) : WI l g A (mg (sg o (aJ g 1 fo)) hc) yL_withdraw cL_withdraw 6 [(0, 12, 15, 24), (0, 12, 19, 13), (0, 12, 23, 30), (0, 12, 27, 15)] 9 4 24 ([.ref x, .int p0, .int p1, .int p2, .ref o]) (fun r h1 => WQ g x o (wcode s p0 p1 p2) (fun r => r = vRoutes (sUp s (pN p0) (pqN p1 p2) 0) p0) (nxt (wcode s p0 p1 p2) (sUp s (pN p0) (pqN p1 p2) 0) s) r h1) := by
  have hB2 := hB
  obtain ⟨pm, am, tr, hi, rg, rl, T, E, kc, K, hBx⟩ := hB2
  have e0 := hBx.1
  refine jw_met (by decide +kernel) (Nat.le_of_ble_eq_true rfl) (fun X F htab hN hQ => ?_)
  have eo : mg (sg o (aJ g 1 fo)) hc o = some (aJ g 1 fo) := mg_o hUp_s
  first | refine j_aload (pc := 0) F dL_withdraw_0 rfl ?_ | refine j_aloadq (pc := 0) F dL_withdraw_0 rfl ?_
  refine j_iconst (pc := 2) (v := (nI 0)) F dL_withdraw_2 (by decide) ?_
  first | refine j_aload_n (pc := 3) F dL_withdraw_3 rfl ?_ | refine j_aload_nq (pc := 3) F dL_withdraw_3 rfl ?_
  refine j_iload_n (pc := 4) F dL_withdraw_4 rfl ?_
  refine j_iload_n (pc := 5) F dL_withdraw_5 rfl ?_
  refine j_iload_n (pc := 6) F dL_withdraw_6 rfl ?_
  refine jfx_ri (jfx_runV (pc := 7) F dj0 (c_X8_withdraw (A := Ac A (sg o (aJ g 1 fo))) hst hB) m_X8_withdraw mv_X8_withdraw lk_L_26 e0 rfl ⟨by decide, by decide⟩ (Nat.le_of_ble_eq_true rfl) ⟨by omega, by omega⟩ rfl dL_withdraw_7) (fun E u hp dju => ?_) (fun r u hp dju => ?_)
  · have hx : nm [IOOB, IAE, NSEE, ISE] (wcode s p0 p1 p2) E := hp.1
    have hBu : isB g u x s := hp.2
    rcases nm4 hx with ⟨hc1, rfl⟩ | ⟨hc1, rfl⟩ | ⟨hc1, rfl⟩ | ⟨hc1, rfl⟩
    · refine j_catch F [] ⟨0, 12, 15, 24⟩ [⟨0, 12, 19, 13⟩, ⟨0, 12, 23, 30⟩, ⟨0, 12, 27, 15⟩] (htab.trans rfl) (fun z hz => nomatch hz) (by decide) (by decide) lc_L_24 cs_16 (fun q => ?_)
      first | refine j_astore (pc := 15) F dL_withdraw_15 (by decide) ?_ | refine j_astoreq (pc := 15) F dL_withdraw_15 (by decide) ?_ | refine j_astoreN (pc := 15) F dL_withdraw_15 (by decide) ?_
      refine j_iconst (pc := 17) (v := (nI 1)) F dL_withdraw_17 (by decide) ?_
      exact j_iret F hQ rfl rfl (by omega) (by omega) dL_withdraw_18 ⟨u, fo, rfl, dju, by rw [hc1], fun e => by omega, by rw [hc1]; exact hBu⟩
    · refine j_catch F [⟨0, 12, 15, 24⟩] ⟨0, 12, 19, 13⟩ [⟨0, 12, 23, 30⟩, ⟨0, 12, 27, 15⟩] (htab.trans rfl) (fun z hz => by rw [List.mem_singleton.mp hz]; exact (Or.inr ⟨by decide, IOOB, lc_L_24, hN.1⟩)) (by decide) (by decide) lc_L_13 cs_8 (fun q => ?_)
      first | refine j_astore (pc := 19) F dL_withdraw_19 (by decide) ?_ | refine j_astoreq (pc := 19) F dL_withdraw_19 (by decide) ?_ | refine j_astoreN (pc := 19) F dL_withdraw_19 (by decide) ?_
      refine j_iconst (pc := 21) (v := (nI 2)) F dL_withdraw_21 (by decide) ?_
      exact j_iret F hQ rfl rfl (by omega) (by omega) dL_withdraw_22 ⟨u, fo, rfl, dju, by rw [hc1], fun e => by omega, by rw [hc1]; exact hBu⟩
    · refine j_catch F [⟨0, 12, 15, 24⟩, ⟨0, 12, 19, 13⟩] ⟨0, 12, 23, 30⟩ [⟨0, 12, 27, 15⟩] (htab.trans rfl) (fun z hz => (List.mem_cons.mp hz).elim (fun e => by rw [e]; exact (Or.inr ⟨by decide, IOOB, lc_L_24, hN.2.2.1⟩)) (fun hz => by rw [List.mem_singleton.mp hz]; exact (Or.inr ⟨by decide, IAE, lc_L_13, hN.2.2.2.2.1⟩))) (by decide) (by decide) lc_L_30 cs_35 (fun q => ?_)
      first | refine j_astore (pc := 23) F dL_withdraw_23 (by decide) ?_ | refine j_astoreq (pc := 23) F dL_withdraw_23 (by decide) ?_ | refine j_astoreN (pc := 23) F dL_withdraw_23 (by decide) ?_
      refine j_iconst (pc := 25) (v := (nI 3)) F dL_withdraw_25 (by decide) ?_
      exact j_iret F hQ rfl rfl (by omega) (by omega) dL_withdraw_26 ⟨u, fo, rfl, dju, by rw [hc1], fun e => by omega, by rw [hc1]; exact hBu⟩
    · refine j_catch F [⟨0, 12, 15, 24⟩, ⟨0, 12, 19, 13⟩, ⟨0, 12, 23, 30⟩] ⟨0, 12, 27, 15⟩ [] (htab.trans rfl) (fun z hz => (List.mem_cons.mp hz).elim (fun e => by rw [e]; exact (Or.inr ⟨by decide, IOOB, lc_L_24, hN.2.1⟩)) (fun hz => (List.mem_cons.mp hz).elim (fun e => by rw [e]; exact (Or.inr ⟨by decide, IAE, lc_L_13, hN.2.2.2.1⟩)) (fun hz => by rw [List.mem_singleton.mp hz]; exact (Or.inr ⟨by decide, NSEE, lc_L_30, hN.2.2.2.2.2⟩)))) (by decide) (by decide) lc_L_15 cs_15 (fun q => ?_)
      first | refine j_astore (pc := 27) F dL_withdraw_27 (by decide) ?_ | refine j_astoreq (pc := 27) F dL_withdraw_27 (by decide) ?_ | refine j_astoreN (pc := 27) F dL_withdraw_27 (by decide) ?_
      refine j_iconst (pc := 29) (v := (nI 4)) F dL_withdraw_29 (by decide) ?_
      exact j_iret F hQ rfl rfl (by omega) (by omega) dL_withdraw_30 ⟨u, fo, rfl, dju, by rw [hc1], fun e => by omega, by rw [hc1]; exact hBu⟩
  · have ec : wcode s p0 p1 p2 = 0 := hp.1
    have hV : r = vRoutes (sUp s (pN p0) (pqN p1 p2) 0) p0 := hp.2.1
    have hBu : isB g u x (sUp s (pN p0) (pqN p1 p2) 0) := hp.2.2
    have eu : mg (sg o (aJ g 1 fo)) u o = some (aJ g 1 fo) := mg_o hUp_s
    refine j_i2l (pc := 10) F dL_withdraw_10 ?_
    refine j_lastN (pc := 11) F (by first | assumption | exact hUp_s) (by omega) (by decide) dL_withdraw_11 ?_
    rw [mg_up]
    refine j_goto (pc := 12) F 31 dL_withdraw_12 (by decide) ?_
    refine j_iconst (pc := 31) (v := (nI 0)) F dL_withdraw_31 (by decide) ?_
    exact j_iret F hQ rfl rfl (by omega) (by omega) dL_withdraw_32 ⟨u, _, rfl, dj_sg dju, by rw [ec], fun _ => ⟨r, hV, rfl⟩, by rw [ec]; exact hBu⟩
theorem wq_drop : Cond.codeWith yL_drop cL_drop 4 (some .int) [(0, 9, 12, 24), (0, 9, 15, 15)] ∈ wU := wU_at 559 (by decide +kernel) rfl
theorem wt_drop : Cond.static yL_drop ∈ wU := wU_at 558 (by decide +kernel) rfl
theorem w_drop (hst : l.stackTraces = false) {p0 : Int32} (hB : isB g hc x s) (dj0 : dj (sg o (aJ g 1 fo)) hc) : WI l g A (mg (sg o (aJ g 1 fo)) hc) yL_drop cL_drop 4 [(0, 9, 12, 24), (0, 9, 15, 15)] 9 4 24 ([.ref x, .int p0, .ref o]) (fun r h1 => WQ g x o (dcode s p0) (fun r => r = vRoutes s p0) (nxt (dcode s p0) (sUp s (pN p0) 0 0) s) r h1) := by
  have hB2 := hB
  obtain ⟨pm, am, tr, hi, rg, rl, T, E, kc, K, hBx⟩ := hB2
  have e0 := hBx.1
  refine jw_met (by decide +kernel) (Nat.le_of_ble_eq_true rfl) (fun X F htab hN hQ => ?_)
  have eo : mg (sg o (aJ g 1 fo)) hc o = some (aJ g 1 fo) := mg_o hUp_s
  first | refine j_aload_n (pc := 0) F dL_drop_0 rfl ?_ | refine j_aload_nq (pc := 0) F dL_drop_0 rfl ?_
  refine j_iconst (pc := 1) (v := (nI 0)) F dL_drop_1 (by decide) ?_
  first | refine j_aload_n (pc := 2) F dL_drop_2 rfl ?_ | refine j_aload_nq (pc := 2) F dL_drop_2 rfl ?_
  refine j_iload_n (pc := 3) F dL_drop_3 rfl ?_
  refine jfx_ri (jfx_runV (pc := 4) F dj0 (c_X8_drop (A := Ac A (sg o (aJ g 1 fo))) hst hB) m_X8_drop mv_X8_drop lk_L_32 e0 rfl ⟨by decide, by decide⟩ (Nat.le_of_ble_eq_true rfl) ⟨by omega, by omega⟩ rfl dL_drop_4) (fun E u hp dju => ?_) (fun r u hp dju => ?_)
  · have hx : nm [IOOB, ISE] (dcode s p0) E := hp.1
    have hBu : isB g u x s := hp.2
    rcases nm2 hx with ⟨hc1, rfl⟩ | ⟨hc1, rfl⟩
    · refine j_catch F [] ⟨0, 9, 12, 24⟩ [⟨0, 9, 15, 15⟩] (htab.trans rfl) (fun z hz => nomatch hz) (by decide) (by decide) lc_L_24 cs_16 (fun q => ?_)
      first | refine j_astore_n (pc := 12) F dL_drop_12 (by decide) ?_ | refine j_astore_nq (pc := 12) F dL_drop_12 (by decide) ?_ | refine j_astore_nN (pc := 12) F dL_drop_12 (by decide) ?_
      refine j_iconst (pc := 13) (v := (nI 1)) F dL_drop_13 (by decide) ?_
      exact j_iret F hQ rfl rfl (by omega) (by omega) dL_drop_14 ⟨u, fo, rfl, dju, by rw [hc1], fun e => by omega, by rw [hc1]; exact hBu⟩
    · refine j_catch F [⟨0, 9, 12, 24⟩] ⟨0, 9, 15, 15⟩ [] (htab.trans rfl) (fun z hz => by rw [List.mem_singleton.mp hz]; exact (Or.inr ⟨by decide, IOOB, lc_L_24, hN.2.1⟩)) (by decide) (by decide) lc_L_15 cs_15 (fun q => ?_)
      first | refine j_astore_n (pc := 15) F dL_drop_15 (by decide) ?_ | refine j_astore_nq (pc := 15) F dL_drop_15 (by decide) ?_ | refine j_astore_nN (pc := 15) F dL_drop_15 (by decide) ?_
      refine j_iconst (pc := 16) (v := (nI 2)) F dL_drop_16 (by decide) ?_
      exact j_iret F hQ rfl rfl (by omega) (by omega) dL_drop_17 ⟨u, fo, rfl, dju, by rw [hc1], fun e => by omega, by rw [hc1]; exact hBu⟩
  · have ec : dcode s p0 = 0 := hp.1
    have hV : r = vRoutes s p0 := hp.2.1
    have hBu : isB g u x (sUp s (pN p0) 0 0) := hp.2.2
    have eu : mg (sg o (aJ g 1 fo)) u o = some (aJ g 1 fo) := mg_o hUp_s
    refine j_i2l (pc := 7) F dL_drop_7 ?_
    refine j_lastN (pc := 8) F (by first | assumption | exact hUp_s) (by omega) (by decide) dL_drop_8 ?_
    rw [mg_up]
    refine j_goto (pc := 9) F 18 dL_drop_9 (by decide) ?_
    refine j_iconst (pc := 18) (v := (nI 0)) F dL_drop_18 (by decide) ?_
    exact j_iret F hQ rfl rfl (by omega) (by omega) dL_drop_19 ⟨u, _, rfl, dj_sg dju, by rw [ec], fun _ => ⟨r, hV, rfl⟩, by rw [ec]; exact hBu⟩
theorem wq_routes : Cond.codeWith yL_routes cL_routes 4 (some .int) [(0, 9, 12, 24)] ∈ wU := wU_at 566 (by decide +kernel) rfl
theorem wt_routes : Cond.static yL_routes ∈ wU := wU_at 565 (by decide +kernel) rfl
theorem w_routes (hst : l.stackTraces = false) {p0 : Int32} (hB : isB g hc x s) (dj0 : dj (sg o (aJ g 1 fo)) hc) : WI l g A (mg (sg o (aJ g 1 fo)) hc) yL_routes cL_routes 4 [(0, 9, 12, 24)] 9 3 18 ([.ref x, .int p0, .ref o]) (fun r h1 => WQ g x o (p1code p0) (fun r => r = vRoutes s p0) (nxt (p1code p0) (s) s) r h1) := by
  have hB2 := hB
  obtain ⟨pm, am, tr, hi, rg, rl, T, E, kc, K, hBx⟩ := hB2
  have e0 := hBx.1
  refine jw_met (by decide +kernel) (Nat.le_of_ble_eq_true rfl) (fun X F htab hN hQ => ?_)
  have eo : mg (sg o (aJ g 1 fo)) hc o = some (aJ g 1 fo) := mg_o hUp_s
  first | refine j_aload_n (pc := 0) F dL_routes_0 rfl ?_ | refine j_aload_nq (pc := 0) F dL_routes_0 rfl ?_
  refine j_iconst (pc := 1) (v := (nI 0)) F dL_routes_1 (by decide) ?_
  first | refine j_aload_n (pc := 2) F dL_routes_2 rfl ?_ | refine j_aload_nq (pc := 2) F dL_routes_2 rfl ?_
  refine j_iload_n (pc := 3) F dL_routes_3 rfl ?_
  refine jfx_ri (jfx_runV (pc := 4) F dj0 (c_X8_routes (A := Ac A (sg o (aJ g 1 fo))) hst hB) m_X8_routes mv_X8_routes lk_L_35 e0 rfl ⟨by decide, by decide⟩ (Nat.le_of_ble_eq_true rfl) ⟨by omega, by omega⟩ rfl dL_routes_4) (fun E u hp dju => ?_) (fun r u hp dju => ?_)
  · have hx : nm [IOOB] (p1code p0) E := by
      have ec : p1code p0 = 1 := by rw [p1code, if_neg (by rw [hp.1]; simp)]
      have hE : E = IOOB := hp.2.1
      rw [ec, hE]; exact ⟨by decide, rfl⟩
    have hBu : isB g u x s := hp.2.2
    obtain ⟨hc1, rfl⟩ := nm1 hx
    refine j_catch F [] ⟨0, 9, 12, 24⟩ [] (htab.trans rfl) (fun z hz => nomatch hz) (by decide) (by decide) lc_L_24 cs_16 (fun q => ?_)
    first | refine j_astore_n (pc := 12) F dL_routes_12 (by decide) ?_ | refine j_astore_nq (pc := 12) F dL_routes_12 (by decide) ?_ | refine j_astore_nN (pc := 12) F dL_routes_12 (by decide) ?_
    refine j_iconst (pc := 13) (v := (nI 1)) F dL_routes_13 (by decide) ?_
    exact j_iret F hQ rfl rfl (by omega) (by omega) dL_routes_14 ⟨u, fo, rfl, dju, by rw [hc1], fun e => by omega, by rw [hc1]; exact hBu⟩
  · have ec : p1code p0 = 0 := if_pos hp.1
    have hV : r = vRoutes s p0 := hp.2.1
    have hBu : isB g u x (s) := hp.2.2
    have eu : mg (sg o (aJ g 1 fo)) u o = some (aJ g 1 fo) := mg_o hUp_s
    refine j_i2l (pc := 7) F dL_routes_7 ?_
    refine j_lastN (pc := 8) F (by first | assumption | exact hUp_s) (by omega) (by decide) dL_routes_8 ?_
    rw [mg_up]
    refine j_goto (pc := 9) F 15 dL_routes_9 (by decide) ?_
    refine j_iconst (pc := 15) (v := (nI 0)) F dL_routes_15 (by decide) ?_
    exact j_iret F hQ rfl rfl (by omega) (by omega) dL_routes_16 ⟨u, _, rfl, dj_sg dju, by rw [ec], fun _ => ⟨r, hV, rfl⟩, by rw [ec]; exact hBu⟩
theorem wq_pathAt : Cond.codeWith yL_pathAt cL_pathAt 7 (some .int) [(0, 14, 17, 24), (0, 14, 21, 13), (0, 14, 25, 30)] ∈ wU := wU_at 573 (by decide +kernel) rfl
theorem wt_pathAt : Cond.static yL_pathAt ∈ wU := wU_at 572 (by decide +kernel) rfl
theorem w_pathAt (hst : l.stackTraces = false) {p0 p1 p2 p3 : Int32} (hB : isB g hc x s) (dj0 : dj (sg o (aJ g 1 fo)) hc) : WI l g A (mg (sg o (aJ g 1 fo)) hc) yL_pathAt cL_pathAt 7 [(0, 14, 17, 24), (0, 14, 21, 13), (0, 14, 25, 30)] 9 3 18 ([.ref x, .int p0, .int p1, .int p2, .int p3, .ref o]) (fun r h1 => WQ g x o (pcode s p0 p1 p2 p3) (fun r => ∃ v, tb (sD s) (sm s) (pN p0) (pqN p1 p2) = some v ∧ r = pAt ((sD s).2.2.1 v) ((sD s).2.2.2 v) (Int32.toInt p3)) (nxt (pcode s p0 p1 p2 p3) (s) s) r h1) := by
  have hB2 := hB
  obtain ⟨pm, am, tr, hi, rg, rl, T, E, kc, K, hBx⟩ := hB2
  have e0 := hBx.1
  refine jw_met (by decide +kernel) (Nat.le_of_ble_eq_true rfl) (fun X F htab hN hQ => ?_)
  have eo : mg (sg o (aJ g 1 fo)) hc o = some (aJ g 1 fo) := mg_o hUp_s
  first | refine j_aload (pc := 0) F dL_pathAt_0 rfl ?_ | refine j_aloadq (pc := 0) F dL_pathAt_0 rfl ?_
  refine j_iconst (pc := 2) (v := (nI 0)) F dL_pathAt_2 (by decide) ?_
  first | refine j_aload_n (pc := 3) F dL_pathAt_3 rfl ?_ | refine j_aload_nq (pc := 3) F dL_pathAt_3 rfl ?_
  refine j_iload_n (pc := 4) F dL_pathAt_4 rfl ?_
  refine j_iload_n (pc := 5) F dL_pathAt_5 rfl ?_
  refine j_iload_n (pc := 6) F dL_pathAt_6 rfl ?_
  refine j_iload (pc := 7) F dL_pathAt_7 rfl ?_
  refine jfx_ri (jfx_runV (pc := 9) F dj0 (c_X8_pathAt (A := Ac A (sg o (aJ g 1 fo))) hst hB) m_X8_pathAt mv_X8_pathAt lk_L_38 e0 rfl ⟨by decide, by decide⟩ (Nat.le_of_ble_eq_true rfl) ⟨by omega, by omega⟩ rfl dL_pathAt_9) (fun E u hp dju => ?_) (fun r u hp dju => ?_)
  · have hx : nm [IOOB, IAE, NSEE] (pcode s p0 p1 p2 p3) E := hp.1
    have hBu : isB g u x s := hp.2
    rcases nm3 hx with ⟨hc1, rfl⟩ | ⟨hc1, rfl⟩ | ⟨hc1, rfl⟩
    · refine j_catch F [] ⟨0, 14, 17, 24⟩ [⟨0, 14, 21, 13⟩, ⟨0, 14, 25, 30⟩] (htab.trans rfl) (fun z hz => nomatch hz) (by decide) (by decide) lc_L_24 cs_16 (fun q => ?_)
      first | refine j_astore (pc := 17) F dL_pathAt_17 (by decide) ?_ | refine j_astoreq (pc := 17) F dL_pathAt_17 (by decide) ?_ | refine j_astoreN (pc := 17) F dL_pathAt_17 (by decide) ?_
      refine j_iconst (pc := 19) (v := (nI 1)) F dL_pathAt_19 (by decide) ?_
      exact j_iret F hQ rfl rfl (by omega) (by omega) dL_pathAt_20 ⟨u, fo, rfl, dju, by rw [hc1], fun e => by omega, by rw [hc1]; exact hBu⟩
    · refine j_catch F [⟨0, 14, 17, 24⟩] ⟨0, 14, 21, 13⟩ [⟨0, 14, 25, 30⟩] (htab.trans rfl) (fun z hz => by rw [List.mem_singleton.mp hz]; exact (Or.inr ⟨by decide, IOOB, lc_L_24, hN.1⟩)) (by decide) (by decide) lc_L_13 cs_8 (fun q => ?_)
      first | refine j_astore (pc := 21) F dL_pathAt_21 (by decide) ?_ | refine j_astoreq (pc := 21) F dL_pathAt_21 (by decide) ?_ | refine j_astoreN (pc := 21) F dL_pathAt_21 (by decide) ?_
      refine j_iconst (pc := 23) (v := (nI 2)) F dL_pathAt_23 (by decide) ?_
      exact j_iret F hQ rfl rfl (by omega) (by omega) dL_pathAt_24 ⟨u, fo, rfl, dju, by rw [hc1], fun e => by omega, by rw [hc1]; exact hBu⟩
    · refine j_catch F [⟨0, 14, 17, 24⟩, ⟨0, 14, 21, 13⟩] ⟨0, 14, 25, 30⟩ [] (htab.trans rfl) (fun z hz => (List.mem_cons.mp hz).elim (fun e => by rw [e]; exact (Or.inr ⟨by decide, IOOB, lc_L_24, hN.2.2.1⟩)) (fun hz => by rw [List.mem_singleton.mp hz]; exact (Or.inr ⟨by decide, IAE, lc_L_13, hN.2.2.2.2.1⟩))) (by decide) (by decide) lc_L_30 cs_35 (fun q => ?_)
      first | refine j_astore (pc := 25) F dL_pathAt_25 (by decide) ?_ | refine j_astoreq (pc := 25) F dL_pathAt_25 (by decide) ?_ | refine j_astoreN (pc := 25) F dL_pathAt_25 (by decide) ?_
      refine j_iconst (pc := 27) (v := (nI 3)) F dL_pathAt_27 (by decide) ?_
      exact j_iret F hQ rfl rfl (by omega) (by omega) dL_pathAt_28 ⟨u, fo, rfl, dju, by rw [hc1], fun e => by omega, by rw [hc1]; exact hBu⟩
  · have ec : pcode s p0 p1 p2 p3 = 0 := hp.1
    have hV : ∃ v, tb (sD s) (sm s) (pN p0) (pqN p1 p2) = some v ∧ r = pAt ((sD s).2.2.1 v) ((sD s).2.2.2 v) (Int32.toInt p3) := hp.2.1
    have hBu : isB g u x (s) := hp.2.2
    have eu : mg (sg o (aJ g 1 fo)) u o = some (aJ g 1 fo) := mg_o hUp_s
    refine j_i2l (pc := 12) F dL_pathAt_12 ?_
    refine j_lastN (pc := 13) F (by first | assumption | exact hUp_s) (by omega) (by decide) dL_pathAt_13 ?_
    rw [mg_up]
    refine j_goto (pc := 14) F 29 dL_pathAt_14 (by decide) ?_
    refine j_iconst (pc := 29) (v := (nI 0)) F dL_pathAt_29 (by decide) ?_
    exact j_iret F hQ rfl rfl (by omega) (by omega) dL_pathAt_30 ⟨u, _, rfl, dj_sg dju, by rw [ec], fun _ => ⟨r, hV, rfl⟩, by rw [ec]; exact hBu⟩
theorem wq_bestPeer : Cond.codeWith yL_bestPeer cL_bestPeer 5 (some .int) [(0, 10, 13, 13)] ∈ wU := wU_at 581 (by decide +kernel) rfl
theorem wt_bestPeer : Cond.static yL_bestPeer ∈ wU := wU_at 580 (by decide +kernel) rfl
theorem w_bestPeer (hst : l.stackTraces = false) {p0 p1 : Int32} (hB : isB g hc x s) (dj0 : dj (sg o (aJ g 1 fo)) hc) : WI l g A (mg (sg o (aJ g 1 fo)) hc) yL_bestPeer cL_bestPeer 5 [(0, 10, 13, 13)] 9 3 18 ([.ref x, .int p0, .int p1, .ref o]) (fun r h1 => WQ g x o (xcode p0 p1) (fun r => r = vBest s (pqN p0 p1)) (nxt (xcode p0 p1) (s) s) r h1) := by
  have hB2 := hB
  obtain ⟨pm, am, tr, hi, rg, rl, T, E, kc, K, hBx⟩ := hB2
  have e0 := hBx.1
  refine jw_met (by decide +kernel) (Nat.le_of_ble_eq_true rfl) (fun X F htab hN hQ => ?_)
  have eo : mg (sg o (aJ g 1 fo)) hc o = some (aJ g 1 fo) := mg_o hUp_s
  first | refine j_aload_n (pc := 0) F dL_bestPeer_0 rfl ?_ | refine j_aload_nq (pc := 0) F dL_bestPeer_0 rfl ?_
  refine j_iconst (pc := 1) (v := (nI 0)) F dL_bestPeer_1 (by decide) ?_
  first | refine j_aload_n (pc := 2) F dL_bestPeer_2 rfl ?_ | refine j_aload_nq (pc := 2) F dL_bestPeer_2 rfl ?_
  refine j_iload_n (pc := 3) F dL_bestPeer_3 rfl ?_
  refine j_iload_n (pc := 4) F dL_bestPeer_4 rfl ?_
  refine jfx_ri (jfx_runV (pc := 5) F dj0 (c_X8_bestPeer (A := Ac A (sg o (aJ g 1 fo))) hst hB) m_X8_bestPeer mv_X8_bestPeer lk_L_42 e0 rfl ⟨by decide, by decide⟩ (Nat.le_of_ble_eq_true rfl) ⟨by omega, by omega⟩ rfl dL_bestPeer_5) (fun E u hp dju => ?_) (fun r u hp dju => ?_)
  · have hx : nm [IAE] (xcode p0 p1) E := by
      have ec : xcode p0 p1 = 1 := by rw [xcode, if_neg (by rw [hp.1]; simp)]
      have hE : E = IAE := hp.2.1
      rw [ec, hE]; exact ⟨by decide, rfl⟩
    have hBu : isB g u x s := hp.2.2
    obtain ⟨hc1, rfl⟩ := nm1 hx
    refine j_catch F [] ⟨0, 10, 13, 13⟩ [] (htab.trans rfl) (fun z hz => nomatch hz) (by decide) (by decide) lc_L_13 cs_8 (fun q => ?_)
    first | refine j_astore (pc := 13) F dL_bestPeer_13 (by decide) ?_ | refine j_astoreq (pc := 13) F dL_bestPeer_13 (by decide) ?_ | refine j_astoreN (pc := 13) F dL_bestPeer_13 (by decide) ?_
    refine j_iconst (pc := 15) (v := (nI 1)) F dL_bestPeer_15 (by decide) ?_
    exact j_iret F hQ rfl rfl (by omega) (by omega) dL_bestPeer_16 ⟨u, fo, rfl, dju, by rw [hc1], fun e => by omega, by rw [hc1]; exact hBu⟩
  · have ec : xcode p0 p1 = 0 := if_pos hp.1
    have hV : r = vBest s (pqN p0 p1) := hp.2.1
    have hBu : isB g u x (s) := hp.2.2
    have eu : mg (sg o (aJ g 1 fo)) u o = some (aJ g 1 fo) := mg_o hUp_s
    refine j_i2l (pc := 8) F dL_bestPeer_8 ?_
    refine j_lastN (pc := 9) F (by first | assumption | exact hUp_s) (by omega) (by decide) dL_bestPeer_9 ?_
    rw [mg_up]
    refine j_goto (pc := 10) F 17 dL_bestPeer_10 (by decide) ?_
    refine j_iconst (pc := 17) (v := (nI 0)) F dL_bestPeer_17 (by decide) ?_
    exact j_iret F hQ rfl rfl (by omega) (by omega) dL_bestPeer_18 ⟨u, _, rfl, dj_sg dju, by rw [ec], fun _ => ⟨r, hV, rfl⟩, by rw [ec]; exact hBu⟩
theorem wq_lookUp : Cond.codeWith yL_lookUp cL_lookUp 4 (some .int) [(0, 9, 12, 24)] ∈ wU := wU_at 593 (by decide +kernel) rfl
theorem wt_lookUp : Cond.static yL_lookUp ∈ wU := wU_at 592 (by decide +kernel) rfl
theorem w_lookUp (hst : l.stackTraces = false) {p0 : Int32} (hB : isB g hc x s) (dj0 : dj (sg o (aJ g 1 fo)) hc) : WI l g A (mg (sg o (aJ g 1 fo)) hc) yL_lookUp cL_lookUp 4 [(0, 9, 12, 24)] 9 3 18 ([.ref x, .int p0, .ref o]) (fun r h1 => WQ g x o (a1code p0) (fun r => r = vLook s (sm s) p0) (nxt (a1code p0) (s) s) r h1) := by
  have hB2 := hB
  obtain ⟨pm, am, tr, hi, rg, rl, T, E, kc, K, hBx⟩ := hB2
  have e0 := hBx.1
  refine jw_met (by decide +kernel) (Nat.le_of_ble_eq_true rfl) (fun X F htab hN hQ => ?_)
  have eo : mg (sg o (aJ g 1 fo)) hc o = some (aJ g 1 fo) := mg_o hUp_s
  first | refine j_aload_n (pc := 0) F dL_lookUp_0 rfl ?_ | refine j_aload_nq (pc := 0) F dL_lookUp_0 rfl ?_
  refine j_iconst (pc := 1) (v := (nI 0)) F dL_lookUp_1 (by decide) ?_
  first | refine j_aload_n (pc := 2) F dL_lookUp_2 rfl ?_ | refine j_aload_nq (pc := 2) F dL_lookUp_2 rfl ?_
  refine j_iload_n (pc := 3) F dL_lookUp_3 rfl ?_
  refine jfx_ri (jfx_runV (pc := 4) F dj0 (c_X8_lookUp (A := Ac A (sg o (aJ g 1 fo))) hst hB) m_X8_lookUp mv_X8_lookUp lk_L_46 e0 rfl ⟨by decide, by decide⟩ (Nat.le_of_ble_eq_true rfl) ⟨by omega, by omega⟩ rfl dL_lookUp_4) (fun E u hp dju => ?_) (fun r u hp dju => ?_)
  · have hx : nm [IOOB] (a1code p0) E := by
      have ec : a1code p0 = 1 := by rw [a1code, if_neg (by rw [hp.1]; simp)]
      have hE : E = IOOB := hp.2.1
      rw [ec, hE]; exact ⟨by decide, rfl⟩
    have hBu : isB g u x s := hp.2.2
    obtain ⟨hc1, rfl⟩ := nm1 hx
    refine j_catch F [] ⟨0, 9, 12, 24⟩ [] (htab.trans rfl) (fun z hz => nomatch hz) (by decide) (by decide) lc_L_24 cs_16 (fun q => ?_)
    first | refine j_astore_n (pc := 12) F dL_lookUp_12 (by decide) ?_ | refine j_astore_nq (pc := 12) F dL_lookUp_12 (by decide) ?_ | refine j_astore_nN (pc := 12) F dL_lookUp_12 (by decide) ?_
    refine j_iconst (pc := 13) (v := (nI 1)) F dL_lookUp_13 (by decide) ?_
    exact j_iret F hQ rfl rfl (by omega) (by omega) dL_lookUp_14 ⟨u, fo, rfl, dju, by rw [hc1], fun e => by omega, by rw [hc1]; exact hBu⟩
  · have ec : a1code p0 = 0 := if_pos hp.1
    have hV : r = vLook s (sm s) p0 := hp.2.1
    have hBu : isB g u x (s) := hp.2.2
    have eu : mg (sg o (aJ g 1 fo)) u o = some (aJ g 1 fo) := mg_o hUp_s
    refine j_i2l (pc := 7) F dL_lookUp_7 ?_
    refine j_lastN (pc := 8) F (by first | assumption | exact hUp_s) (by omega) (by decide) dL_lookUp_8 ?_
    rw [mg_up]
    refine j_goto (pc := 9) F 15 dL_lookUp_9 (by decide) ?_
    refine j_iconst (pc := 15) (v := (nI 0)) F dL_lookUp_15 (by decide) ?_
    exact j_iret F hQ rfl rfl (by omega) (by omega) dL_lookUp_16 ⟨u, _, rfl, dj_sg dju, by rw [ec], fun _ => ⟨r, hV, rfl⟩, by rw [ec]; exact hBu⟩
theorem wq_lookUpByScan : Cond.codeWith yL_lookUpByScan cL_lookUpByScan 4 (some .int) [(0, 9, 12, 24)] ∈ wU := wU_at 610 (by decide +kernel) rfl
theorem wt_lookUpByScan : Cond.static yL_lookUpByScan ∈ wU := wU_at 609 (by decide +kernel) rfl
theorem w_lookUpByScan (hst : l.stackTraces = false) (w : wf s) {p0 : Int32} (hB : isB g hc x s) (dj0 : dj (sg o (aJ g 1 fo)) hc) : WI l g A (mg (sg o (aJ g 1 fo)) hc) yL_lookUpByScan cL_lookUpByScan 4 [(0, 9, 12, 24)] 9 3 18 ([.ref x, .int p0, .ref o]) (fun r h1 => WQ g x o (a1code p0) (fun r => r = vLook s (sm s) p0) (nxt (a1code p0) (s) s) r h1) := by
  have hB2 := hB
  obtain ⟨pm, am, tr, hi, rg, rl, T, E, kc, K, hBx⟩ := hB2
  have e0 := hBx.1
  refine jw_met (by decide +kernel) (Nat.le_of_ble_eq_true rfl) (fun X F htab hN hQ => ?_)
  have eo : mg (sg o (aJ g 1 fo)) hc o = some (aJ g 1 fo) := mg_o hUp_s
  first | refine j_aload_n (pc := 0) F dL_lookUpByScan_0 rfl ?_ | refine j_aload_nq (pc := 0) F dL_lookUpByScan_0 rfl ?_
  refine j_iconst (pc := 1) (v := (nI 0)) F dL_lookUpByScan_1 (by decide) ?_
  first | refine j_aload_n (pc := 2) F dL_lookUpByScan_2 rfl ?_ | refine j_aload_nq (pc := 2) F dL_lookUpByScan_2 rfl ?_
  refine j_iload_n (pc := 3) F dL_lookUpByScan_3 rfl ?_
  refine jfx_ri (jfx_runV (pc := 4) F dj0 (c_X8_lookUpByScan (A := Ac A (sg o (aJ g 1 fo))) hst w hB) m_X8_lookUpByScan mv_X8_lookUpByScan lk_L_49 e0 rfl ⟨by decide, by decide⟩ (Nat.le_of_ble_eq_true rfl) ⟨by omega, by omega⟩ rfl dL_lookUpByScan_4) (fun E u hp dju => ?_) (fun r u hp dju => ?_)
  · have hx : nm [IOOB] (a1code p0) E := by
      have ec : a1code p0 = 1 := by rw [a1code, if_neg (by rw [hp.1]; simp)]
      have hE : E = IOOB := hp.2.1
      rw [ec, hE]; exact ⟨by decide, rfl⟩
    have hBu : isB g u x s := hp.2.2
    obtain ⟨hc1, rfl⟩ := nm1 hx
    refine j_catch F [] ⟨0, 9, 12, 24⟩ [] (htab.trans rfl) (fun z hz => nomatch hz) (by decide) (by decide) lc_L_24 cs_16 (fun q => ?_)
    first | refine j_astore_n (pc := 12) F dL_lookUpByScan_12 (by decide) ?_ | refine j_astore_nq (pc := 12) F dL_lookUpByScan_12 (by decide) ?_ | refine j_astore_nN (pc := 12) F dL_lookUpByScan_12 (by decide) ?_
    refine j_iconst (pc := 13) (v := (nI 1)) F dL_lookUpByScan_13 (by decide) ?_
    exact j_iret F hQ rfl rfl (by omega) (by omega) dL_lookUpByScan_14 ⟨u, fo, rfl, dju, by rw [hc1], fun e => by omega, by rw [hc1]; exact hBu⟩
  · have ec : a1code p0 = 0 := if_pos hp.1
    have hV : r = vLook s (sm s) p0 := hp.2.1
    have hBu : isB g u x (s) := hp.2.2
    have eu : mg (sg o (aJ g 1 fo)) u o = some (aJ g 1 fo) := mg_o hUp_s
    refine j_i2l (pc := 7) F dL_lookUpByScan_7 ?_
    refine j_lastN (pc := 8) F (by first | assumption | exact hUp_s) (by omega) (by decide) dL_lookUpByScan_8 ?_
    rw [mg_up]
    refine j_goto (pc := 9) F 15 dL_lookUpByScan_9 (by decide) ?_
    refine j_iconst (pc := 15) (v := (nI 0)) F dL_lookUpByScan_15 (by decide) ?_
    exact j_iret F hQ rfl rfl (by omega) (by omega) dL_lookUpByScan_16 ⟨u, _, rfl, dj_sg dju, by rw [ec], fun _ => ⟨r, hV, rfl⟩, by rw [ec]; exact hBu⟩
theorem wq_origins : Cond.codeWith yL_origins cL_origins 5 (some .int) [(0, 10, 13, 13)] ∈ wU := wU_at 633 (by decide +kernel) rfl
theorem wt_origins : Cond.static yL_origins ∈ wU := wU_at 632 (by decide +kernel) rfl
theorem w_origins (hst : l.stackTraces = false) {p0 p1 : Int32} (hB : isB g hc x s) (dj0 : dj (sg o (aJ g 1 fo)) hc) : WI l g A (mg (sg o (aJ g 1 fo)) hc) yL_origins cL_origins 5 [(0, 10, 13, 13)] 9 3 18 ([.ref x, .int p0, .int p1, .ref o]) (fun r h1 => WQ g x o (xcode p0 p1) (fun r => r = vOrigins s (pqN p0 p1)) (nxt (xcode p0 p1) (s) s) r h1) := by
  have hB2 := hB
  obtain ⟨pm, am, tr, hi, rg, rl, T, E, kc, K, hBx⟩ := hB2
  have e0 := hBx.1
  refine jw_met (by decide +kernel) (Nat.le_of_ble_eq_true rfl) (fun X F htab hN hQ => ?_)
  have eo : mg (sg o (aJ g 1 fo)) hc o = some (aJ g 1 fo) := mg_o hUp_s
  first | refine j_aload_n (pc := 0) F dL_origins_0 rfl ?_ | refine j_aload_nq (pc := 0) F dL_origins_0 rfl ?_
  refine j_iconst (pc := 1) (v := (nI 0)) F dL_origins_1 (by decide) ?_
  first | refine j_aload_n (pc := 2) F dL_origins_2 rfl ?_ | refine j_aload_nq (pc := 2) F dL_origins_2 rfl ?_
  refine j_iload_n (pc := 3) F dL_origins_3 rfl ?_
  refine j_iload_n (pc := 4) F dL_origins_4 rfl ?_
  refine jfx_ri (jfx_runV (pc := 5) F dj0 (c_X8_origins (A := Ac A (sg o (aJ g 1 fo))) hst hB) m_X8_origins mv_X8_origins lk_L_52 e0 rfl ⟨by decide, by decide⟩ (Nat.le_of_ble_eq_true rfl) ⟨by omega, by omega⟩ rfl dL_origins_5) (fun E u hp dju => ?_) (fun r u hp dju => ?_)
  · have hx : nm [IAE] (xcode p0 p1) E := by
      have ec : xcode p0 p1 = 1 := by rw [xcode, if_neg (by rw [hp.1]; simp)]
      have hE : E = IAE := hp.2.1
      rw [ec, hE]; exact ⟨by decide, rfl⟩
    have hBu : isB g u x s := hp.2.2
    obtain ⟨hc1, rfl⟩ := nm1 hx
    refine j_catch F [] ⟨0, 10, 13, 13⟩ [] (htab.trans rfl) (fun z hz => nomatch hz) (by decide) (by decide) lc_L_13 cs_8 (fun q => ?_)
    first | refine j_astore (pc := 13) F dL_origins_13 (by decide) ?_ | refine j_astoreq (pc := 13) F dL_origins_13 (by decide) ?_ | refine j_astoreN (pc := 13) F dL_origins_13 (by decide) ?_
    refine j_iconst (pc := 15) (v := (nI 1)) F dL_origins_15 (by decide) ?_
    exact j_iret F hQ rfl rfl (by omega) (by omega) dL_origins_16 ⟨u, fo, rfl, dju, by rw [hc1], fun e => by omega, by rw [hc1]; exact hBu⟩
  · have ec : xcode p0 p1 = 0 := if_pos hp.1
    have hV : r = vOrigins s (pqN p0 p1) := hp.2.1
    have hBu : isB g u x (s) := hp.2.2
    have eu : mg (sg o (aJ g 1 fo)) u o = some (aJ g 1 fo) := mg_o hUp_s
    refine j_i2l (pc := 8) F dL_origins_8 ?_
    refine j_lastN (pc := 9) F (by first | assumption | exact hUp_s) (by omega) (by decide) dL_origins_9 ?_
    rw [mg_up]
    refine j_goto (pc := 10) F 17 dL_origins_10 (by decide) ?_
    refine j_iconst (pc := 17) (v := (nI 0)) F dL_origins_17 (by decide) ?_
    exact j_iret F hQ rfl rfl (by omega) (by omega) dL_origins_18 ⟨u, _, rfl, dj_sg dju, by rw [ec], fun _ => ⟨r, hV, rfl⟩, by rw [ec]; exact hBu⟩
theorem wq_isHijack : Cond.codeWith yL_isHijack cL_isHijack 6 (some .int) [(0, 19, 22, 24), (0, 19, 26, 13), (0, 19, 30, 30)] ∈ wU := wU_at 640 (by decide +kernel) rfl
theorem wt_isHijack : Cond.static yL_isHijack ∈ wU := wU_at 639 (by decide +kernel) rfl
theorem w_isHijack (hst : l.stackTraces = false) {p0 p1 p2 : Int32} (hB : isB g hc x s) (dj0 : dj (sg o (aJ g 1 fo)) hc) : WI l g A (mg (sg o (aJ g 1 fo)) hc) yL_isHijack cL_isHijack 6 [(0, 19, 22, 24), (0, 19, 26, 13), (0, 19, 30, 30)] 9 3 18 ([.ref x, .int p0, .int p1, .int p2, .ref o]) (fun r h1 => WQ g x o (rcode s p0 p1 p2) (fun r => ∃ v, tb (sD s) (sm s) (pN p0) (pqN p1 p2) = some v ∧ r = bI (vHij s v)) (nxt (rcode s p0 p1 p2) (s) s) r h1) := by
  have hB2 := hB
  obtain ⟨pm, am, tr, hi, rg, rl, T, E, kc, K, hBx⟩ := hB2
  have e0 := hBx.1
  refine jw_met (by decide +kernel) (Nat.le_of_ble_eq_true rfl) (fun X F htab hN hQ => ?_)
  have eo : mg (sg o (aJ g 1 fo)) hc o = some (aJ g 1 fo) := mg_o hUp_s
  first | refine j_aload (pc := 0) F dL_isHijack_0 rfl ?_ | refine j_aloadq (pc := 0) F dL_isHijack_0 rfl ?_
  refine j_iconst (pc := 2) (v := (nI 0)) F dL_isHijack_2 (by decide) ?_
  first | refine j_aload_n (pc := 3) F dL_isHijack_3 rfl ?_ | refine j_aload_nq (pc := 3) F dL_isHijack_3 rfl ?_
  refine j_iload_n (pc := 4) F dL_isHijack_4 rfl ?_
  refine j_iload_n (pc := 5) F dL_isHijack_5 rfl ?_
  refine j_iload_n (pc := 6) F dL_isHijack_6 rfl ?_
  refine jfx_ri (jfx_runV (pc := 7) F dj0 (c_X8_isHijack (A := Ac A (sg o (aJ g 1 fo))) hst hB) m_X8_isHijack mv_X8_isHijack lk_L_55 e0 rfl ⟨by decide, by decide⟩ (Nat.le_of_ble_eq_true rfl) ⟨by omega, by omega⟩ rfl dL_isHijack_7) (fun E u hp dju => ?_) (fun r u hp dju => ?_)
  · have hx : nm [IOOB, IAE, NSEE] (rcode s p0 p1 p2) E := hp.1
    have hBu : isB g u x s := hp.2
    rcases nm3 hx with ⟨hc1, rfl⟩ | ⟨hc1, rfl⟩ | ⟨hc1, rfl⟩
    · refine j_catch F [] ⟨0, 19, 22, 24⟩ [⟨0, 19, 26, 13⟩, ⟨0, 19, 30, 30⟩] (htab.trans rfl) (fun z hz => nomatch hz) (by decide) (by decide) lc_L_24 cs_16 (fun q => ?_)
      first | refine j_astore (pc := 22) F dL_isHijack_22 (by decide) ?_ | refine j_astoreq (pc := 22) F dL_isHijack_22 (by decide) ?_ | refine j_astoreN (pc := 22) F dL_isHijack_22 (by decide) ?_
      refine j_iconst (pc := 24) (v := (nI 1)) F dL_isHijack_24 (by decide) ?_
      exact j_iret F hQ rfl rfl (by omega) (by omega) dL_isHijack_25 ⟨u, fo, rfl, dju, by rw [hc1], fun e => by omega, by rw [hc1]; exact hBu⟩
    · refine j_catch F [⟨0, 19, 22, 24⟩] ⟨0, 19, 26, 13⟩ [⟨0, 19, 30, 30⟩] (htab.trans rfl) (fun z hz => by rw [List.mem_singleton.mp hz]; exact (Or.inr ⟨by decide, IOOB, lc_L_24, hN.1⟩)) (by decide) (by decide) lc_L_13 cs_8 (fun q => ?_)
      first | refine j_astore (pc := 26) F dL_isHijack_26 (by decide) ?_ | refine j_astoreq (pc := 26) F dL_isHijack_26 (by decide) ?_ | refine j_astoreN (pc := 26) F dL_isHijack_26 (by decide) ?_
      refine j_iconst (pc := 28) (v := (nI 2)) F dL_isHijack_28 (by decide) ?_
      exact j_iret F hQ rfl rfl (by omega) (by omega) dL_isHijack_29 ⟨u, fo, rfl, dju, by rw [hc1], fun e => by omega, by rw [hc1]; exact hBu⟩
    · refine j_catch F [⟨0, 19, 22, 24⟩, ⟨0, 19, 26, 13⟩] ⟨0, 19, 30, 30⟩ [] (htab.trans rfl) (fun z hz => (List.mem_cons.mp hz).elim (fun e => by rw [e]; exact (Or.inr ⟨by decide, IOOB, lc_L_24, hN.2.2.1⟩)) (fun hz => by rw [List.mem_singleton.mp hz]; exact (Or.inr ⟨by decide, IAE, lc_L_13, hN.2.2.2.2.1⟩))) (by decide) (by decide) lc_L_30 cs_35 (fun q => ?_)
      first | refine j_astore (pc := 30) F dL_isHijack_30 (by decide) ?_ | refine j_astoreq (pc := 30) F dL_isHijack_30 (by decide) ?_ | refine j_astoreN (pc := 30) F dL_isHijack_30 (by decide) ?_
      refine j_iconst (pc := 32) (v := (nI 3)) F dL_isHijack_32 (by decide) ?_
      exact j_iret F hQ rfl rfl (by omega) (by omega) dL_isHijack_33 ⟨u, fo, rfl, dju, by rw [hc1], fun e => by omega, by rw [hc1]; exact hBu⟩
  · have ec : rcode s p0 p1 p2 = 0 := hp.1
    have hV : ∃ v, tb (sD s) (sm s) (pN p0) (pqN p1 p2) = some v ∧ r = bI (vHij s v) := hp.2.1
    have hBu : isB g u x (s) := hp.2.2
    have eu : mg (sg o (aJ g 1 fo)) u o = some (aJ g 1 fo) := mg_o hUp_s
    obtain ⟨v, hv, hr⟩ := hV
    generalize hbb : vHij s v = bb at hr
    subst hr
    cases bb with
    | false =>
      first | refine j_if_eqB (pc := 10) F 17 dL_isHijack_10 (by decide) (fun c => ?_) (fun c => ?_) | refine j_if_eqN (pc := 10) F 17 dL_isHijack_10 (by decide) (by omega) (fun c => ?_) (fun c => ?_) | refine j_if_eqI (pc := 10) F 17 dL_isHijack_10 (by decide) (fun c => ?_) (fun c => ?_)
      · refine j_lconst (pc := 17) F dL_isHijack_17 rfl ?_
        refine j_lastN (pc := 18) F (by first | assumption | exact hUp_s) (by omega) (by decide) dL_isHijack_18 ?_
        rw [mg_up]
        refine j_goto (pc := 19) F 34 dL_isHijack_19 (by decide) ?_
        refine j_iconst (pc := 34) (v := (nI 0)) F dL_isHijack_34 (by decide) ?_
        exact j_iret F hQ rfl rfl (by omega) (by omega) dL_isHijack_35 ⟨u, _, rfl, dj_sg dju, by rw [ec], fun _ => ⟨bI false, ⟨v, hv, by rw [hbb]⟩, rfl⟩, by rw [ec]; exact hBu⟩
      · cases c
    | true =>
      first | refine j_if_eqB (pc := 10) F 17 dL_isHijack_10 (by decide) (fun c => ?_) (fun c => ?_) | refine j_if_eqN (pc := 10) F 17 dL_isHijack_10 (by decide) (by omega) (fun c => ?_) (fun c => ?_) | refine j_if_eqI (pc := 10) F 17 dL_isHijack_10 (by decide) (fun c => ?_) (fun c => ?_)
      · cases c
      · refine j_lconst (pc := 13) F dL_isHijack_13 rfl ?_
        refine j_goto (pc := 14) F 18 dL_isHijack_14 (by decide) ?_
        refine j_lastN (pc := 18) F (by first | assumption | exact hUp_s) (by omega) (by decide) dL_isHijack_18 ?_
        rw [mg_up]
        refine j_goto (pc := 19) F 34 dL_isHijack_19 (by decide) ?_
        refine j_iconst (pc := 34) (v := (nI 0)) F dL_isHijack_34 (by decide) ?_
        exact j_iret F hQ rfl rfl (by omega) (by omega) dL_isHijack_35 ⟨u, _, rfl, dj_sg dju, by rw [ec], fun _ => ⟨bI true, ⟨v, hv, by rw [hbb]⟩, rfl⟩, by rw [ec]; exact hBu⟩
theorem wq_allow : Cond.codeWith yL_allow cL_allow 7 (some .int) [(0, 21, 24, 13), (0, 21, 28, 15)] ∈ wU := wU_at 656 (by decide +kernel) rfl
theorem wt_allow : Cond.static yL_allow ∈ wU := wU_at 655 (by decide +kernel) rfl
theorem w_allow (hst : l.stackTraces = false) {p0 p1 p2 p3 : Int32} (hB : isB g hc x s) (dj0 : dj (sg o (aJ g 1 fo)) hc) : WI l g A (mg (sg o (aJ g 1 fo)) hc) yL_allow cL_allow 7 [(0, 21, 24, 13), (0, 21, 28, 15)] 9 4 24 ([.ref x, .int p0, .int p1, .int p2, .int p3, .ref o]) (fun r h1 => WQ g x o (acode s p0 p1 p2 p3) (fun r => r = bI (decide (sPl s (pqN p0 p1) (pN p2) (pN p3) = none))) (nxt (acode s p0 p1 p2 p3) (sAl s (pqN p0 p1) (pN p2) (pN p3)) s) r h1) := by
  have hB2 := hB
  obtain ⟨pm, am, tr, hi, rg, rl, T, E, kc, K, hBx⟩ := hB2
  have e0 := hBx.1
  refine jw_met (by decide +kernel) (Nat.le_of_ble_eq_true rfl) (fun X F htab hN hQ => ?_)
  have eo : mg (sg o (aJ g 1 fo)) hc o = some (aJ g 1 fo) := mg_o hUp_s
  first | refine j_aload (pc := 0) F dL_allow_0 rfl ?_ | refine j_aloadq (pc := 0) F dL_allow_0 rfl ?_
  refine j_iconst (pc := 2) (v := (nI 0)) F dL_allow_2 (by decide) ?_
  first | refine j_aload_n (pc := 3) F dL_allow_3 rfl ?_ | refine j_aload_nq (pc := 3) F dL_allow_3 rfl ?_
  refine j_iload_n (pc := 4) F dL_allow_4 rfl ?_
  refine j_iload_n (pc := 5) F dL_allow_5 rfl ?_
  refine j_iload_n (pc := 6) F dL_allow_6 rfl ?_
  refine j_iload (pc := 7) F dL_allow_7 rfl ?_
  refine jfx_ri (jfx_runV (pc := 9) F dj0 (c_X8_allow (A := Ac A (sg o (aJ g 1 fo))) hst hB) m_X8_allow mv_X8_allow lk_L_58 e0 rfl ⟨by decide, by decide⟩ (Nat.le_of_ble_eq_true rfl) ⟨by omega, by omega⟩ rfl dL_allow_9) (fun E u hp dju => ?_) (fun r u hp dju => ?_)
  · have hx : nm [IAE, ISE] (acode s p0 p1 p2 p3) E := hp.1
    have hBu : isB g u x s := hp.2
    rcases nm2 hx with ⟨hc1, rfl⟩ | ⟨hc1, rfl⟩
    · refine j_catch F [] ⟨0, 21, 24, 13⟩ [⟨0, 21, 28, 15⟩] (htab.trans rfl) (fun z hz => nomatch hz) (by decide) (by decide) lc_L_13 cs_8 (fun q => ?_)
      first | refine j_astore (pc := 24) F dL_allow_24 (by decide) ?_ | refine j_astoreq (pc := 24) F dL_allow_24 (by decide) ?_ | refine j_astoreN (pc := 24) F dL_allow_24 (by decide) ?_
      refine j_iconst (pc := 26) (v := (nI 1)) F dL_allow_26 (by decide) ?_
      exact j_iret F hQ rfl rfl (by omega) (by omega) dL_allow_27 ⟨u, fo, rfl, dju, by rw [hc1], fun e => by omega, by rw [hc1]; exact hBu⟩
    · refine j_catch F [⟨0, 21, 24, 13⟩] ⟨0, 21, 28, 15⟩ [] (htab.trans rfl) (fun z hz => by rw [List.mem_singleton.mp hz]; exact (Or.inr ⟨by decide, IAE, lc_L_13, hN.2.2.2.1⟩)) (by decide) (by decide) lc_L_15 cs_15 (fun q => ?_)
      first | refine j_astore (pc := 28) F dL_allow_28 (by decide) ?_ | refine j_astoreq (pc := 28) F dL_allow_28 (by decide) ?_ | refine j_astoreN (pc := 28) F dL_allow_28 (by decide) ?_
      refine j_iconst (pc := 30) (v := (nI 2)) F dL_allow_30 (by decide) ?_
      exact j_iret F hQ rfl rfl (by omega) (by omega) dL_allow_31 ⟨u, fo, rfl, dju, by rw [hc1], fun e => by omega, by rw [hc1]; exact hBu⟩
  · have ec : acode s p0 p1 p2 p3 = 0 := hp.1
    have hV : r = bI (decide (sPl s (pqN p0 p1) (pN p2) (pN p3) = none)) := hp.2.1
    have hBu : isB g u x (sAl s (pqN p0 p1) (pN p2) (pN p3)) := hp.2.2
    have eu : mg (sg o (aJ g 1 fo)) u o = some (aJ g 1 fo) := mg_o hUp_s
    have hr := hV
    generalize hbb : decide (sPl s (pqN p0 p1) (pN p2) (pN p3) = none) = bb at hr
    subst hr
    cases bb with
    | false =>
      first | refine j_if_eqB (pc := 12) F 19 dL_allow_12 (by decide) (fun c => ?_) (fun c => ?_) | refine j_if_eqN (pc := 12) F 19 dL_allow_12 (by decide) (by omega) (fun c => ?_) (fun c => ?_) | refine j_if_eqI (pc := 12) F 19 dL_allow_12 (by decide) (fun c => ?_) (fun c => ?_)
      · refine j_lconst (pc := 19) F dL_allow_19 rfl ?_
        refine j_lastN (pc := 20) F (by first | assumption | exact hUp_s) (by omega) (by decide) dL_allow_20 ?_
        rw [mg_up]
        refine j_goto (pc := 21) F 32 dL_allow_21 (by decide) ?_
        refine j_iconst (pc := 32) (v := (nI 0)) F dL_allow_32 (by decide) ?_
        exact j_iret F hQ rfl rfl (by omega) (by omega) dL_allow_33 ⟨u, _, rfl, dj_sg dju, by rw [ec], fun _ => ⟨bI false, by rw [hbb], rfl⟩, by rw [ec]; exact hBu⟩
      · cases c
    | true =>
      first | refine j_if_eqB (pc := 12) F 19 dL_allow_12 (by decide) (fun c => ?_) (fun c => ?_) | refine j_if_eqN (pc := 12) F 19 dL_allow_12 (by decide) (by omega) (fun c => ?_) (fun c => ?_) | refine j_if_eqI (pc := 12) F 19 dL_allow_12 (by decide) (fun c => ?_) (fun c => ?_)
      · cases c
      · refine j_lconst (pc := 15) F dL_allow_15 rfl ?_
        refine j_goto (pc := 16) F 20 dL_allow_16 (by decide) ?_
        refine j_lastN (pc := 20) F (by first | assumption | exact hUp_s) (by omega) (by decide) dL_allow_20 ?_
        rw [mg_up]
        refine j_goto (pc := 21) F 32 dL_allow_21 (by decide) ?_
        refine j_iconst (pc := 32) (v := (nI 0)) F dL_allow_32 (by decide) ?_
        exact j_iret F hQ rfl rfl (by omega) (by omega) dL_allow_33 ⟨u, _, rfl, dj_sg dju, by rw [ec], fun _ => ⟨bI true, by rw [hbb], rfl⟩, by rw [ec]; exact hBu⟩
theorem wq_verdict : Cond.codeWith yL_verdict cL_verdict 6 (some .int) [(0, 12, 15, 24), (0, 12, 19, 13), (0, 12, 23, 30)] ∈ wU := wU_at 702 (by decide +kernel) rfl
theorem wt_verdict : Cond.static yL_verdict ∈ wU := wU_at 701 (by decide +kernel) rfl
theorem w_verdict (hst : l.stackTraces = false) {p0 p1 p2 : Int32} (hB : isB g hc x s) (dj0 : dj (sg o (aJ g 1 fo)) hc) : WI l g A (mg (sg o (aJ g 1 fo)) hc) yL_verdict cL_verdict 6 [(0, 12, 15, 24), (0, 12, 19, 13), (0, 12, 23, 30)] 9 3 18 ([.ref x, .int p0, .int p1, .int p2, .ref o]) (fun r h1 => WQ g x o (rcode s p0 p1 p2) (fun r => ∃ v, tb (sD s) (sm s) (pN p0) (pqN p1 p2) = some v ∧ r = vVerd s v) (nxt (rcode s p0 p1 p2) (s) s) r h1) := by
  have hB2 := hB
  obtain ⟨pm, am, tr, hi, rg, rl, T, E, kc, K, hBx⟩ := hB2
  have e0 := hBx.1
  refine jw_met (by decide +kernel) (Nat.le_of_ble_eq_true rfl) (fun X F htab hN hQ => ?_)
  have eo : mg (sg o (aJ g 1 fo)) hc o = some (aJ g 1 fo) := mg_o hUp_s
  first | refine j_aload (pc := 0) F dL_verdict_0 rfl ?_ | refine j_aloadq (pc := 0) F dL_verdict_0 rfl ?_
  refine j_iconst (pc := 2) (v := (nI 0)) F dL_verdict_2 (by decide) ?_
  first | refine j_aload_n (pc := 3) F dL_verdict_3 rfl ?_ | refine j_aload_nq (pc := 3) F dL_verdict_3 rfl ?_
  refine j_iload_n (pc := 4) F dL_verdict_4 rfl ?_
  refine j_iload_n (pc := 5) F dL_verdict_5 rfl ?_
  refine j_iload_n (pc := 6) F dL_verdict_6 rfl ?_
  refine jfx_ri (jfx_runV (pc := 7) F dj0 (c_X8_verdict (A := Ac A (sg o (aJ g 1 fo))) hst hB) m_X8_verdict mv_X8_verdict lk_L_62 e0 rfl ⟨by decide, by decide⟩ (Nat.le_of_ble_eq_true rfl) ⟨by omega, by omega⟩ rfl dL_verdict_7) (fun E u hp dju => ?_) (fun r u hp dju => ?_)
  · have hx : nm [IOOB, IAE, NSEE] (rcode s p0 p1 p2) E := hp.1
    have hBu : isB g u x s := hp.2
    rcases nm3 hx with ⟨hc1, rfl⟩ | ⟨hc1, rfl⟩ | ⟨hc1, rfl⟩
    · refine j_catch F [] ⟨0, 12, 15, 24⟩ [⟨0, 12, 19, 13⟩, ⟨0, 12, 23, 30⟩] (htab.trans rfl) (fun z hz => nomatch hz) (by decide) (by decide) lc_L_24 cs_16 (fun q => ?_)
      first | refine j_astore (pc := 15) F dL_verdict_15 (by decide) ?_ | refine j_astoreq (pc := 15) F dL_verdict_15 (by decide) ?_ | refine j_astoreN (pc := 15) F dL_verdict_15 (by decide) ?_
      refine j_iconst (pc := 17) (v := (nI 1)) F dL_verdict_17 (by decide) ?_
      exact j_iret F hQ rfl rfl (by omega) (by omega) dL_verdict_18 ⟨u, fo, rfl, dju, by rw [hc1], fun e => by omega, by rw [hc1]; exact hBu⟩
    · refine j_catch F [⟨0, 12, 15, 24⟩] ⟨0, 12, 19, 13⟩ [⟨0, 12, 23, 30⟩] (htab.trans rfl) (fun z hz => by rw [List.mem_singleton.mp hz]; exact (Or.inr ⟨by decide, IOOB, lc_L_24, hN.1⟩)) (by decide) (by decide) lc_L_13 cs_8 (fun q => ?_)
      first | refine j_astore (pc := 19) F dL_verdict_19 (by decide) ?_ | refine j_astoreq (pc := 19) F dL_verdict_19 (by decide) ?_ | refine j_astoreN (pc := 19) F dL_verdict_19 (by decide) ?_
      refine j_iconst (pc := 21) (v := (nI 2)) F dL_verdict_21 (by decide) ?_
      exact j_iret F hQ rfl rfl (by omega) (by omega) dL_verdict_22 ⟨u, fo, rfl, dju, by rw [hc1], fun e => by omega, by rw [hc1]; exact hBu⟩
    · refine j_catch F [⟨0, 12, 15, 24⟩, ⟨0, 12, 19, 13⟩] ⟨0, 12, 23, 30⟩ [] (htab.trans rfl) (fun z hz => (List.mem_cons.mp hz).elim (fun e => by rw [e]; exact (Or.inr ⟨by decide, IOOB, lc_L_24, hN.2.2.1⟩)) (fun hz => by rw [List.mem_singleton.mp hz]; exact (Or.inr ⟨by decide, IAE, lc_L_13, hN.2.2.2.2.1⟩))) (by decide) (by decide) lc_L_30 cs_35 (fun q => ?_)
      first | refine j_astore (pc := 23) F dL_verdict_23 (by decide) ?_ | refine j_astoreq (pc := 23) F dL_verdict_23 (by decide) ?_ | refine j_astoreN (pc := 23) F dL_verdict_23 (by decide) ?_
      refine j_iconst (pc := 25) (v := (nI 3)) F dL_verdict_25 (by decide) ?_
      exact j_iret F hQ rfl rfl (by omega) (by omega) dL_verdict_26 ⟨u, fo, rfl, dju, by rw [hc1], fun e => by omega, by rw [hc1]; exact hBu⟩
  · have ec : rcode s p0 p1 p2 = 0 := hp.1
    have hV : ∃ v, tb (sD s) (sm s) (pN p0) (pqN p1 p2) = some v ∧ r = vVerd s v := hp.2.1
    have hBu : isB g u x (s) := hp.2.2
    have eu : mg (sg o (aJ g 1 fo)) u o = some (aJ g 1 fo) := mg_o hUp_s
    refine j_i2l (pc := 10) F dL_verdict_10 ?_
    refine j_lastN (pc := 11) F (by first | assumption | exact hUp_s) (by omega) (by decide) dL_verdict_11 ?_
    rw [mg_up]
    refine j_goto (pc := 12) F 27 dL_verdict_12 (by decide) ?_
    refine j_iconst (pc := 27) (v := (nI 0)) F dL_verdict_27 (by decide) ?_
    exact j_iret F hQ rfl rfl (by omega) (by omega) dL_verdict_28 ⟨u, _, rfl, dj_sg dju, by rw [ec], fun _ => ⟨r, hV, rfl⟩, by rw [ec]; exact hBu⟩
theorem wq_valley : Cond.codeWith yL_valley cL_valley 6 (some .int) [(0, 12, 15, 24), (0, 12, 19, 13), (0, 12, 23, 30)] ∈ wU := wU_at 747 (by decide +kernel) rfl
theorem wt_valley : Cond.static yL_valley ∈ wU := wU_at 746 (by decide +kernel) rfl
theorem w_valley (hst : l.stackTraces = false) (w : wf s) {p0 p1 p2 : Int32} (hB : isB g hc x s) (dj0 : dj (sg o (aJ g 1 fo)) hc) : WI l g A (mg (sg o (aJ g 1 fo)) hc) yL_valley cL_valley 6 [(0, 12, 15, 24), (0, 12, 19, 13), (0, 12, 23, 30)] 9 3 18 ([.ref x, .int p0, .int p1, .int p2, .ref o]) (fun r h1 => WQ g x o (rcode s p0 p1 p2) (fun r => ∃ v, tb (sD s) (sm s) (pN p0) (pqN p1 p2) = some v ∧ r = vVal s v) (nxt (rcode s p0 p1 p2) (s) s) r h1) := by
  have hB2 := hB
  obtain ⟨pm, am, tr, hi, rg, rl, T, E, kc, K, hBx⟩ := hB2
  have e0 := hBx.1
  refine jw_met (by decide +kernel) (Nat.le_of_ble_eq_true rfl) (fun X F htab hN hQ => ?_)
  have eo : mg (sg o (aJ g 1 fo)) hc o = some (aJ g 1 fo) := mg_o hUp_s
  first | refine j_aload (pc := 0) F dL_valley_0 rfl ?_ | refine j_aloadq (pc := 0) F dL_valley_0 rfl ?_
  refine j_iconst (pc := 2) (v := (nI 0)) F dL_valley_2 (by decide) ?_
  first | refine j_aload_n (pc := 3) F dL_valley_3 rfl ?_ | refine j_aload_nq (pc := 3) F dL_valley_3 rfl ?_
  refine j_iload_n (pc := 4) F dL_valley_4 rfl ?_
  refine j_iload_n (pc := 5) F dL_valley_5 rfl ?_
  refine j_iload_n (pc := 6) F dL_valley_6 rfl ?_
  refine jfx_ri (jfx_runV (pc := 7) F dj0 (c_X8_valley (A := Ac A (sg o (aJ g 1 fo))) hst w hB) m_X8_valley mv_X8_valley lk_L_68 e0 rfl ⟨by decide, by decide⟩ (Nat.le_of_ble_eq_true rfl) ⟨by omega, by omega⟩ rfl dL_valley_7) (fun E u hp dju => ?_) (fun r u hp dju => ?_)
  · have hx : nm [IOOB, IAE, NSEE] (rcode s p0 p1 p2) E := hp.1
    have hBu : isB g u x s := hp.2
    rcases nm3 hx with ⟨hc1, rfl⟩ | ⟨hc1, rfl⟩ | ⟨hc1, rfl⟩
    · refine j_catch F [] ⟨0, 12, 15, 24⟩ [⟨0, 12, 19, 13⟩, ⟨0, 12, 23, 30⟩] (htab.trans rfl) (fun z hz => nomatch hz) (by decide) (by decide) lc_L_24 cs_16 (fun q => ?_)
      first | refine j_astore (pc := 15) F dL_valley_15 (by decide) ?_ | refine j_astoreq (pc := 15) F dL_valley_15 (by decide) ?_ | refine j_astoreN (pc := 15) F dL_valley_15 (by decide) ?_
      refine j_iconst (pc := 17) (v := (nI 1)) F dL_valley_17 (by decide) ?_
      exact j_iret F hQ rfl rfl (by omega) (by omega) dL_valley_18 ⟨u, fo, rfl, dju, by rw [hc1], fun e => by omega, by rw [hc1]; exact hBu⟩
    · refine j_catch F [⟨0, 12, 15, 24⟩] ⟨0, 12, 19, 13⟩ [⟨0, 12, 23, 30⟩] (htab.trans rfl) (fun z hz => by rw [List.mem_singleton.mp hz]; exact (Or.inr ⟨by decide, IOOB, lc_L_24, hN.1⟩)) (by decide) (by decide) lc_L_13 cs_8 (fun q => ?_)
      first | refine j_astore (pc := 19) F dL_valley_19 (by decide) ?_ | refine j_astoreq (pc := 19) F dL_valley_19 (by decide) ?_ | refine j_astoreN (pc := 19) F dL_valley_19 (by decide) ?_
      refine j_iconst (pc := 21) (v := (nI 2)) F dL_valley_21 (by decide) ?_
      exact j_iret F hQ rfl rfl (by omega) (by omega) dL_valley_22 ⟨u, fo, rfl, dju, by rw [hc1], fun e => by omega, by rw [hc1]; exact hBu⟩
    · refine j_catch F [⟨0, 12, 15, 24⟩, ⟨0, 12, 19, 13⟩] ⟨0, 12, 23, 30⟩ [] (htab.trans rfl) (fun z hz => (List.mem_cons.mp hz).elim (fun e => by rw [e]; exact (Or.inr ⟨by decide, IOOB, lc_L_24, hN.2.2.1⟩)) (fun hz => by rw [List.mem_singleton.mp hz]; exact (Or.inr ⟨by decide, IAE, lc_L_13, hN.2.2.2.2.1⟩))) (by decide) (by decide) lc_L_30 cs_35 (fun q => ?_)
      first | refine j_astore (pc := 23) F dL_valley_23 (by decide) ?_ | refine j_astoreq (pc := 23) F dL_valley_23 (by decide) ?_ | refine j_astoreN (pc := 23) F dL_valley_23 (by decide) ?_
      refine j_iconst (pc := 25) (v := (nI 3)) F dL_valley_25 (by decide) ?_
      exact j_iret F hQ rfl rfl (by omega) (by omega) dL_valley_26 ⟨u, fo, rfl, dju, by rw [hc1], fun e => by omega, by rw [hc1]; exact hBu⟩
  · have ec : rcode s p0 p1 p2 = 0 := hp.1
    have hV : ∃ v, tb (sD s) (sm s) (pN p0) (pqN p1 p2) = some v ∧ r = vVal s v := hp.2.1
    have hBu : isB g u x (s) := hp.2.2
    have eu : mg (sg o (aJ g 1 fo)) u o = some (aJ g 1 fo) := mg_o hUp_s
    refine j_i2l (pc := 10) F dL_valley_10 ?_
    refine j_lastN (pc := 11) F (by first | assumption | exact hUp_s) (by omega) (by decide) dL_valley_11 ?_
    rw [mg_up]
    refine j_goto (pc := 12) F 27 dL_valley_12 (by decide) ?_
    refine j_iconst (pc := 27) (v := (nI 0)) F dL_valley_27 (by decide) ?_
    exact j_iret F hQ rfl rfl (by omega) (by omega) dL_valley_28 ⟨u, _, rfl, dj_sg dju, by rw [ec], fun _ => ⟨r, hV, rfl⟩, by rw [ec]; exact hBu⟩
theorem wq_lookUpAt : Cond.codeWith yL_lookUpAt cL_lookUpAt 5 (some .int) [(0, 10, 13, 24)] ∈ wU := wU_at 761 (by decide +kernel) rfl
theorem wt_lookUpAt : Cond.static yL_lookUpAt ∈ wU := wU_at 760 (by decide +kernel) rfl
theorem w_lookUpAt (hst : l.stackTraces = false) (w : wf s) {p0 p1 : Int32} (hB : isB g hc x s) (dj0 : dj (sg o (aJ g 1 fo)) hc) : WI l g A (mg (sg o (aJ g 1 fo)) hc) yL_lookUpAt cL_lookUpAt 5 [(0, 10, 13, 24)] 9 3 18 ([.ref x, .int p0, .int p1, .ref o]) (fun r h1 => WQ g x o (a1code p1) (fun r => r = vLook s (cAt s p0) p1) (nxt (a1code p1) (s) s) r h1) := by
  have hB2 := hB
  obtain ⟨pm, am, tr, hi, rg, rl, T, E, kc, K, hBx⟩ := hB2
  have e0 := hBx.1
  refine jw_met (by decide +kernel) (Nat.le_of_ble_eq_true rfl) (fun X F htab hN hQ => ?_)
  have eo : mg (sg o (aJ g 1 fo)) hc o = some (aJ g 1 fo) := mg_o hUp_s
  first | refine j_aload_n (pc := 0) F dL_lookUpAt_0 rfl ?_ | refine j_aload_nq (pc := 0) F dL_lookUpAt_0 rfl ?_
  refine j_iconst (pc := 1) (v := (nI 0)) F dL_lookUpAt_1 (by decide) ?_
  first | refine j_aload_n (pc := 2) F dL_lookUpAt_2 rfl ?_ | refine j_aload_nq (pc := 2) F dL_lookUpAt_2 rfl ?_
  refine j_iload_n (pc := 3) F dL_lookUpAt_3 rfl ?_
  refine j_iload_n (pc := 4) F dL_lookUpAt_4 rfl ?_
  refine jfx_ri (jfx_runV (pc := 5) F dj0 (c_X8_lookUpAt (A := Ac A (sg o (aJ g 1 fo))) hst w hB) m_X8_lookUpAt mv_X8_lookUpAt lk_L_71 e0 rfl ⟨by decide, by decide⟩ (Nat.le_of_ble_eq_true rfl) ⟨by omega, by omega⟩ rfl dL_lookUpAt_5) (fun E u hp dju => ?_) (fun r u hp dju => ?_)
  · have hx : nm [IOOB] (a1code p1) E := by
      have ec : a1code p1 = 1 := by rw [a1code, if_neg (by rw [hp.1]; simp)]
      have hE : E = IOOB := hp.2.1
      rw [ec, hE]; exact ⟨by decide, rfl⟩
    have hBu : isB g u x s := hp.2.2
    obtain ⟨hc1, rfl⟩ := nm1 hx
    refine j_catch F [] ⟨0, 10, 13, 24⟩ [] (htab.trans rfl) (fun z hz => nomatch hz) (by decide) (by decide) lc_L_24 cs_16 (fun q => ?_)
    first | refine j_astore (pc := 13) F dL_lookUpAt_13 (by decide) ?_ | refine j_astoreq (pc := 13) F dL_lookUpAt_13 (by decide) ?_ | refine j_astoreN (pc := 13) F dL_lookUpAt_13 (by decide) ?_
    refine j_iconst (pc := 15) (v := (nI 1)) F dL_lookUpAt_15 (by decide) ?_
    exact j_iret F hQ rfl rfl (by omega) (by omega) dL_lookUpAt_16 ⟨u, fo, rfl, dju, by rw [hc1], fun e => by omega, by rw [hc1]; exact hBu⟩
  · have ec : a1code p1 = 0 := if_pos hp.1
    have hV : r = vLook s (cAt s p0) p1 := hp.2.1
    have hBu : isB g u x (s) := hp.2.2
    have eu : mg (sg o (aJ g 1 fo)) u o = some (aJ g 1 fo) := mg_o hUp_s
    refine j_i2l (pc := 8) F dL_lookUpAt_8 ?_
    refine j_lastN (pc := 9) F (by first | assumption | exact hUp_s) (by omega) (by decide) dL_lookUpAt_9 ?_
    rw [mg_up]
    refine j_goto (pc := 10) F 17 dL_lookUpAt_10 (by decide) ?_
    refine j_iconst (pc := 17) (v := (nI 0)) F dL_lookUpAt_17 (by decide) ?_
    exact j_iret F hQ rfl rfl (by omega) (by omega) dL_lookUpAt_18 ⟨u, _, rfl, dj_sg dju, by rw [ec], fun _ => ⟨r, hV, rfl⟩, by rw [ec]; exact hBu⟩
theorem wq_originAt : Cond.codeWith yL_originAt cL_originAt 5 (some .int) [(0, 10, 13, 24)] ∈ wU := wU_at 768 (by decide +kernel) rfl
theorem wt_originAt : Cond.static yL_originAt ∈ wU := wU_at 767 (by decide +kernel) rfl
theorem w_originAt (hst : l.stackTraces = false) (w : wf s) {p0 p1 : Int32} (hB : isB g hc x s) (dj0 : dj (sg o (aJ g 1 fo)) hc) : WI l g A (mg (sg o (aJ g 1 fo)) hc) yL_originAt cL_originAt 5 [(0, 10, 13, 24)] 9 3 18 ([.ref x, .int p0, .int p1, .ref o]) (fun r h1 => WQ g x o (a1code p1) (fun r => r = vOrg s (cAt s p0) p1) (nxt (a1code p1) (s) s) r h1) := by
  have hB2 := hB
  obtain ⟨pm, am, tr, hi, rg, rl, T, E, kc, K, hBx⟩ := hB2
  have e0 := hBx.1
  refine jw_met (by decide +kernel) (Nat.le_of_ble_eq_true rfl) (fun X F htab hN hQ => ?_)
  have eo : mg (sg o (aJ g 1 fo)) hc o = some (aJ g 1 fo) := mg_o hUp_s
  first | refine j_aload_n (pc := 0) F dL_originAt_0 rfl ?_ | refine j_aload_nq (pc := 0) F dL_originAt_0 rfl ?_
  refine j_iconst (pc := 1) (v := (nI 0)) F dL_originAt_1 (by decide) ?_
  first | refine j_aload_n (pc := 2) F dL_originAt_2 rfl ?_ | refine j_aload_nq (pc := 2) F dL_originAt_2 rfl ?_
  refine j_iload_n (pc := 3) F dL_originAt_3 rfl ?_
  refine j_iload_n (pc := 4) F dL_originAt_4 rfl ?_
  refine jfx_ri (jfx_runV (pc := 5) F dj0 (c_X8_originAt (A := Ac A (sg o (aJ g 1 fo))) hst w hB) m_X8_originAt mv_X8_originAt lk_L_74 e0 rfl ⟨by decide, by decide⟩ (Nat.le_of_ble_eq_true rfl) ⟨by omega, by omega⟩ rfl dL_originAt_5) (fun E u hp dju => ?_) (fun r u hp dju => ?_)
  · have hx : nm [IOOB] (a1code p1) E := by
      have ec : a1code p1 = 1 := by rw [a1code, if_neg (by rw [hp.1]; simp)]
      have hE : E = IOOB := hp.2.1
      rw [ec, hE]; exact ⟨by decide, rfl⟩
    have hBu : isB g u x s := hp.2.2
    obtain ⟨hc1, rfl⟩ := nm1 hx
    refine j_catch F [] ⟨0, 10, 13, 24⟩ [] (htab.trans rfl) (fun z hz => nomatch hz) (by decide) (by decide) lc_L_24 cs_16 (fun q => ?_)
    first | refine j_astore (pc := 13) F dL_originAt_13 (by decide) ?_ | refine j_astoreq (pc := 13) F dL_originAt_13 (by decide) ?_ | refine j_astoreN (pc := 13) F dL_originAt_13 (by decide) ?_
    refine j_iconst (pc := 15) (v := (nI 1)) F dL_originAt_15 (by decide) ?_
    exact j_iret F hQ rfl rfl (by omega) (by omega) dL_originAt_16 ⟨u, fo, rfl, dju, by rw [hc1], fun e => by omega, by rw [hc1]; exact hBu⟩
  · have ec : a1code p1 = 0 := if_pos hp.1
    have hV : r = vOrg s (cAt s p0) p1 := hp.2.1
    have hBu : isB g u x (s) := hp.2.2
    have eu : mg (sg o (aJ g 1 fo)) u o = some (aJ g 1 fo) := mg_o hUp_s
    refine j_i2l (pc := 8) F dL_originAt_8 ?_
    refine j_lastN (pc := 9) F (by first | assumption | exact hUp_s) (by omega) (by decide) dL_originAt_9 ?_
    rw [mg_up]
    refine j_goto (pc := 10) F 17 dL_originAt_10 (by decide) ?_
    refine j_iconst (pc := 17) (v := (nI 0)) F dL_originAt_17 (by decide) ?_
    exact j_iret F hQ rfl rfl (by omega) (by omega) dL_originAt_18 ⟨u, _, rfl, dj_sg dju, by rw [ec], fun _ => ⟨r, hV, rfl⟩, by rw [ec]; exact hBu⟩
end LW
