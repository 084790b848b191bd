theorem sub5 {L : Nat} (h : L ≤ 2560) : (nI L - nI 5).toInt = (L : Int) - 5 := by
  by_cases c : 5 ≤ L
  · rw [pk_sub c, nI_toInt (by omega)]; omega
  · have : ∀ a, a < 5 → (nI a - nI 5).toInt = (a : Int) - 5 := by decide +kernel
    exact this L (by omega)
section LL
variable {l : Launch} {g : GG} {p : Program} {e : Env} {s : State} {m : MethodId} {below : List Frame} {meth : Method} {c : Code} {b L : Nat} {xs : Nat → Int32} {x y o : Nat}
theorem law_loop (hst : l.stackTraces = false) {X : Cx} (eX : X = (p, e, room_1, s, m, #[.ref b], below, meth, c, lw_Z below #[.ref b] s)) (F : Fx l X g (fun q : Nat => s.heap.size ≤ q) RL cL_law 7 (some .boolean) 12 601024 7293034) (hN : NC (xS X)) (hX : va_X b L xs (xS X) (xS X).heap) (hbl : b < s.heap.size) (hL : L ≤ 2560) : ∀ (n it : Nat) (σ : SG) (h : HF) (lv : List (Nat × Value)), L < 5 * it + 5 * n → 5 * it ≤ L → LI g x y o σ h → lall lv (LV b x y o (5 * it)) → J l X g (fun q : Nat => s.heap.size ≤ q) 7 (70 + 8 * it) (20400 + 48 * it) h 23 lv [] := by
  have hbA : ¬ (fun q : Nat => s.heap.size ≤ q) b := Nat.not_le.mpr hbl
  have hbl2 : b < (xS X).heap.size := by rw [eX]; exact hbl
  intro n
  induction n with
  | zero => intro it σ h lv q1 q2; omega
  | succ n ih =>
    intro it σ h lv q1 q2 I q4
    refine j_lv _ q4 ?_
    refine j_iload (pc := 23) F dL_law_23 rfl ?_
    first | refine j_aload_n (pc := 25) F dL_law_25 rfl ?_ | refine j_aload_nq (pc := 25) F dL_law_25 rfl ?_
    refine j_slen (pc := 26) F hX hbl2 hbA dL_law_26 ?_
    refine j_iconst (pc := 27) (v := (nI 5)) F dL_law_27 (by decide) ?_
    refine j_isub (pc := 28) F dL_law_28 ?_
    have e5 := sub5 hL
    refine j_icmp_gtNI (pc := 29) F 1549 dL_law_29 (by decide) (by omega) (fun c1 => ?_) (fun c1 => ?_)
    · refine j_iconst (pc := 1549) (v := (nI 1)) F dL_law_1549 (by decide) ?_
      intro H locs ls h1 h2 h3
      subst eX
      refine va_forget (fun q hq => h2.2.2 q hq) ?_
      refine W.widen (k := 601024) (n := 7293034) (by omega) (by omega) ?_
      exact lw_ret F.1 F.2.1 F.rt F.lk dL_law_1550
    · first | refine j_aload_n (pc := 32) F dL_law_32 rfl ?_ | refine j_aload_nq (pc := 32) F dL_law_32 rfl ?_
      refine j_iload (pc := 33) F dL_law_33 rfl ?_
      refine j_sld (pc := 35) F hX hbl2 hbA (by omega) hL dL_law_35 ?_
      refine j_bipush (pc := 36) (v := (nI 31)) F dL_law_36 (by decide) ?_
      refine j_iand (pc := 38) F dL_law_38 ?_
      obtain ⟨w, hw, ew⟩ := and31 (xs (5 * it))
      refine j_int ew ?_
      have nx : ∀ (s2 : SG) (h2 : HF) (lv2 : List (Nat × Value)), LI g x y o s2 h2 → lall lv2 (LV b x y o (5 * it)) → J l X g (fun q : Nat => s.heap.size ≤ q) 7 (70 + 8 * it + 8) (20400 + 48 * it + 48) h2 1543 lv2 [] := fun s2 h2 lv2 I2 hl2 => by
        refine j_lv _ hl2 ?_
        refine j_iinc (pc := 1543) F dL_law_1543 rfl (show nI (5 * it) + Int32.ofInt 5 = nI (5 * (it + 1)) from ?_) (by decide) ?_
        · rw [show Int32.ofInt 5 = nI 5 from rfl, nI_add]
          exact congrArg nI (by omega)
        refine j_goto (pc := 1546) F 23 dL_law_1546 (by decide) ?_
        exact j_widen (by omega) (by omega) (ih (it + 1) s2 h2 _ (by omega) (by omega) I2 ⟨rfl, rfl, rfl, rfl, rfl, trivial⟩)
      rcases (show w = 0 ∨ w = 1 ∨ w = 2 ∨ w = 3 ∨ w = 4 ∨ w = 5 ∨ w = 6 ∨ w = 7 ∨ w = 8 ∨ w = 9 ∨ w = 10 ∨ w = 11 ∨ w = 12 ∨ w = 13 ∨ w = 14 ∨ w = 15 ∨ w = 16 ∨ w = 17 ∨ w = 18 ∨ w = 19 ∨ w = 20 ∨ w = 21 ∨ w = 22 ∨ w = 23 ∨ 24 ≤ w by omega) with rfl | rfl | rfl | rfl | rfl | rfl | rfl | rfl | rfl | rfl | rfl | rfl | rfl | rfl | rfl | rfl | rfl | rfl | rfl | rfl | rfl | rfl | rfl | rfl | h24
      · refine j_tableIn (pc := 39) F 148 dL_law_39 (by decide) (by decide) rfl (by decide) ?_
        exact lc_pass hst F hN hX hbl2 hbA hL (by omega) ⟨by omega, by omega⟩ I nx
      · refine j_tableIn (pc := 39) F 204 dL_law_39 (by decide) (by decide) rfl (by decide) ?_
        exact lc_now hst F hN hX hbl2 hbA hL (by omega) ⟨by omega, by omega⟩ I nx
      · refine j_tableIn (pc := 39) F 217 dL_law_39 (by decide) (by decide) rfl (by decide) ?_
        exact lc_hop hst F hN hX hbl2 hbA hL (by omega) ⟨by omega, by omega⟩ I nx
      · refine j_tableIn (pc := 39) F 273 dL_law_39 (by decide) (by decide) rfl (by decide) ?_
        exact lc_clearPath hst F hN hX hbl2 hbA hL (by omega) ⟨by omega, by omega⟩ I nx
      · refine j_tableIn (pc := 39) F 286 dL_law_39 (by decide) (by decide) rfl (by decide) ?_
        exact lc_announce hst F hN hX hbl2 hbA hL (by omega) ⟨by omega, by omega⟩ I nx
      · refine j_tableIn (pc := 39) F 373 dL_law_39 (by decide) (by decide) rfl (by decide) ?_
        exact lc_withdraw hst F hN hX hbl2 hbA hL (by omega) ⟨by omega, by omega⟩ I nx
      · refine j_tableIn (pc := 39) F 453 dL_law_39 (by decide) (by decide) rfl (by decide) ?_
        exact lc_drop hst F hN hX hbl2 hbA hL (by omega) ⟨by omega, by omega⟩ I nx
      · refine j_tableIn (pc := 39) F 509 dL_law_39 (by decide) (by decide) rfl (by decide) ?_
        exact lc_updates hst F hN hX hbl2 hbA hL (by omega) ⟨by omega, by omega⟩ I nx
      · refine j_tableIn (pc := 39) F 522 dL_law_39 (by decide) (by decide) rfl (by decide) ?_
        exact lc_routes hst F hN hX hbl2 hbA hL (by omega) ⟨by omega, by omega⟩ I nx
      · refine j_tableIn (pc := 39) F 578 dL_law_39 (by decide) (by decide) rfl (by decide) ?_
        exact lc_prefixes hst F hN hX hbl2 hbA hL (by omega) ⟨by omega, by omega⟩ I nx
      · refine j_tableIn (pc := 39) F 591 dL_law_39 (by decide) (by decide) rfl (by decide) ?_
        exact lc_pathAt hst F hN hX hbl2 hbA hL (by omega) ⟨by omega, by omega⟩ I nx
      · refine j_tableIn (pc := 39) F 683 dL_law_39 (by decide) (by decide) rfl (by decide) ?_
        exact lc_bestPeer hst F hN hX hbl2 hbA hL (by omega) ⟨by omega, by omega⟩ I nx
      · refine j_tableIn (pc := 39) F 751 dL_law_39 (by decide) (by decide) rfl (by decide) ?_
        exact lc_lookUp hst F hN hX hbl2 hbA hL (by omega) ⟨by omega, by omega⟩ I nx
      · refine j_tableIn (pc := 39) F 807 dL_law_39 (by decide) (by decide) rfl (by decide) ?_
        exact lc_lookUpByScan hst F hN hX hbl2 hbA hL (by omega) ⟨by omega, by omega⟩ I nx
      · refine j_tableIn (pc := 39) F 863 dL_law_39 (by decide) (by decide) rfl (by decide) ?_
        exact lc_origins hst F hN hX hbl2 hbA hL (by omega) ⟨by omega, by omega⟩ I nx
      · refine j_tableIn (pc := 39) F 931 dL_law_39 (by decide) (by decide) rfl (by decide) ?_
        exact lc_contested hst F hN hX hbl2 hbA hL (by omega) ⟨by omega, by omega⟩ I nx
      · refine j_tableIn (pc := 39) F 944 dL_law_39 (by decide) (by decide) rfl (by decide) ?_
        exact lc_isHijack hst F hN hX hbl2 hbA hL (by omega) ⟨by omega, by omega⟩ I nx
      · refine j_tableIn (pc := 39) F 1031 dL_law_39 (by decide) (by decide) rfl (by decide) ?_
        exact lc_allow hst F hN hX hbl2 hbA hL (by omega) ⟨by omega, by omega⟩ I nx
      · refine j_tableIn (pc := 39) F 1130 dL_law_39 (by decide) (by decide) rfl (by decide) ?_
        exact lc_verdict hst F hN hX hbl2 hbA hL (by omega) ⟨by omega, by omega⟩ I nx
      · refine j_tableIn (pc := 39) F 1210 dL_law_39 (by decide) (by decide) rfl (by decide) ?_
        exact lc_relate hst F hN hX hbl2 hbA hL (by omega) ⟨by omega, by omega⟩ I nx
      · refine j_tableIn (pc := 39) F 1290 dL_law_39 (by decide) (by decide) rfl (by decide) ?_
        exact lc_valley hst F hN hX hbl2 hbA hL (by omega) ⟨by omega, by omega⟩ I nx
      · refine j_tableIn (pc := 39) F 1370 dL_law_39 (by decide) (by decide) rfl (by decide) ?_
        exact lc_lookUpAt hst F hN hX hbl2 hbA hL (by omega) ⟨by omega, by omega⟩ I nx
      · refine j_tableIn (pc := 39) F 1438 dL_law_39 (by decide) (by decide) rfl (by decide) ?_
        exact lc_originAt hst F hN hX hbl2 hbA hL (by omega) ⟨by omega, by omega⟩ I nx
      · refine j_tableIn (pc := 39) F 1506 dL_law_39 (by decide) (by decide) rfl (by decide) ?_
        exact lc_changes hst F hN hX hbl2 hbA hL (by omega) ⟨by omega, by omega⟩ I nx
      · refine j_tableOut (pc := 39) F 1543 dL_law_39 (Or.inr ?_) (by decide) ?_
        · rw [nI_toInt (by omega)]; omega
        · exact j_widen (by omega) (by omega) (nx σ h _ I ⟨rfl, rfl, rfl, rfl, rfl, trivial⟩)
end LL
