/-! ===== Bgpreplay: the calls that change it, without the updates ===== -/
def tcode (s : SG) (v : Int32) : Nat := if 1 ≤ v.toInt ∧ v.toInt ≤ 1000 then (if 1000000 < sT s + pN v then 2 else 0) else 1
def hcode (s : SG) (v : Int32) : Nat := if okNet v = true then (if 8 ≤ sz s ∨ pLeft (sz s) (sN s) v = true then 2 else 0) else 1
def revN (v : Nat) : Nat := if v = 1 then 3 else if v = 3 then 1 else v
def lcode (a b v : Int32) : Nat := if okNet a = true ∧ okNet b = true ∧ ¬ a = b ∧ 0 ≤ v.toInt ∧ v.toInt ≤ 3 then 0 else 1
def sPass (s : SG) (v : Nat) : SG := (sT s + v, s.2)
def sHop (s : SG) (v : Nat) : SG := (sT s, (sz s + 1, fun j => if j = sz s then v else sN s j), s.2.2)
def sClr (s : SG) : SG := (sT s, (0, sN s), s.2.2)
def sRel (s : SG) (i j v : Nat) : SG := (sT s, s.2.1, s.2.2.1, s.2.2.2.1, rUp (rUp (sM s) i j v) j i (revN v))
theorem kd_o {ci : Nat} {fs : List Value} : kd (.inr (ci, fs)) = (0, ci) := rfl
section BM
variable {l : Launch} {g : GG} {A : Nat → Prop} {h h1 : HF} {x : Nat} {s : SG} {pm am tr hi rg rl : Nat} {T : RF} {E : Nat → Nat} {kc : Nat} {K : Nat → Nat}
/-- another path in the place of the one being made -/
theorem bx_pm {z2 : Nat} {N2 : Nat → Nat} (hB : isBx g h x s pm am tr hi rg rl T E kc K) (hp : isPath g h1 pm am z2 N2) (hf : ∀ b, b ≠ pm → b ≠ am → h1 b = h b) : isBx g h1 x (sT s, (z2, N2), s.2.2) pm am tr hi rg rl T E kc K := by
  obtain ⟨e0, e1, e2, e3, e4, e5, e6, e7⟩ := hB
  obtain ⟨r, y1, y2, -⟩ := e1
  have k : fk [(0, 2), (1, 8)] h h1 := fun b e hb hne => (hf b (kd_ne hb hne y1 (by simp [kd])) (kd_ne hb hne y2 (by simp [kd]))).trans hb
  refine ⟨k _ _ e0 (by simp [kd]), hp, e2.fk k (by decide), e3.fk k (by decide), e4.fk k (by decide), e5.fk k (by decide), fun j hj => ?_, e7⟩
  obtain ⟨⟨w1, w2, w3⟩, d1, d2, d3, n1, n2, d4⟩ := e6 j hj
  obtain ⟨r2, v1, v2, -⟩ := id w3
  refine ⟨⟨k _ _ w1 (by simp [kd]), k _ _ w2 (by simp [kd]), w3.at (hf _ n1 (kd_n2 v1 y2 (by simp [kd]))) (hf _ (kd_n2 v2 y1 (by simp [kd])) n2)⟩, d1, d2, d3, n1, n2, d4⟩
theorem bx_t {t : Nat} (hB : isBx g h x s pm am tr hi rg rl T E kc K) (e : h1 x = some (.inr (8, [.ref pm, .ref tr, .ref hi, .ref rg, .ref rl, .int (nI t)]))) (hf : ∀ b, b ≠ x → h1 b = h b) : isBx g h1 x (t, s.2) pm am tr hi rg rl T E kc K := by
  obtain ⟨e0, e1, e2, e3, e4, e5, e6, e7⟩ := hB
  have k : fk [(0, 8)] h h1 := fun b z hb hne => (hf b (kd_ne hb hne e0 (by simp [kd]))).trans hb
  exact ⟨e, e1.fk k (by decide) (by decide), e2.fk k (by decide), e3.fk k (by decide), e4.fk k (by decide), e5.fk k (by decide), e6.fk k (by decide), e7⟩
theorem c_X8_pass (hst : l.stackTraces = false) {v : Int32} (w : wf s) (hB : isB g h x s) : XI l g A h yX8_pass cX8_pass 2 (some .int) 8 3 18 [.ref x, .int v] (fun r h1 => tcode s v = 0 ∧ r = nI (sT s + pN v) ∧ isB g h1 x (sPass s (pN v))) (fun u => nm [IAE, ISE] (tcode s v) u.2 ∧ isB g u.1 x s) := by
  have hB' := hB
  obtain ⟨pm, am, tr, hi, rg, rl, T, E, kc, K, hB⟩ := hB
  have e0 := hB.1
  have wt := w.1
  by_cases c0 : 1 ≤ v.toInt ∧ v.toInt ≤ 1000
  · obtain ⟨k, rfl, k1⟩ : ∃ k, v = nI k ∧ 1 ≤ k ∧ k ≤ 1000 := ⟨pN v, (nI_pN (by omega)).symm, by unfold pN; omega⟩
    have ek := pN_nI (show k < 2 ^ 31 by omega)
    refine jx_met (by decide +kernel) (Nat.le_of_ble_eq_true rfl) (fun X F hex hQ => ?_)
    refine j_iload_n (pc := 0) F dX8_pass_0 rfl ?_
    refine j_iconst (pc := 1) (v := (nI 1)) F dX8_pass_1 (by decide) ?_
    first | refine j_icmp_ltN (pc := 2) F 12 dX8_pass_2 (by decide) (by omega) (by omega) (fun c => ?_) (fun c => ?_) | refine j_icmp_ltIN (pc := 2) F 12 dX8_pass_2 (by decide) (by omega) (fun c => ?_) (fun c => ?_) | refine j_icmp_ltNI (pc := 2) F 12 dX8_pass_2 (by decide) (by omega) (fun c => ?_) (fun c => ?_) | refine j_icmp_ltI (pc := 2) F 12 dX8_pass_2 (by decide) (fun c => ?_) (fun c => ?_)
    · omega
    refine j_iload_n (pc := 5) F dX8_pass_5 rfl ?_
    refine j_sipush (pc := 6) (v := (nI 1000)) F dX8_pass_6 (by decide) ?_
    first | refine j_icmp_leN (pc := 9) F 22 dX8_pass_9 (by decide) (by omega) (by omega) (fun c2 => ?_) (fun c2 => ?_) | refine j_icmp_leIN (pc := 9) F 22 dX8_pass_9 (by decide) (by omega) (fun c2 => ?_) (fun c2 => ?_) | refine j_icmp_leNI (pc := 9) F 22 dX8_pass_9 (by decide) (by omega) (fun c2 => ?_) (fun c2 => ?_) | refine j_icmp_leI (pc := 9) F 22 dX8_pass_9 (by decide) (fun c2 => ?_) (fun c2 => ?_)
    · first | refine j_aload_n (pc := 22) F dX8_pass_22 rfl ?_ | refine j_aload_nq (pc := 22) F dX8_pass_22 rfl ?_
      refine j_get (pc := 23) F fg_X8_44 (by first | assumption | exact hUp_s) (by rfl) dX8_pass_23 ?_
      refine j_ldc (pc := 26) F cw_X8_55 dX8_pass_26 ?_
      refine j_int (show _ = nI 1000000 by decide) ?_
      refine j_iload_n (pc := 28) F dX8_pass_28 rfl ?_
      first | refine j_isubN (pc := 29) F dX8_pass_29 (by omega) ?_ | refine j_isub (pc := 29) F dX8_pass_29 ?_
      first | refine j_icmp_leN (pc := 30) F 43 dX8_pass_30 (by decide) (by omega) (by omega) (fun c3 => ?_) (fun c3 => ?_) | refine j_icmp_leIN (pc := 30) F 43 dX8_pass_30 (by decide) (by omega) (fun c3 => ?_) (fun c3 => ?_) | refine j_icmp_leNI (pc := 30) F 43 dX8_pass_30 (by decide) (by omega) (fun c3 => ?_) (fun c3 => ?_) | refine j_icmp_leI (pc := 30) F 43 dX8_pass_30 (by decide) (fun c3 => ?_) (fun c3 => ?_)
      · first | refine j_aload_n (pc := 43) F dX8_pass_43 rfl ?_ | refine j_aload_nq (pc := 43) F dX8_pass_43 rfl ?_
        refine j_dup (pc := 44) F dX8_pass_44 rfl ?_
        refine j_get (pc := 45) F fg_X8_44 (by first | assumption | exact hUp_s) (by rfl) dX8_pass_45 ?_
        refine j_iload_n (pc := 48) F dX8_pass_48 rfl ?_
        first | refine j_iaddN (pc := 49) F dX8_pass_49 ?_ | refine j_iadd (pc := 49) F dX8_pass_49 ?_
        refine j_put (pc := 50) F fp_X8_44 (by first | assumption | exact hUp_s) (by rfl) (by rfl) (Nat.le_of_ble_eq_true rfl) dX8_pass_50 ?_
        first | refine j_aload_n (pc := 53) F dX8_pass_53 rfl ?_ | refine j_aload_nq (pc := 53) F dX8_pass_53 rfl ?_
        refine j_get (pc := 54) F fg_X8_44 (by first | assumption | exact hUp_s) (by rfl) dX8_pass_54 ?_
        exact jx_iret F hQ rfl rfl (by omega) (by omega) dX8_pass_57 ⟨by rw [tcode, if_pos c0, ek, if_neg (by omega)], by rw [ek], pm, am, tr, hi, rg, rl, T, E, kc, K, bx_t hB (by rw [ek]; exact hUp_s) (fun b hb => hUp_n hb)⟩
      · have ec : tcode s (nI k) = 2 := by rw [tcode, if_pos c0, ek, if_pos (by omega)]
        exact j_throwS (pc := 33) F hst hQ hex tw_60 es_58 lc_X8_56 xi_IllegalStateException (by decide) (Nat.le_of_ble_eq_true rfl) ⟨by omega, by omega⟩ dX8_pass_33 dX8_pass_36 dX8_pass_37 dX8_pass_39 dX8_pass_42 (⟨⟨by rw [ec]; decide, by rw [ec]; rfl⟩, hB'⟩)
    · omega
  · have ec : tcode s v = 1 := by rw [tcode, if_neg c0]
    have th : ∀ X : Cx, Fx l X g A RX8 cX8_pass 2 (some .int) 8 3 18 → (∀ x ∈ (xC X).exceptionTable.toList, False) → (xQ X = vx_MQ (xB X) (va_Qi (fun r h1 => tcode s v = 0 ∧ r = nI (sT s + pN v) ∧ isB g h1 x (sPass s (pN v))) (BQ g A) A) (vx_X (fun u => nm [IAE, ISE] (tcode s v) u.2 ∧ isB g u.1 x s) (BX g A) A) (xA X) (xS X) 3 18 A) → ∀ lv, J l X g A 2 0 0 h 12 lv [] := fun X F hex hQ lv => by
      exact j_throwS (pc := 12) F hst hQ hex tw_52 es_50 lc_X8_48 xi_IllegalArgumentException (by decide) (Nat.le_of_ble_eq_true rfl) ⟨by omega, by omega⟩ dX8_pass_12 dX8_pass_15 dX8_pass_16 dX8_pass_18 dX8_pass_21 (⟨⟨by rw [ec]; decide, by rw [ec]; rfl⟩, hB'⟩)
    refine jx_met (by decide +kernel) (Nat.le_of_ble_eq_true rfl) (fun X F hex hQ => ?_)
    refine j_iload_n (pc := 0) F dX8_pass_0 rfl ?_
    refine j_iconst (pc := 1) (v := (nI 1)) F dX8_pass_1 (by decide) ?_
    first | refine j_icmp_ltN (pc := 2) F 12 dX8_pass_2 (by decide) (by omega) (by omega) (fun c => ?_) (fun c => ?_) | refine j_icmp_ltIN (pc := 2) F 12 dX8_pass_2 (by decide) (by omega) (fun c => ?_) (fun c => ?_) | refine j_icmp_ltNI (pc := 2) F 12 dX8_pass_2 (by decide) (by omega) (fun c => ?_) (fun c => ?_) | refine j_icmp_ltI (pc := 2) F 12 dX8_pass_2 (by decide) (fun c => ?_) (fun c => ?_)
    · exact th X F hex hQ _
    refine j_iload_n (pc := 5) F dX8_pass_5 rfl ?_
    refine j_sipush (pc := 6) (v := (nI 1000)) F dX8_pass_6 (by decide) ?_
    first | refine j_icmp_leN (pc := 9) F 22 dX8_pass_9 (by decide) (by omega) (by omega) (fun c2 => ?_) (fun c2 => ?_) | refine j_icmp_leIN (pc := 9) F 22 dX8_pass_9 (by decide) (by omega) (fun c2 => ?_) (fun c2 => ?_) | refine j_icmp_leNI (pc := 9) F 22 dX8_pass_9 (by decide) (by omega) (fun c2 => ?_) (fun c2 => ?_) | refine j_icmp_leI (pc := 9) F 22 dX8_pass_9 (by decide) (fun c2 => ?_) (fun c2 => ?_)
    · omega
    · exact th X F hex hQ _
theorem c_X8_hop (hst : l.stackTraces = false) {v : Int32} (hB : isB g h x s) : XI l g A h yX8_hop cX8_hop 2 (some .int) 8 3 18 [.ref x, .int v] (fun r h1 => hcode s v = 0 ∧ r = nI (sz s + 1) ∧ isB g h1 x (sHop s (pN v))) (fun u => nm [IAE, ISE] (hcode s v) u.2 ∧ isB g u.1 x s) := by
  have hB' := hB
  obtain ⟨pm, am, tr, hi, rg, rl, T, E, kc, K, hB⟩ := hB
  have e0 := hB.1
  have e1 := hB.2.1
  obtain ⟨rr, e2, -⟩ := id e1
  refine jx_met (by decide +kernel) (Nat.le_of_ble_eq_true rfl) (fun X F hex hQ => ?_)
  refine j_iload_n (pc := 0) F dX8_hop_0 rfl ?_
  refine j_ri (j_runS (pc := 1) F (c_X8_isNetwork v) m_X8_isNetwork ms_X8_isNetwork lk_X8_61 ⟨by decide, by decide⟩ (Nat.le_of_ble_eq_true rfl) ⟨by omega, by omega⟩ rfl dX8_hop_1) (fun r h1 hp => ?_)
  obtain ⟨rfl, rfl⟩ := hp
  first | refine j_if_neB (pc := 4) F 17 dX8_hop_4 (by decide) (fun c => ?_) (fun c => ?_) | refine j_if_neN (pc := 4) F 17 dX8_hop_4 (by decide) (by omega) (fun c => ?_) (fun c => ?_) | refine j_if_neI (pc := 4) F 17 dX8_hop_4 (by decide) (fun c => ?_) (fun c => ?_)
  · obtain ⟨n1, n2⟩ := okNet.n c
    first | refine j_aload_n (pc := 17) F dX8_hop_17 rfl ?_ | refine j_aload_nq (pc := 17) F dX8_hop_17 rfl ?_
    refine j_get (pc := 18) F fg_X8_12 (by first | assumption | exact hUp_s) (by rfl) dX8_hop_18 ?_
    refine j_ri (j_runV (pc := 21) F (c_X2_isFull e1) m_X2_isFull mv_X2_isFull lk_X8_67 (by first | assumption | exact hUp_s) rfl ⟨by decide, by decide⟩ (Nat.le_of_ble_eq_true rfl) ⟨by omega, by omega⟩ rfl dX8_hop_21) (fun r h1 hp => ?_)
    obtain ⟨rfl, rfl⟩ := hp
    first | refine j_if_eqB (pc := 24) F 37 dX8_hop_24 (by decide) (fun c2 => ?_) (fun c2 => ?_) | refine j_if_eqN (pc := 24) F 37 dX8_hop_24 (by decide) (by omega) (fun c2 => ?_) (fun c2 => ?_) | refine j_if_eqI (pc := 24) F 37 dX8_hop_24 (by decide) (fun c2 => ?_) (fun c2 => ?_)
    · have c2 := of_decide_eq_false c2
      first | refine j_aload_n (pc := 37) F dX8_hop_37 rfl ?_ | refine j_aload_nq (pc := 37) F dX8_hop_37 rfl ?_
      refine j_get (pc := 38) F fg_X8_12 (by first | assumption | exact hUp_s) (by rfl) dX8_hop_38 ?_
      refine j_iload_n (pc := 41) F dX8_hop_41 rfl ?_
      refine j_ri (j_runV (pc := 42) F (c_X2_hasLeft e1) m_X2_hasLeft mv_X2_hasLeft lk_X8_73 (by first | assumption | exact hUp_s) rfl ⟨by decide, by decide⟩ (Nat.le_of_ble_eq_true rfl) ⟨by omega, by omega⟩ rfl dX8_hop_42) (fun r h1 hp => ?_)
      obtain ⟨rfl, rfl⟩ := hp
      first | refine j_if_eqB (pc := 45) F 58 dX8_hop_45 (by decide) (fun c3 => ?_) (fun c3 => ?_) | refine j_if_eqN (pc := 45) F 58 dX8_hop_45 (by decide) (by omega) (fun c3 => ?_) (fun c3 => ?_) | refine j_if_eqI (pc := 45) F 58 dX8_hop_45 (by decide) (fun c3 => ?_) (fun c3 => ?_)
      · first | refine j_aload_n (pc := 58) F dX8_hop_58 rfl ?_ | refine j_aload_nq (pc := 58) F dX8_hop_58 rfl ?_
        refine j_get (pc := 59) F fg_X8_12 (by first | assumption | exact hUp_s) (by rfl) dX8_hop_59 ?_
        refine j_iload_n (pc := 62) F dX8_hop_62 rfl ?_
        have hc := c_X2_add (l := l) (A := A) (v := pN v) (show sz s < 8 by omega) e1
        rw [← n1] at hc
        refine j_rv (j_runV (pc := 63) F (hc) m_X2_add mv_X2_add lk_X8_78 (by first | assumption | exact hUp_s) rfl ⟨by decide, by decide⟩ (Nat.le_of_ble_eq_true rfl) ⟨by omega, by omega⟩ rfl dX8_hop_63) (fun h1 hp => ?_)
        obtain ⟨hp1, hp2⟩ := hp
        have hB2 := bx_pm hB hp1 hp2
        have e3 := hB2.1
        obtain ⟨rr3, e4, -⟩ := id hp1
        first | refine j_aload_n (pc := 66) F dX8_hop_66 rfl ?_ | refine j_aload_nq (pc := 66) F dX8_hop_66 rfl ?_
        refine j_get (pc := 67) F fg_X8_12 (by first | assumption | exact hUp_s) (by rfl) dX8_hop_67 ?_
        refine j_ri (j_runV (pc := 70) F (c_X2_size hp1) m_X2_size mv_X2_size lk_X8_82 (by first | assumption | exact hUp_s) rfl ⟨by decide, by decide⟩ (Nat.le_of_ble_eq_true rfl) ⟨by omega, by omega⟩ rfl dX8_hop_70) (fun r h2 hp => ?_)
        obtain ⟨rfl, rfl⟩ := hp
        exact jx_iret F hQ rfl rfl (by omega) (by omega) dX8_hop_73 ⟨by rw [hcode, if_pos c, if_neg (by rw [c3]; simp; omega)], rfl, pm, am, tr, hi, rg, rl, T, E, kc, K, hB2⟩
      · have ec : hcode s v = 2 := by rw [hcode, if_pos c, if_pos (Or.inr c3)]
        exact j_throwS (pc := 48) F hst hQ hex tw_60 es_76 lc_X8_56 xi_IllegalStateException (by decide) (Nat.le_of_ble_eq_true rfl) ⟨by omega, by omega⟩ dX8_hop_48 dX8_hop_51 dX8_hop_52 dX8_hop_54 dX8_hop_57 (⟨⟨by rw [ec]; decide, by rw [ec]; rfl⟩, hB'⟩)
    · have ec : hcode s v = 2 := by rw [hcode, if_pos c, if_pos (Or.inl (of_decide_eq_true c2))]
      exact j_throwS (pc := 27) F hst hQ hex tw_60 es_71 lc_X8_56 xi_IllegalStateException (by decide) (Nat.le_of_ble_eq_true rfl) ⟨by omega, by omega⟩ dX8_hop_27 dX8_hop_30 dX8_hop_31 dX8_hop_33 dX8_hop_36 (⟨⟨by rw [ec]; decide, by rw [ec]; rfl⟩, hB'⟩)
  · have ec : hcode s v = 1 := by rw [hcode, if_neg (by rw [c]; simp)]
    exact j_throwS (pc := 7) F hst hQ hex tw_52 es_65 lc_X8_48 xi_IllegalArgumentException (by decide) (Nat.le_of_ble_eq_true rfl) ⟨by omega, by omega⟩ dX8_hop_7 dX8_hop_10 dX8_hop_11 dX8_hop_13 dX8_hop_16 (⟨⟨by rw [ec]; decide, by rw [ec]; rfl⟩, hB'⟩)
theorem c_X8_clearPath (hB : isB g h x s) : MI l g A h yX8_clearPath cX8_clearPath 2 (some .int) 8 0 0 [.ref x] (fun r h1 => r = nI (sz s) ∧ isB g h1 x (sClr s)) := by
  obtain ⟨pm, am, tr, hi, rg, rl, T, E, kc, K, hB⟩ := hB
  have e0 := hB.1
  have e1 := hB.2.1
  obtain ⟨rr, e2, -, z8, -⟩ := id e1
  refine j_met (by decide +kernel) (Nat.le_of_ble_eq_true rfl) (fun X F hn hQ => ?_)
  first | refine j_aload_n (pc := 0) F dX8_clearPath_0 rfl ?_ | refine j_aload_nq (pc := 0) F dX8_clearPath_0 rfl ?_
  refine j_get (pc := 1) F fg_X8_12 (by first | assumption | exact hUp_s) (by rfl) dX8_clearPath_1 ?_
  refine j_ri (j_runV (pc := 4) F (c_X2_size e1) m_X2_size mv_X2_size lk_X8_82 (by first | assumption | exact hUp_s) rfl ⟨by decide, by decide⟩ (Nat.le_of_ble_eq_true rfl) ⟨by omega, by omega⟩ rfl dX8_clearPath_4) (fun r h1 hp => ?_)
  obtain ⟨rfl, rfl⟩ := hp
  refine j_istore_n (pc := 7) F dX8_clearPath_7 (by decide) ?_
  first | refine j_aload_n (pc := 8) F dX8_clearPath_8 rfl ?_ | refine j_aload_nq (pc := 8) F dX8_clearPath_8 rfl ?_
  refine j_get (pc := 9) F fg_X8_12 (by first | assumption | exact hUp_s) (by rfl) dX8_clearPath_9 ?_
  refine j_rv (j_runV (pc := 12) F (c_X2_clear e1) m_X2_clear mv_X2_clear lk_X8_86 (by first | assumption | exact hUp_s) rfl ⟨by decide, by decide⟩ (Nat.le_of_ble_eq_true rfl) ⟨by omega, by omega⟩ rfl dX8_clearPath_12) (fun h1 hp => ?_)
  obtain ⟨hp1, hp2⟩ := hp
  refine j_iload_n (pc := 15) F dX8_clearPath_15 rfl ?_
  exact j_iret F hQ rfl rfl (by omega) (by omega) dX8_clearPath_16 ⟨rfl, pm, am, tr, hi, rg, rl, T, E, kc, K, bx_pm hB hp1 (fun b q1 _ => hp2 b q1)⟩
theorem revR_nI {v : Nat} (h : v ≤ 3) : revR (nI v) = nI (revN v) := by
  rcases (show v = 0 ∨ v = 1 ∨ v = 2 ∨ v = 3 by omega) with rfl | rfl | rfl | rfl <;> decide
theorem c_X8_relate (hst : l.stackTraces = false) {a b v : Int32} (hB : isB g h x s) : XI l g A h yX8_relate cX8_relate 5 (some .int) 8 3 18 [.ref x, .int a, .int b, .int v] (fun r h1 => lcode a b v = 0 ∧ r = nI (sM s (pN a) (pN b)) ∧ isB g h1 x (sRel s (pN a) (pN b) (pN v))) (fun u => lcode a b v = 1 ∧ u.2 = IAE ∧ isB g u.1 x s) := by
  have hB' := hB
  obtain ⟨pm, am, tr, hi, rg, rl, T, E, kc, K, hB⟩ := hB
  have e0 := hB.1
  obtain ⟨ra, ad, hr⟩ := hB.2.2.2.2.2.1
  have e1 := hr.1
  by_cases c0 : okNet a = true ∧ okNet b = true ∧ ¬ a = b ∧ 0 ≤ v.toInt ∧ v.toInt ≤ 3
  · obtain ⟨a1, a2, a3, a4⟩ := c0
    obtain ⟨i, rfl, hi⟩ : ∃ i, a = nI i ∧ 1 ≤ i ∧ i ≤ 30 := ⟨pN a, (okNet.n a1).1, (okNet.n a1).2⟩
    obtain ⟨j, rfl, hj⟩ : ∃ i, b = nI i ∧ 1 ≤ i ∧ i ≤ 30 := ⟨pN b, (okNet.n a2).1, (okNet.n a2).2⟩
    obtain ⟨k, rfl, hk⟩ : ∃ i, v = nI i ∧ i ≤ 3 := ⟨pN v, (nI_pN (by omega)).symm, by unfold pN; omega⟩
    have ec : lcode (nI i) (nI j) (nI k) = 0 := if_pos ⟨a1, a2, a3, a4⟩
    rw [pN_nI (show i < 2 ^ 31 by omega), pN_nI (show j < 2 ^ 31 by omega), pN_nI (show k < 2 ^ 31 by omega)]
    refine jx_met (by decide +kernel) (Nat.le_of_ble_eq_true rfl) (fun X F hex hQ => ?_)
    refine j_iload_n (pc := 0) F dX8_relate_0 rfl ?_
    refine j_ri (j_runS (pc := 1) F (c_X8_isNetwork _) m_X8_isNetwork ms_X8_isNetwork lk_X8_61 ⟨by decide, by decide⟩ (Nat.le_of_ble_eq_true rfl) ⟨by omega, by omega⟩ rfl dX8_relate_1) (fun r h1 hp => ?_)
    obtain ⟨rfl, rfl⟩ := hp
    first | refine j_if_eqB (pc := 4) F 19 dX8_relate_4 (by decide) (fun c => ?_) (fun c => ?_) | refine j_if_eqN (pc := 4) F 19 dX8_relate_4 (by decide) (by omega) (fun c => ?_) (fun c => ?_) | refine j_if_eqI (pc := 4) F 19 dX8_relate_4 (by decide) (fun c => ?_) (fun c => ?_)
    · rw [a1] at c; cases c
    refine j_iload_n (pc := 7) F dX8_relate_7 rfl ?_
    refine j_ri (j_runS (pc := 8) F (c_X8_isNetwork _) m_X8_isNetwork ms_X8_isNetwork lk_X8_61 ⟨by decide, by decide⟩ (Nat.le_of_ble_eq_true rfl) ⟨by omega, by omega⟩ rfl dX8_relate_8) (fun r h1 hp => ?_)
    obtain ⟨rfl, rfl⟩ := hp
    first | refine j_if_eqB (pc := 11) F 19 dX8_relate_11 (by decide) (fun c2 => ?_) (fun c2 => ?_) | refine j_if_eqN (pc := 11) F 19 dX8_relate_11 (by decide) (by omega) (fun c2 => ?_) (fun c2 => ?_) | refine j_if_eqI (pc := 11) F 19 dX8_relate_11 (by decide) (fun c2 => ?_) (fun c2 => ?_)
    · rw [a2] at c2; cases c2
    refine j_iload_n (pc := 14) F dX8_relate_14 rfl ?_
    refine j_iload_n (pc := 15) F dX8_relate_15 rfl ?_
    refine j_icmp_ne (pc := 16) F 29 dX8_relate_16 (by decide) (fun c3 => ?_) (fun c3 => ?_)
    · refine j_iload_n (pc := 29) F dX8_relate_29 rfl ?_
      first | refine j_if_ltN (pc := 30) F 38 dX8_relate_30 (by decide) (by omega) (fun c4 => ?_) (fun c4 => ?_) | refine j_if_ltI (pc := 30) F 38 dX8_relate_30 (by decide) (fun c4 => ?_) (fun c4 => ?_)
      · omega
      refine j_iload_n (pc := 33) F dX8_relate_33 rfl ?_
      refine j_iconst (pc := 34) (v := (nI 3)) F dX8_relate_34 (by decide) ?_
      first | refine j_icmp_leN (pc := 35) F 48 dX8_relate_35 (by decide) (by omega) (by omega) (fun c5 => ?_) (fun c5 => ?_) | refine j_icmp_leIN (pc := 35) F 48 dX8_relate_35 (by decide) (by omega) (fun c5 => ?_) (fun c5 => ?_) | refine j_icmp_leNI (pc := 35) F 48 dX8_relate_35 (by decide) (by omega) (fun c5 => ?_) (fun c5 => ?_) | refine j_icmp_leI (pc := 35) F 48 dX8_relate_35 (by decide) (fun c5 => ?_) (fun c5 => ?_)
      · first | refine j_aload_n (pc := 48) F dX8_relate_48 rfl ?_ | refine j_aload_nq (pc := 48) F dX8_relate_48 rfl ?_
        refine j_get (pc := 49) F fg_X8_40 (by first | assumption | exact hUp_s) (by rfl) dX8_relate_49 ?_
        refine j_iload_n (pc := 52) F dX8_relate_52 rfl ?_
        refine j_iload_n (pc := 53) F dX8_relate_53 rfl ?_
        refine j_ri (j_runV (pc := 54) F (c_X5_between hr hi hj) m_X5_between mv_X5_between lk_X8_222 (by first | assumption | exact hUp_s) rfl ⟨by decide, by decide⟩ (Nat.le_of_ble_eq_true rfl) ⟨by omega, by omega⟩ rfl dX8_relate_54) (fun r h1 hp => ?_)
        obtain ⟨rfl, rfl⟩ := hp
        refine j_istore (pc := 57) F dX8_relate_57 (by decide) ?_
        first | refine j_aload_n (pc := 59) F dX8_relate_59 rfl ?_ | refine j_aload_nq (pc := 59) F dX8_relate_59 rfl ?_
        refine j_get (pc := 60) F fg_X8_40 (by first | assumption | exact hUp_s) (by rfl) dX8_relate_60 ?_
        refine j_iload_n (pc := 63) F dX8_relate_63 rfl ?_
        refine j_iload_n (pc := 64) F dX8_relate_64 rfl ?_
        refine j_iload_n (pc := 65) F dX8_relate_65 rfl ?_
        refine j_rv (j_runV (pc := 66) F (c_X5_put hr hi hj) m_X5_put mv_X5_put lk_X8_226 (by first | assumption | exact hUp_s) rfl ⟨by decide, by decide⟩ (Nat.le_of_ble_eq_true rfl) ⟨by omega, by omega⟩ rfl dX8_relate_66) (fun h2 hp => ?_)
        obtain ⟨hr2, hf2⟩ := hp
        obtain ⟨f1, y1, -⟩ := hr.2.2.1 i (by omega)
        have k2 : fk [(1, 31)] h1 h2 := fun b z hb hne => (hf2 b (kd_ne hb hne y1 (by simp [kd]))).trans hb
        have e0' := k2 _ _ e0 (by simp [kd])
        have e1' := hr2.1
        first | refine j_aload_n (pc := 69) F dX8_relate_69 rfl ?_ | refine j_aload_nq (pc := 69) F dX8_relate_69 rfl ?_
        refine j_get (pc := 70) F fg_X8_40 (by first | assumption | exact hUp_s) (by rfl) dX8_relate_70 ?_
        refine j_iload_n (pc := 73) F dX8_relate_73 rfl ?_
        refine j_iload_n (pc := 74) F dX8_relate_74 rfl ?_
        refine j_iload_n (pc := 75) F dX8_relate_75 rfl ?_
        refine j_ri (j_runS (pc := 76) F (c_X8_reverseOf _) m_X8_reverseOf ms_X8_reverseOf lk_X8_229 ⟨by decide, by decide⟩ (Nat.le_of_ble_eq_true rfl) ⟨by omega, by omega⟩ rfl dX8_relate_76) (fun r h3 hp => ?_)
        obtain ⟨rfl, rfl⟩ := hp
        refine j_int (revR_nI hk) ?_
        refine j_rv (j_runV (pc := 79) F (c_X5_put hr2 hj hi) m_X5_put mv_X5_put lk_X8_226 (by first | assumption | exact hUp_s) rfl ⟨by decide, by decide⟩ (Nat.le_of_ble_eq_true rfl) ⟨by omega, by omega⟩ rfl dX8_relate_79) (fun h4 hp => ?_)
        obtain ⟨hr3, hf3⟩ := hp
        obtain ⟨f2, y2, -⟩ := hr2.2.2.1 j (by omega)
        have k3 : fk [(1, 31)] h3 h4 := fun b z hb hne => (hf3 b (kd_ne hb hne y2 (by simp [kd]))).trans hb
        have k4 := k2.trans k3
        refine j_iload (pc := 82) F dX8_relate_82 rfl ?_
        obtain ⟨-, z1, z2, z3, z4, z5, z6, z7⟩ := hB
        exact jx_iret F hQ rfl rfl (by omega) (by omega) dX8_relate_84 ⟨ec, rfl, pm, am, tr, _, rg, rl, T, E, kc, K, k3 _ _ e0' (by simp [kd]), z1.fk k4 (by decide) (by decide), z2.fk k4 (by decide), z3.fk k4 (by decide), z4.fk k4 (by decide), ⟨ra, ad, hr3⟩, z6.fk k4 (by decide), z7⟩
      · omega
    · exact absurd c3 a3
  · have ec : lcode a b v = 1 := if_neg c0
    refine jx_met (by decide +kernel) (Nat.le_of_ble_eq_true rfl) (fun X F hex hQ => ?_)
    have th : ∀ lv, J l X g A 5 0 0 h 19 lv [] := fun lv => by
      exact j_throwS (pc := 19) F hst hQ hex tw_52 es_218 lc_X8_48 xi_IllegalArgumentException (by decide) (Nat.le_of_ble_eq_true rfl) ⟨by omega, by omega⟩ dX8_relate_19 dX8_relate_22 dX8_relate_23 dX8_relate_25 dX8_relate_28 (⟨ec, rfl, hB'⟩)
    refine j_iload_n (pc := 0) F dX8_relate_0 rfl ?_
    refine j_ri (j_runS (pc := 1) F (c_X8_isNetwork _) m_X8_isNetwork ms_X8_isNetwork lk_X8_61 ⟨by decide, by decide⟩ (Nat.le_of_ble_eq_true rfl) ⟨by omega, by omega⟩ rfl dX8_relate_1) (fun r h1 hp => ?_)
    obtain ⟨rfl, rfl⟩ := hp
    first | refine j_if_eqB (pc := 4) F 19 dX8_relate_4 (by decide) (fun c => ?_) (fun c => ?_) | refine j_if_eqN (pc := 4) F 19 dX8_relate_4 (by decide) (by omega) (fun c => ?_) (fun c => ?_) | refine j_if_eqI (pc := 4) F 19 dX8_relate_4 (by decide) (fun c => ?_) (fun c => ?_)
    · exact th _
    refine j_iload_n (pc := 7) F dX8_relate_7 rfl ?_
    refine j_ri (j_runS (pc := 8) F (c_X8_isNetwork _) m_X8_isNetwork ms_X8_isNetwork lk_X8_61 ⟨by decide, by decide⟩ (Nat.le_of_ble_eq_true rfl) ⟨by omega, by omega⟩ rfl dX8_relate_8) (fun r h1 hp => ?_)
    obtain ⟨rfl, rfl⟩ := hp
    first | refine j_if_eqB (pc := 11) F 19 dX8_relate_11 (by decide) (fun c2 => ?_) (fun c2 => ?_) | refine j_if_eqN (pc := 11) F 19 dX8_relate_11 (by decide) (by omega) (fun c2 => ?_) (fun c2 => ?_) | refine j_if_eqI (pc := 11) F 19 dX8_relate_11 (by decide) (fun c2 => ?_) (fun c2 => ?_)
    · exact th _
    refine j_iload_n (pc := 14) F dX8_relate_14 rfl ?_
    refine j_iload_n (pc := 15) F dX8_relate_15 rfl ?_
    refine j_icmp_ne (pc := 16) F 29 dX8_relate_16 (by decide) (fun c3 => ?_) (fun c3 => ?_)
    · refine j_iload_n (pc := 29) F dX8_relate_29 rfl ?_
      first | refine j_if_ltN (pc := 30) F 38 dX8_relate_30 (by decide) (by omega) (fun c4 => ?_) (fun c4 => ?_) | refine j_if_ltI (pc := 30) F 38 dX8_relate_30 (by decide) (fun c4 => ?_) (fun c4 => ?_)
      · exact j_throwS (pc := 38) F hst hQ hex tw_52 es_220 lc_X8_48 xi_IllegalArgumentException (by decide) (Nat.le_of_ble_eq_true rfl) ⟨by omega, by omega⟩ dX8_relate_38 dX8_relate_41 dX8_relate_42 dX8_relate_44 dX8_relate_47 (⟨ec, rfl, hB'⟩)
      refine j_iload_n (pc := 33) F dX8_relate_33 rfl ?_
      refine j_iconst (pc := 34) (v := (nI 3)) F dX8_relate_34 (by decide) ?_
      first | refine j_icmp_leN (pc := 35) F 48 dX8_relate_35 (by decide) (by omega) (by omega) (fun c5 => ?_) (fun c5 => ?_) | refine j_icmp_leIN (pc := 35) F 48 dX8_relate_35 (by decide) (by omega) (fun c5 => ?_) (fun c5 => ?_) | refine j_icmp_leNI (pc := 35) F 48 dX8_relate_35 (by decide) (by omega) (fun c5 => ?_) (fun c5 => ?_) | refine j_icmp_leI (pc := 35) F 48 dX8_relate_35 (by decide) (fun c5 => ?_) (fun c5 => ?_)
      · exact absurd ⟨c, c2, c3, by omega, by omega⟩ c0
      · exact j_throwS (pc := 38) F hst hQ hex tw_52 es_220 lc_X8_48 xi_IllegalArgumentException (by decide) (Nat.le_of_ble_eq_true rfl) ⟨by omega, by omega⟩ dX8_relate_38 dX8_relate_41 dX8_relate_42 dX8_relate_44 dX8_relate_47 (⟨ec, rfl, hB'⟩)
    · exact th _
end BM
