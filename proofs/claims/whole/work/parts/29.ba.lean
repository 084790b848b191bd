/-! ===== Bgpreplay.allow ===== -/
/-- the first place of a row -/
def fp (f : Nat → Bool) : Nat → Option Nat
  | 0 => none
  | n + 1 => match fp f n with
    | some i => some i
    | none => if f n = true then some n else none
theorem fp_none {f : Nat → Bool} : ∀ {n : Nat}, (∀ j, j < n → f j = false) → fp f n = none
  | 0, _ => rfl
  | n + 1, h => by unfold fp; rw [fp_none (fun j hj => h j (by omega))]; simp [h n (by omega)]
theorem fp_some {f : Nat → Bool} {i : Nat} : ∀ {n : Nat}, i < n → f i = true → (∀ j, j < i → f j = false) → fp f n = some i
  | 0, h, _, _ => absurd h (Nat.not_lt_zero i)
  | n + 1, h, h1, h2 => by
    unfold fp
    by_cases c : i = n
    · subst c; rw [fp_none h2]; simp [h1]
    · rw [fp_some (by omega) h1 h2]
theorem fp_at {f : Nat → Bool} : ∀ {n i : Nat}, fp f n = some i → i < n ∧ f i = true
  | 0, _, h => by cases h
  | n + 1, i, h => by
    unfold fp at h
    cases e : fp f n with
    | some j =>
      rw [e] at h
      cases h
      have := fp_at e
      exact ⟨by omega, this.2⟩
    | none =>
      rw [e] at h
      by_cases c : f n = true
      · simp only [c, if_true] at h
        cases h
        exact ⟨by omega, c⟩
      · simp only [c] at h
        cases h
def sPl (s : SG) (q lo og : Nat) : Option Nat := fp (fun i => eLike (sQ s i) (sL s i) (sO s i) q lo og) (sn s)
def sOut (s : SG) (i : Nat) : SG := (sT s, s.2.1, s.2.2.1, (sn s - 1, fun j => if j = i then sQ s (sn s - 1) else sQ s j, fun j => if j = i then sL s (sn s - 1) else sL s j, fun j => if j = i then sO s (sn s - 1) else sO s j), sM s)
def sIn (s : SG) (q lo og : Nat) : SG := (sT s, s.2.1, s.2.2.1, (sn s + 1, fun j => if j = sn s then q else sQ s j, fun j => if j = sn s then lo else sL s j, fun j => if j = sn s then og else sO s j), sM s)
def sAl (s : SG) (q lo og : Nat) : SG := match sPl s q lo og with | some i => sOut s i | none => sIn s q lo og
def acode (s : SG) (a b lo og : Int32) : Nat := if okPfx a b = true ∧ okNet og = true ∧ b.toInt ≤ lo.toInt ∧ lo.toInt ≤ 8 then (if sPl s (pqN a b) (pN lo) (pN og) = none ∧ 20 ≤ sn s then 2 else 0) else 1
section BA
variable {l : Launch} {g : GG} {A : Nat → Prop} {h h1 : HF} {x : Nat} {s : SG} {pm am tr hi rg rl : Nat} {T : RF} {E : Nat → Nat} {kc : Nat} {K : Nat → Nat}
theorem bx_rg {n2 : Nat} {Q2 L2 O2 : Nat → Nat} (hB : isBx g h x s pm am tr hi rg rl T E kc K) (k : fk [(0, 4), (2, 20)] h h1) (hr : bRg g h1 rg n2 Q2 L2 O2) : isBx g h1 x (sT s, s.2.1, s.2.2.1, (n2, Q2, L2, O2), sM s) pm am tr hi rg rl T E kc K := by
  obtain ⟨e0, e1, e2, e3, e4, e5, e6, e7⟩ := hB
  exact ⟨k _ _ e0 (by simp [kd]), e1.fk k (by decide) (by decide), e2.fk k (by decide), e3.fk k (by decide), hr, e5.fk k (by decide), e6.fk k (by decide), e7⟩
theorem c_X8_allow (hst : l.stackTraces = false) {a b lo og : Int32} (hB : isB g h x s) : XI l g A h yX8_allow cX8_allow 8 (some .boolean) 8 4 24 [.ref x, .int a, .int b, .int lo, .int og] (fun r h1 => acode s a b lo og = 0 ∧ r = bI (decide (sPl s (pqN a b) (pN lo) (pN og) = none)) ∧ isB g h1 x (sAl s (pqN a b) (pN lo) (pN og))) (fun u => nm [IAE, ISE] (acode s a b lo og) u.2 ∧ isB g u.1 x s) := by
  have hB' := hB
  obtain ⟨pm, am, tr, hi, rg, rl, T, E, kc, K, hB⟩ := hB
  have e0 := hB.1
  by_cases c0 : okPfx a b = true ∧ okNet og = true ∧ b.toInt ≤ lo.toInt ∧ lo.toInt ≤ 8
  · obtain ⟨a1, a2, a3, a4⟩ := id c0
    obtain ⟨m1, m2, m3, m4, m5, m6⟩ := okPfx.n a1
    have b0 : 0 ≤ b.toInt := (of_decide_eq_true a1).2.1.1
    obtain ⟨o, rfl, ho⟩ : ∃ i, og = nI i ∧ 1 ≤ i ∧ i ≤ 30 := ⟨pN og, (okNet.n a2).1, (okNet.n a2).2⟩
    obtain ⟨k, rfl, hk⟩ : ∃ i, lo = nI i ∧ i ≤ 8 := ⟨pN lo, (nI_pN (by omega)).symm, by unfold pN; omega⟩
    have eo := pN_nI (show o < 2 ^ 31 by omega)
    have ek := pN_nI (show k < 2 ^ 31 by omega)
    have a5 : b.toInt ≤ (k : Int) := by rw [nI_toInt (show k < 2 ^ 31 by omega)] at a3; exact a3
    rw [eo, ek]
    refine jx_met (by decide +kernel) (Nat.le_of_ble_eq_true rfl) (fun X F hex hQ => ?_)
    first | refine j_aload_n (pc := 0) F dX8_allow_0 rfl ?_ | refine j_aload_nq (pc := 0) F dX8_allow_0 rfl ?_
    refine j_iload_n (pc := 1) F dX8_allow_1 rfl ?_
    refine j_iload_n (pc := 2) F dX8_allow_2 rfl ?_
    refine jx_rq (jx_runV (pc := 3) F (c_X8_needPrefix hst) m_X8_needPrefix mv_X8_needPrefix lk_X8_92 (by first | assumption | exact hUp_s) rfl ⟨by decide, by decide⟩ (Nat.le_of_ble_eq_true rfl) ⟨by omega, by omega⟩ rfl dX8_allow_3) (fun E h1 hp => ?_) (fun r h1 hp => ?_)
    · rw [a1] at hp; cases hp.1
    obtain ⟨-, pq, rfl, w1, w2, w3⟩ := hp
    have hB1 := hB.new w1 w3
    first | refine j_astore (pc := 6) F dX8_allow_6 (by decide) ?_ | refine j_astoreq (pc := 6) F dX8_allow_6 (by decide) ?_ | refine j_astoreN (pc := 6) F dX8_allow_6 (by decide) ?_
    refine j_iload (pc := 8) F dX8_allow_8 rfl ?_
    refine j_ri (j_runS (pc := 10) F (c_X8_isNetwork _) m_X8_isNetwork ms_X8_isNetwork lk_X8_61 ⟨by decide, by decide⟩ (Nat.le_of_ble_eq_true rfl) ⟨by omega, by omega⟩ rfl dX8_allow_10) (fun r h2 hp => ?_)
    obtain ⟨rfl, rfl⟩ := hp
    first | refine j_if_neB (pc := 13) F 26 dX8_allow_13 (by decide) (fun c => ?_) (fun c => ?_) | refine j_if_neN (pc := 13) F 26 dX8_allow_13 (by decide) (by omega) (fun c => ?_) (fun c => ?_) | refine j_if_neI (pc := 13) F 26 dX8_allow_13 (by decide) (fun c => ?_) (fun c => ?_)
    · refine j_iload_n (pc := 26) F dX8_allow_26 rfl ?_
      refine j_iload_n (pc := 27) F dX8_allow_27 rfl ?_
      first | refine j_icmp_ltN (pc := 28) F 37 dX8_allow_28 (by decide) (by omega) (by omega) (fun c2 => ?_) (fun c2 => ?_) | refine j_icmp_ltIN (pc := 28) F 37 dX8_allow_28 (by decide) (by omega) (fun c2 => ?_) (fun c2 => ?_) | refine j_icmp_ltNI (pc := 28) F 37 dX8_allow_28 (by decide) (by omega) (fun c2 => ?_) (fun c2 => ?_) | refine j_icmp_ltI (pc := 28) F 37 dX8_allow_28 (by decide) (fun c2 => ?_) (fun c2 => ?_)
      · omega
      refine j_iload_n (pc := 31) F dX8_allow_31 rfl ?_
      refine j_bipush (pc := 32) (v := (nI 8)) F dX8_allow_32 (by decide) ?_
      first | refine j_icmp_leN (pc := 34) F 47 dX8_allow_34 (by decide) (by omega) (by omega) (fun c3 => ?_) (fun c3 => ?_) | refine j_icmp_leIN (pc := 34) F 47 dX8_allow_34 (by decide) (by omega) (fun c3 => ?_) (fun c3 => ?_) | refine j_icmp_leNI (pc := 34) F 47 dX8_allow_34 (by decide) (by omega) (fun c3 => ?_) (fun c3 => ?_) | refine j_icmp_leI (pc := 34) F 47 dX8_allow_34 (by decide) (fun c3 => ?_) (fun c3 => ?_)
      · refine j_new (pc := 47) F (ci := 0) (fs := [.null, .int 0, .int 0]) tyX0_ok fw_X0 lc_X8_197 iw_X0 nw_X0 rfl (fun j hj => by rcases (show j = 0 ∨ j = 1 ∨ j = 2 by omega) with rfl | rfl | rfl <;> rfl) (by omega) (by omega) dX8_allow_47 (fun q hq hA => ?_)
        have hne : q ≠ pq := ne_of hq w2
        refine j_dup (pc := 50) F dX8_allow_50 rfl ?_
        first | refine j_aload (pc := 51) F dX8_allow_51 rfl ?_ | refine j_aloadq (pc := 51) F dX8_allow_51 rfl ?_
        refine j_iload_n (pc := 53) F dX8_allow_53 rfl ?_
        refine j_iload (pc := 54) F dX8_allow_54 rfl ?_
        refine j_rv (j_runI (pc := 56) F (c_X0_init hUp_s) m_X0_init rfl mi_X0_init lk_X8_199 ⟨by decide, by decide⟩ (Nat.le_of_ble_eq_true rfl) ⟨by omega, by omega⟩ rfl dX8_allow_56) (fun h3 hp => ?_)
        obtain ⟨hp1, hp2⟩ := hp
        have hf3 : ∀ b, b ≠ q → h3 b = h2 b := fun b hb => by rw [hp2 b hb, hUp_n hb]
        have hB3 := hB1.new hq hf3
        have hE : isEntry h3 q pq (pqN a b) (Nat.log2 (pqN a b)) k o := ⟨hp1, (hf3 _ (Ne.symm hne)).trans w2⟩
        have hO : eOk (pqN a b) (Nat.log2 (pqN a b)) k o := ⟨m4.2, log2_le m4.2, hk, ho.2⟩
        obtain ⟨ea, ad, pf, hr⟩ := hB3.2.2.2.2.1
        obtain ⟨rr, y1, y2, y3, y4⟩ := id hr
        have e3 := hB3.1
        first | refine j_astore (pc := 59) F dX8_allow_59 (by decide) ?_ | refine j_astoreq (pc := 59) F dX8_allow_59 (by decide) ?_ | refine j_astoreN (pc := 59) F dX8_allow_59 (by decide) ?_
        first | refine j_aload_n (pc := 61) F dX8_allow_61 rfl ?_ | refine j_aload_nq (pc := 61) F dX8_allow_61 rfl ?_
        refine j_get (pc := 62) F fg_X8_33 (by first | assumption | exact hUp_s) (by rfl) dX8_allow_62 ?_
        first | refine j_aload (pc := 65) F dX8_allow_65 rfl ?_ | refine j_aloadq (pc := 65) F dX8_allow_65 rfl ?_
        refine j_ri (j_runV (pc := 67) F (c_X4_placeOf hr hE hO) m_X4_placeOf mv_X4_placeOf lk_X8_202 (by first | assumption | exact hUp_s) rfl ⟨by decide, by decide⟩ (Nat.le_of_ble_eq_true rfl) ⟨by omega, by omega⟩ rfl dX8_allow_67) (fun r h4 hp => ?_)
        obtain ⟨hp, rfl⟩ := hp
        rcases hp with ⟨i, rfl, hi1, hi2, hi3⟩ | ⟨rfl, hi3⟩
        · have es : sPl s (pqN a b) k o = some i := fp_some hi1 hi2 hi3
          refine j_istore (pc := 70) F dX8_allow_70 (by decide) ?_
          refine j_iload (pc := 72) F dX8_allow_72 rfl ?_
          refine j_iconst (pc := 74) (v := (-1)) F dX8_allow_74 (by decide) ?_
          refine j_icmp_eq (pc := 75) F 89 dX8_allow_75 (by decide) (fun c4 => ?_) (fun c4 => ?_)
          · exfalso
            have := congrArg Int32.toInt c4
            rw [nI_toInt (by omega)] at this
            have e : (-1 : Int32).toInt = -1 := by decide
            omega
          first | refine j_aload_n (pc := 78) F dX8_allow_78 rfl ?_ | refine j_aload_nq (pc := 78) F dX8_allow_78 rfl ?_
          refine j_get (pc := 79) F fg_X8_33 (by first | assumption | exact hUp_s) (by rfl) dX8_allow_79 ?_
          refine j_iload (pc := 82) F dX8_allow_82 rfl ?_
          refine j_rv (j_runV (pc := 84) F (c_X4_takeOut hr hi1) m_X4_takeOut mv_X4_takeOut lk_X8_206 (by first | assumption | exact hUp_s) rfl ⟨by decide, by decide⟩ (Nat.le_of_ble_eq_true rfl) ⟨by omega, by omega⟩ rfl dX8_allow_84) (fun h5 hp => ?_)
          obtain ⟨z1, ⟨r5, z2, z3⟩, z4⟩ := hp
          have k5 : fk [(0, 4), (2, 20)] h4 h5 := fun b z hb hne => (z4 b (kd_ne hb hne y1 (by simp [kd])) (kd_ne hb hne y2 (by simp [kd]))).trans hb
          refine j_iconst (pc := 87) (v := (nI 0)) F dX8_allow_87 (by decide) ?_
          refine jx_iret F hQ rfl rfl (by omega) (by omega) dX8_allow_88 ⟨by rw [acode, if_pos c0, eo, ek, if_neg (by rw [es]; simp)], by rw [es]; rfl, pm, am, tr, hi, rg, rl, T, E, kc, K, ?_⟩
          rw [sAl, es]
          refine bx_rg hB3 k5 ⟨ea, fun j => if j = i then ad (sn s - 1) else ad j, fun j => if j = i then pf (sn s - 1) else pf j, r5, z1, z2, by omega, fun j hj => ?_⟩
          refine ⟨z3 j hj, ?_⟩
          by_cases cj : j = i
          · simp only [cj, if_true]
            obtain ⟨-, v2, v3⟩ := y4 (sn s - 1) (by omega)
            exact ⟨v2.fk k5 (by decide), v3⟩
          · simp only [cj, if_false]
            obtain ⟨-, v2, v3⟩ := y4 j (by omega)
            exact ⟨v2.fk k5 (by decide), v3⟩
        · have es : sPl s (pqN a b) k o = none := fp_none hi3
          refine j_istore (pc := 70) F dX8_allow_70 (by decide) ?_
          refine j_iload (pc := 72) F dX8_allow_72 rfl ?_
          refine j_iconst (pc := 74) (v := (-1)) F dX8_allow_74 (by decide) ?_
          refine j_icmp_eq (pc := 75) F 89 dX8_allow_75 (by decide) (fun c4 => ?_) (fun c4 => ?_)
          · first | refine j_aload_n (pc := 89) F dX8_allow_89 rfl ?_ | refine j_aload_nq (pc := 89) F dX8_allow_89 rfl ?_
            refine j_get (pc := 90) F fg_X8_33 (by first | assumption | exact hUp_s) (by rfl) dX8_allow_90 ?_
            refine j_ri (j_runV (pc := 93) F (c_X4_isFull hr) m_X4_isFull mv_X4_isFull lk_X8_209 (by first | assumption | exact hUp_s) rfl ⟨by decide, by decide⟩ (Nat.le_of_ble_eq_true rfl) ⟨by omega, by omega⟩ rfl dX8_allow_93) (fun r h5 hp => ?_)
            obtain ⟨rfl, rfl⟩ := hp
            first | refine j_if_eqB (pc := 96) F 109 dX8_allow_96 (by decide) (fun c5 => ?_) (fun c5 => ?_) | refine j_if_eqN (pc := 96) F 109 dX8_allow_96 (by decide) (by omega) (fun c5 => ?_) (fun c5 => ?_) | refine j_if_eqI (pc := 96) F 109 dX8_allow_96 (by decide) (fun c5 => ?_) (fun c5 => ?_)
            · have c5 := of_decide_eq_false c5
              have hne2 : (0, 0) ∉ [((0 : Nat), (4 : Nat)), (2, 20)] := by decide
              first | refine j_aload_n (pc := 109) F dX8_allow_109 rfl ?_ | refine j_aload_nq (pc := 109) F dX8_allow_109 rfl ?_
              refine j_get (pc := 110) F fg_X8_33 (by first | assumption | exact hUp_s) (by rfl) dX8_allow_110 ?_
              first | refine j_aload (pc := 113) F dX8_allow_113 rfl ?_ | refine j_aloadq (pc := 113) F dX8_allow_113 rfl ?_
              refine j_rv (j_runV (pc := 115) F (c_X4_add hr (by omega) hp1) m_X4_add mv_X4_add lk_X8_212 (by first | assumption | exact hUp_s) rfl ⟨by decide, by decide⟩ (Nat.le_of_ble_eq_true rfl) ⟨by omega, by omega⟩ rfl dX8_allow_115) (fun h6 hp => ?_)
              obtain ⟨z1, ⟨r5, z2, z3, z3'⟩, z4⟩ := hp
              have k5 : fk [(0, 4), (2, 20)] h5 h6 := fun b z hb hne => (z4 b (kd_ne hb hne y1 (by simp [kd])) (kd_ne hb hne y2 (by simp [kd]))).trans hb
              refine j_iconst (pc := 118) (v := (nI 1)) F dX8_allow_118 (by decide) ?_
              refine jx_iret F hQ rfl rfl (by omega) (by omega) dX8_allow_119 ⟨by rw [acode, if_pos c0, eo, ek, if_neg (by omega)], by rw [es]; rfl, pm, am, tr, hi, rg, rl, T, E, kc, K, ?_⟩
              rw [sAl, es]
              refine bx_rg hB3 k5 ⟨ea, fun j => if j = sn s then q else ad j, fun j => if j = sn s then pq else pf j, r5, z1, z2, by omega, fun j hj => ?_⟩
              by_cases cj : j = sn s
              · simp only [cj, if_true]
                exact ⟨z3', hE.fk k5 (by decide), hO⟩
              · simp only [cj, if_false]
                obtain ⟨v1, v2, v3⟩ := y4 j (by omega)
                exact ⟨z3 j (by omega), v2.fk k5 (by decide), v3⟩
            · have ec : acode s a b (nI k) (nI o) = 2 := by rw [acode, if_pos c0, eo, ek, if_pos ⟨es, of_decide_eq_true c5⟩]
              exact j_throwS (pc := 99) F hst hQ hex tw_60 es_210 lc_X8_56 xi_IllegalStateException (by decide) (Nat.le_of_ble_eq_true rfl) ⟨by omega, by omega⟩ dX8_allow_99 dX8_allow_102 dX8_allow_103 dX8_allow_105 dX8_allow_108 (⟨⟨by rw [ec]; decide, by rw [ec]; rfl⟩, hB3.is⟩)
          · exact absurd rfl c4
      · omega
    · rw [a2] at c; cases c
  · have ec : acode s a b lo og = 1 := if_neg c0
    refine jx_met (by decide +kernel) (Nat.le_of_ble_eq_true rfl) (fun X F hex hQ => ?_)
    first | refine j_aload_n (pc := 0) F dX8_allow_0 rfl ?_ | refine j_aload_nq (pc := 0) F dX8_allow_0 rfl ?_
    refine j_iload_n (pc := 1) F dX8_allow_1 rfl ?_
    refine j_iload_n (pc := 2) F dX8_allow_2 rfl ?_
    refine jx_rq (jx_runV (pc := 3) F (c_X8_needPrefix hst) m_X8_needPrefix mv_X8_needPrefix lk_X8_92 (by first | assumption | exact hUp_s) rfl ⟨by decide, by decide⟩ (Nat.le_of_ble_eq_true rfl) ⟨by omega, by omega⟩ rfl dX8_allow_3) (fun E h1 hp => ?_) (fun r h1 hp => ?_)
    · obtain ⟨c, hp⟩ := hp
      cases hp
      exact jx_out F hQ hex (by omega) (by omega) ⟨⟨by rw [ec]; decide, by rw [ec]; rfl⟩, hB'⟩
    obtain ⟨a1, pq, rfl, w1, w2, w3⟩ := hp
    have hB1 := hB.new w1 w3
    have th : ∀ lv, J l X g A 8 (0 + 1) (0 + 6) h1 37 lv [] := fun lv => by
      exact j_throwS (pc := 37) F hst hQ hex tw_52 es_195 lc_X8_48 xi_IllegalArgumentException (by decide) (Nat.le_of_ble_eq_true rfl) ⟨by omega, by omega⟩ dX8_allow_37 dX8_allow_40 dX8_allow_41 dX8_allow_43 dX8_allow_46 (⟨⟨by rw [ec]; decide, by rw [ec]; rfl⟩, hB1.is⟩)
    first | refine j_astore (pc := 6) F dX8_allow_6 (by decide) ?_ | refine j_astoreq (pc := 6) F dX8_allow_6 (by decide) ?_ | refine j_astoreN (pc := 6) F dX8_allow_6 (by decide) ?_
    refine j_iload (pc := 8) F dX8_allow_8 rfl ?_
    refine j_ri (j_runS (pc := 10) F (c_X8_isNetwork _) m_X8_isNetwork ms_X8_isNetwork lk_X8_61 ⟨by decide, by decide⟩ (Nat.le_of_ble_eq_true rfl) ⟨by omega, by omega⟩ rfl dX8_allow_10) (fun r h2 hp => ?_)
    obtain ⟨rfl, rfl⟩ := hp
    first | refine j_if_neB (pc := 13) F 26 dX8_allow_13 (by decide) (fun c => ?_) (fun c => ?_) | refine j_if_neN (pc := 13) F 26 dX8_allow_13 (by decide) (by omega) (fun c => ?_) (fun c => ?_) | refine j_if_neI (pc := 13) F 26 dX8_allow_13 (by decide) (fun c => ?_) (fun c => ?_)
    · refine j_iload_n (pc := 26) F dX8_allow_26 rfl ?_
      refine j_iload_n (pc := 27) F dX8_allow_27 rfl ?_
      first | refine j_icmp_ltN (pc := 28) F 37 dX8_allow_28 (by decide) (by omega) (by omega) (fun c2 => ?_) (fun c2 => ?_) | refine j_icmp_ltIN (pc := 28) F 37 dX8_allow_28 (by decide) (by omega) (fun c2 => ?_) (fun c2 => ?_) | refine j_icmp_ltNI (pc := 28) F 37 dX8_allow_28 (by decide) (by omega) (fun c2 => ?_) (fun c2 => ?_) | refine j_icmp_ltI (pc := 28) F 37 dX8_allow_28 (by decide) (fun c2 => ?_) (fun c2 => ?_)
      · exact th _
      refine j_iload_n (pc := 31) F dX8_allow_31 rfl ?_
      refine j_bipush (pc := 32) (v := (nI 8)) F dX8_allow_32 (by decide) ?_
      first | refine j_icmp_leN (pc := 34) F 47 dX8_allow_34 (by decide) (by omega) (by omega) (fun c3 => ?_) (fun c3 => ?_) | refine j_icmp_leIN (pc := 34) F 47 dX8_allow_34 (by decide) (by omega) (fun c3 => ?_) (fun c3 => ?_) | refine j_icmp_leNI (pc := 34) F 47 dX8_allow_34 (by decide) (by omega) (fun c3 => ?_) (fun c3 => ?_) | refine j_icmp_leI (pc := 34) F 47 dX8_allow_34 (by decide) (fun c3 => ?_) (fun c3 => ?_)
      · exact absurd ⟨a1, c, by omega, by omega⟩ c0
      · exact th _
    · exact j_throwS (pc := 16) F hst hQ hex tw_52 es_65 lc_X8_48 xi_IllegalArgumentException (by decide) (Nat.le_of_ble_eq_true rfl) ⟨by omega, by omega⟩ dX8_allow_16 dX8_allow_19 dX8_allow_20 dX8_allow_22 dX8_allow_25 (⟨⟨by rw [ec]; decide, by rw [ec]; rfl⟩, hB1.is⟩)
end BA
