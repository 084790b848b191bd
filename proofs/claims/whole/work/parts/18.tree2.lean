/-! ===== Bgpreplay$Tree: its writes, look-ups and origins ===== -/
theorem fa_and (a b : Nat) : nI a &&& nI b = nI (a &&& b) := by
  apply Int32.toBitVec_inj.1
  show BitVec.ofNat 32 a &&& BitVec.ofNat 32 b = BitVec.ofNat 32 (a &&& b)
  apply BitVec.eq_of_getLsbD_eq
  intro i hi
  simp [hi]
theorem fa_or (a b : Nat) : nI a ||| nI b = nI (a ||| b) := by
  apply Int32.toBitVec_inj.1
  show BitVec.ofNat 32 a ||| BitVec.ofNat 32 b = BitVec.ofNat 32 (a ||| b)
  apply BitVec.eq_of_getLsbD_eq
  intro i hi
  simp [hi]
theorem nd_bit (n j : Nat) : n &&& 2 ^ j = 0 ↔ n.testBit j = false := by
  constructor
  · intro h
    have h1 : (n &&& 2 ^ j).testBit j = false := by rw [h]; simp
    rw [Nat.testBit_and] at h1
    simpa using h1
  · intro h
    apply Nat.eq_of_testBit_eq
    intro i
    rw [Nat.testBit_and, Nat.zero_testBit]
    by_cases hij : j = i
    · subst hij; simp [h]
    · rw [Nat.testBit_two_pow_of_ne hij, Bool.and_false]
def cUp (C : Nat → Nat → Option Nat) (p q : Nat) (v : Option Nat) : Nat → Nat → Option Nat := fun a b => if a = p ∧ b = q then v else C a b
theorem cUp_s {C : Nat → Nat → Option Nat} {p q : Nat} {v : Option Nat} : cUp C p q v p q = v := if_pos ⟨rfl, rfl⟩
theorem cUp_n {C : Nat → Nat → Option Nat} {p q : Nat} {v : Option Nat} {a b : Nat} (h : ¬ (a = p ∧ b = q)) : cUp C p q v a b = C a b := if_neg h
theorem cntQ_in {C : Nat → Nat → Option Nat} {p q u : Nat} (hp : p < 6) (h : C p q = none) (b : Nat) : cntQ (cUp C p q (some u)) b = if b = q then cntQ C b + 1 else cntQ C b := by
  by_cases hb : b = q
  · subst hb
    rw [if_pos rfl]
    exact cnt_set hp (fun i _ hi => by rw [cUp_n (fun z => hi z.1)]) (by rw [h]; rfl) (by rw [cUp_s]; rfl)
  · rw [if_neg hb]
    exact cnt_congr (fun i _ => by rw [cUp_n (fun z => hb z.2)])
theorem cntP_in {C : Nat → Nat → Option Nat} {p q u : Nat} (hq : q < 512) (h : C p q = none) (a : Nat) : cntP (cUp C p q (some u)) a = if a = p then cntP C a + 1 else cntP C a := by
  by_cases ha : a = p
  · subst ha
    rw [if_pos rfl]
    exact cnt_set hq (fun i _ hi => by rw [cUp_n (fun z => hi z.2)]) (by rw [h]; rfl) (by rw [cUp_s]; rfl)
  · rw [if_neg ha]
    exact cnt_congr (fun i _ => by rw [cUp_n (fun z => ha z.1)])
theorem cUp_back {C : Nat → Nat → Option Nat} {p q u : Nat} (h : C p q = some u) : cUp (cUp C p q none) p q (some u) = C := by
  funext a b
  by_cases hab : a = p ∧ b = q
  · rw [hab.1, hab.2, cUp_s, h]
  · rw [cUp_n hab, cUp_n hab]
theorem cntQ_out {C : Nat → Nat → Option Nat} {p q u : Nat} (hp : p < 6) (h : C p q = some u) (b : Nat) : cntQ C b = if b = q then cntQ (cUp C p q none) b + 1 else cntQ (cUp C p q none) b := by
  have := cntQ_in (C := cUp C p q none) (u := u) hp cUp_s b
  rw [cUp_back h] at this
  exact this
theorem cntP_out {C : Nat → Nat → Option Nat} {p q u : Nat} (hq : q < 512) (h : C p q = some u) (a : Nat) : cntP C a = if a = p then cntP (cUp C p q none) a + 1 else cntP (cUp C p q none) a := by
  have := cntP_in (C := cUp C p q none) (u := u) hq cUp_s a
  rw [cUp_back h] at this
  exact this
def pnN (a b : Nat) : Nat := (256 + a) / 2 ^ (8 - b)
theorem sh8_ok : ∀ b, b < 9 → (((nI 8 - nI b) &&& 31).toBitVec.smod 32).toNat = 8 - b := by decide +kernel
theorem pnum_nI {a b : Nat} (ha : a < 256) (hb : b ≤ 8) : pnum (nI a) (nI b) = nI (pnN a b) := by
  unfold pnum pnN
  rw [nI_add]
  exact pk_shrN (by omega) _ _ (sh8_ok b (by omega))
theorem pnN_in {a b : Nat} (ha : a < 256) (hb : b ≤ 8) : 1 ≤ pnN a b ∧ pnN a b < 512 := by
  unfold pnN
  have h1 : 0 < 2 ^ (8 - b) := Nat.two_pow_pos _
  have h2 : 2 ^ (8 - b) ≤ 2 ^ 8 := Nat.pow_le_pow_right (by omega) (by omega)
  refine ⟨(Nat.le_div_iff_mul_le h1).mpr (by omega), Nat.lt_of_le_of_lt (Nat.div_le_self _ _) (by omega)⟩
def lastL (f : Nat → Bool) : Nat → Int32
  | 0 => -1
  | n + 1 => if f n = true then nI n else lastL f n
def nab (f : Nat → Bool) : Nat → Nat → Nat
  | 0, _ => 0
  | m + 1, a => if a = 0 then 0 else if f a = true then a else nab f m (a / 2)
def obits (O : Nat → Nat) (c : Nat → Option Nat) : Nat → Nat
  | 0 => 0
  | n + 1 => match c n with
    | none => obits O c n
    | some u => obits O c n ||| 2 ^ O u
theorem obits_0 {O : Nat → Nat} {c : Nat → Option Nat} : ∀ {n : Nat}, (∀ p, p < n → c p = none) → obits O c n = 0
  | 0, _ => rfl
  | n + 1, h => by unfold obits; rw [h n (by omega)]; exact obits_0 (fun p hp => h p (by omega))
theorem obits_lt {O : Nat → Nat} {c : Nat → Option Nat} : ∀ {n : Nat}, (∀ p u, p < n → c p = some u → O u ≤ 30) → obits O c n < 2 ^ 31
  | 0, _ => (by decide : (0 : Nat) < 2 ^ 31)
  | n + 1, h => by
    unfold obits
    cases hc : c n with
    | none => exact obits_lt (fun p u hp => h p u (by omega))
    | some u => exact Nat.or_lt_two_pow (obits_lt (fun p u hp => h p u (by omega))) (Nat.pow_lt_pow_right (by omega) (by have := h n u (by omega) hc; omega))
/-- the origin of an update's route -/
def ogn (D : UD) (u : Nat) : Nat := D.2.2.2 u (D.2.2.1 u - 1)
def bcI (x : Int32) : Int32 :=
  let x1 := x - ((x.toUInt32 >>> ((nI 1).toUInt32 &&& Int32.toUInt32 31)).toInt32 &&& 1431655765)
  let x2 := (x1 &&& 858993459) + ((x1.toUInt32 >>> ((nI 2).toUInt32 &&& Int32.toUInt32 31)).toInt32 &&& 858993459)
  let x3 := (x2 + (x2.toUInt32 >>> ((nI 4).toUInt32 &&& Int32.toUInt32 31)).toInt32) &&& 252645135
  let x4 := x3 + (x3.toUInt32 >>> ((nI 8).toUInt32 &&& Int32.toUInt32 31)).toInt32
  let x5 := x4 + (x4.toUInt32 >>> ((nI 16).toUInt32 &&& Int32.toUInt32 31)).toInt32
  x5 &&& nI 63
section TREE2
variable {l : Launch} {g : GG} {A : Nat → Prop} {h : HF}
theorem c_J6_bitCount (x : Int32) : MI l g A h yJ6_bitCount_0f7a4 cJ6_bitCount_0f7a4 1 (some .int) 0 0 0 [.int x] (fun r h1 => r = bcI x ∧ h1 = h) := by
  refine j_met (by decide +kernel) (Nat.le_of_ble_eq_true rfl) (fun X F hn hQ => ?_)
  refine j_iload_n (pc := 0) F dJ6_bitCount_0f7a4_0 rfl ?_
  refine j_iload_n (pc := 1) F dJ6_bitCount_0f7a4_1 rfl ?_
  refine j_iconst (pc := 2) (v := (nI 1)) F dJ6_bitCount_0f7a4_2 (by decide) ?_
  refine j_iushr (pc := 3) F dJ6_bitCount_0f7a4_3 rfl ?_
  refine j_ldcw (pc := 4) F cw_J6_265 dJ6_bitCount_0f7a4_4 ?_
  refine j_iand (pc := 7) F dJ6_bitCount_0f7a4_7 ?_
  first | refine j_isubN (pc := 8) F dJ6_bitCount_0f7a4_8 (by omega) ?_ | refine j_isub (pc := 8) F dJ6_bitCount_0f7a4_8 ?_
  refine j_istore_n (pc := 9) F dJ6_bitCount_0f7a4_9 (by decide) ?_
  refine j_iload_n (pc := 10) F dJ6_bitCount_0f7a4_10 rfl ?_
  refine j_ldcw (pc := 11) F cw_J6_266 dJ6_bitCount_0f7a4_11 ?_
  refine j_iand (pc := 14) F dJ6_bitCount_0f7a4_14 ?_
  refine j_iload_n (pc := 15) F dJ6_bitCount_0f7a4_15 rfl ?_
  refine j_iconst (pc := 16) (v := (nI 2)) F dJ6_bitCount_0f7a4_16 (by decide) ?_
  refine j_iushr (pc := 17) F dJ6_bitCount_0f7a4_17 rfl ?_
  refine j_ldcw (pc := 18) F cw_J6_266 dJ6_bitCount_0f7a4_18 ?_
  refine j_iand (pc := 21) F dJ6_bitCount_0f7a4_21 ?_
  first | refine j_iaddN (pc := 22) F dJ6_bitCount_0f7a4_22 ?_ | refine j_iadd (pc := 22) F dJ6_bitCount_0f7a4_22 ?_
  refine j_istore_n (pc := 23) F dJ6_bitCount_0f7a4_23 (by decide) ?_
  refine j_iload_n (pc := 24) F dJ6_bitCount_0f7a4_24 rfl ?_
  refine j_iload_n (pc := 25) F dJ6_bitCount_0f7a4_25 rfl ?_
  refine j_iconst (pc := 26) (v := (nI 4)) F dJ6_bitCount_0f7a4_26 (by decide) ?_
  refine j_iushr (pc := 27) F dJ6_bitCount_0f7a4_27 rfl ?_
  first | refine j_iaddN (pc := 28) F dJ6_bitCount_0f7a4_28 ?_ | refine j_iadd (pc := 28) F dJ6_bitCount_0f7a4_28 ?_
  refine j_ldcw (pc := 29) F cw_J6_267 dJ6_bitCount_0f7a4_29 ?_
  refine j_iand (pc := 32) F dJ6_bitCount_0f7a4_32 ?_
  refine j_istore_n (pc := 33) F dJ6_bitCount_0f7a4_33 (by decide) ?_
  refine j_iload_n (pc := 34) F dJ6_bitCount_0f7a4_34 rfl ?_
  refine j_iload_n (pc := 35) F dJ6_bitCount_0f7a4_35 rfl ?_
  refine j_bipush (pc := 36) (v := (nI 8)) F dJ6_bitCount_0f7a4_36 (by decide) ?_
  refine j_iushr (pc := 38) F dJ6_bitCount_0f7a4_38 rfl ?_
  first | refine j_iaddN (pc := 39) F dJ6_bitCount_0f7a4_39 ?_ | refine j_iadd (pc := 39) F dJ6_bitCount_0f7a4_39 ?_
  refine j_istore_n (pc := 40) F dJ6_bitCount_0f7a4_40 (by decide) ?_
  refine j_iload_n (pc := 41) F dJ6_bitCount_0f7a4_41 rfl ?_
  refine j_iload_n (pc := 42) F dJ6_bitCount_0f7a4_42 rfl ?_
  refine j_bipush (pc := 43) (v := (nI 16)) F dJ6_bitCount_0f7a4_43 (by decide) ?_
  refine j_iushr (pc := 45) F dJ6_bitCount_0f7a4_45 rfl ?_
  first | refine j_iaddN (pc := 46) F dJ6_bitCount_0f7a4_46 ?_ | refine j_iadd (pc := 46) F dJ6_bitCount_0f7a4_46 ?_
  refine j_istore_n (pc := 47) F dJ6_bitCount_0f7a4_47 (by decide) ?_
  refine j_iload_n (pc := 48) F dJ6_bitCount_0f7a4_48 rfl ?_
  refine j_bipush (pc := 49) (v := (nI 63)) F dJ6_bitCount_0f7a4_49 (by decide) ?_
  refine j_iand (pc := 51) F dJ6_bitCount_0f7a4_51 ?_
  exact j_iret F hQ rfl rfl (by omega) (by omega) dJ6_bitCount_0f7a4_52 ⟨rfl, rfl⟩
theorem c_X7_put {tr ca cp cb u : Nat} {T : RF} {D : UD} {E : Nat → Nat} {C : Nat → Nat → Option Nat} (ht : isTree g h tr ca cp cb T.1 C) (hr : isRt g h T D E u) (hD : dOk D u) (hC : C (D.1 u) (D.2.1 u) = none) : MVo l g A h yX7_put cX7_put 4 2 0 0 [.ref tr, .ref (T.1 u)] (fun h1 => isTree g h1 tr ca cp cb T.1 (cUp C (D.1 u) (D.2.1 u) (some u)) ∧ ∀ b, b ≠ ca → b ≠ cp → b ≠ cb → h1 b = h b) := by
  obtain ⟨e1, ⟨f1, e2, e3⟩, ⟨f2, e4, e5⟩, ⟨f3, e6, e7⟩⟩ := ht
  obtain ⟨r1, r2, r3⟩ := hr
  unfold isPfx at r2
  obtain ⟨o1, o2, o3, o4⟩ := hD
  generalize hpe : D.1 u = pe at *
  generalize hq : D.2.1 u = q at *
  have n1 : tr ≠ ca := ne_of2 e1 e2 (fun z => by cases z)
  have n2 : tr ≠ cp := ne_of2 e1 e4 (fun z => by cases z)
  have n3 : tr ≠ cb := ne_of2 e1 e6 (fun z => by cases z)
  have n4 : ca ≠ cp := fun z => by
    rw [z, e4] at e2
    have := congrArg (fun o : Option va_E => match o with | some (.inl (_, _, .inl _)) => true | _ => false) e2
    simp at this
  have n5 : ca ≠ cb := fun z => by
    rw [z, e6] at e2
    have := congrArg (fun o : Option va_E => match o with | some (.inl (_, _, .inl _)) => true | _ => false) e2
    simp at this
  have n6 : cp ≠ cb := fun z => by
    rw [z, e6] at e4
    have := congrArg (fun o : Option va_E => match o with | some (.inl (_, n, _)) => n | _ => 0) e4
    simp at this
  have n7 : T.1 u ≠ ca := ne_of2 r1 e2 (fun z => by cases z)
  have n8 : T.1 u ≠ cp := ne_of2 r1 e4 (fun z => by cases z)
  refine j_met (by decide +kernel) (Nat.le_of_ble_eq_true rfl) (fun X F hn hQ => ?_)
  first | refine j_aload_n (pc := 0) F dX7_put_0 rfl ?_ | refine j_aload_nq (pc := 0) F dX7_put_0 rfl ?_
  refine j_getN (pc := 1) F fn_X7_28 (by first | assumption | exact hUp_s) (by rfl) dX7_put_1 ?_
  refine j_getN (pc := 4) F fn_X7_32 (by first | assumption | exact hUp_s) (by rfl) dX7_put_4 ?_
  refine j_istore_n (pc := 7) F dX7_put_7 (by decide) ?_
  first | refine j_aload_n (pc := 8) F dX7_put_8 rfl ?_ | refine j_aload_nq (pc := 8) F dX7_put_8 rfl ?_
  refine j_getN (pc := 9) F fn_X7_38 (by first | assumption | exact hUp_s) (by rfl) dX7_put_9 ?_
  refine j_iload_n (pc := 12) F dX7_put_12 rfl ?_
  refine j_ri (j_runS (pc := 13) F (c_X7_cellOf o1 o2) m_X7_cellOf ms_X7_cellOf lk_X7_24 ⟨by decide, by decide⟩ (Nat.le_of_ble_eq_true rfl) ⟨by omega, by omega⟩ rfl dX7_put_13) (fun r h1 hp1 => ?_)
  obtain ⟨rfl, rfl⟩ := hp1
  refine j_istore_n (pc := 16) F dX7_put_16 (by decide) ?_
  refine j_iload_n (pc := 17) F dX7_put_17 rfl ?_
  refine j_iconst (pc := 18) (v := (-1)) F dX7_put_18 (by decide) ?_
  refine j_icmp_eqNI (pc := 19) F 61 dX7_put_19 (by decide) (by omega) (fun c => ?_) (fun c => ?_)
  · rw [q_m1] at c; omega
  · first | refine j_aload_n (pc := 22) F dX7_put_22 rfl ?_ | refine j_aload_nq (pc := 22) F dX7_put_22 rfl ?_
    refine j_get (pc := 23) F fg_X7_11 (by first | assumption | exact hUp_s) (by rfl) dX7_put_23 ?_
    refine j_iload_n (pc := 26) F dX7_put_26 rfl ?_
    first | refine j_aldRN (pc := 27) F (by first | assumption | exact hUp_s) (by omega) (by decide) dX7_put_27 ?_ | refine j_aldEN (pc := 27) F (by first | assumption | exact hUp_s) (by omega) (by decide) dX7_put_27 ?_ | refine j_aldIIN (pc := 27) F (by first | assumption | exact hUp_s) (by omega) (by decide) dX7_put_27 ?_
    refine j_refN (by rw [e3 pe q o1 o2.2, hC]; rfl) ?_
    refine j_ifnonnullN (pc := 28) F dX7_put_28 ?_
    first | refine j_aload_n (pc := 31) F dX7_put_31 rfl ?_ | refine j_aload_nq (pc := 31) F dX7_put_31 rfl ?_
    refine j_get (pc := 32) F fg_X7_11 (by first | assumption | exact hUp_s) (by rfl) dX7_put_32 ?_
    refine j_iload_n (pc := 35) F dX7_put_35 rfl ?_
    first | refine j_aload_n (pc := 36) F dX7_put_36 rfl ?_ | refine j_aload_nq (pc := 36) F dX7_put_36 rfl ?_
    refine j_astRsN (pc := 37) F e2 r1 (by omega) (by decide) dX7_put_37 ?_
    have g1 : hUp h1 ca (aR g 3072 (va_up f1 (pe * 512 + q) (some (T.1 u)))) tr = some (.inr (7, [.ref ca, .ref cp, .ref cb])) := (hUp_n n1).trans e1
    have g2 : hUp h1 ca (aR g 3072 (va_up f1 (pe * 512 + q) (some (T.1 u)))) cp = some (aI g 512 f2) := (hUp_n (Ne.symm n4)).trans e4
    have g3 : hUp h1 ca (aR g 3072 (va_up f1 (pe * 512 + q) (some (T.1 u)))) cb = some (aI g 6 f3) := (hUp_n (Ne.symm n5)).trans e6
    have g4 : hUp h1 ca (aR g 3072 (va_up f1 (pe * 512 + q) (some (T.1 u)))) (T.1 u) = some (.inr (6, [.int (nI pe), .ref (T.2.1 u), .ref (T.2.2.1 u), .int (nI u), .int (nI (E u))])) := (hUp_n n7).trans r1
    have g5 : hUp h1 ca (aR g 3072 (va_up f1 (pe * 512 + q) (some (T.1 u)))) ca = some (aR g 3072 (va_up f1 (pe * 512 + q) (some (T.1 u)))) := hUp_s
    have g6 : ∀ b, b ≠ ca → hUp h1 ca (aR g 3072 (va_up f1 (pe * 512 + q) (some (T.1 u)))) b = h1 b := fun b q => hUp_n q
    generalize hUp h1 ca (aR g 3072 (va_up f1 (pe * 512 + q) (some (T.1 u)))) = h2 at g1 g2 g3 g4 g5 g6 ⊢
    first | refine j_aload_n (pc := 38) F dX7_put_38 rfl ?_ | refine j_aload_nq (pc := 38) F dX7_put_38 rfl ?_
    refine j_get (pc := 39) F fg_X7_17 (by first | assumption | exact hUp_s) (by rfl) dX7_put_39 ?_
    refine j_iload_n (pc := 42) F dX7_put_42 rfl ?_
    refine j_dup2_11 (pc := 43) F dX7_put_43 rfl rfl ?_
    refine j_ialdN (pc := 44) F g2 (by omega) (by decide) dX7_put_44 ?_
    rw [e5 q o2.2]
    refine j_iconst (pc := 45) (v := (nI 1)) F dX7_put_45 (by decide) ?_
    first | refine j_iaddN (pc := 46) F dX7_put_46 ?_ | refine j_iadd (pc := 46) F dX7_put_46 ?_
    refine j_iastN (pc := 47) F (by first | assumption | exact hUp_s) (by omega) (by decide) dX7_put_47 ?_
    have k1 : hUp h2 cp (aI g 512 (upd f2 q (nI (cntQ C q + 1)))) tr = some (.inr (7, [.ref ca, .ref cp, .ref cb])) := (hUp_n n2).trans g1
    have k3 : hUp h2 cp (aI g 512 (upd f2 q (nI (cntQ C q + 1)))) cb = some (aI g 6 f3) := (hUp_n (Ne.symm n6)).trans g3
    have k4 : hUp h2 cp (aI g 512 (upd f2 q (nI (cntQ C q + 1)))) (T.1 u) = some (.inr (6, [.int (nI pe), .ref (T.2.1 u), .ref (T.2.2.1 u), .int (nI u), .int (nI (E u))])) := (hUp_n n8).trans g4
    have k5 : hUp h2 cp (aI g 512 (upd f2 q (nI (cntQ C q + 1)))) ca = some (aR g 3072 (va_up f1 (pe * 512 + q) (some (T.1 u)))) := (hUp_n n4).trans g5
    have k2 : hUp h2 cp (aI g 512 (upd f2 q (nI (cntQ C q + 1)))) cp = some (aI g 512 (upd f2 q (nI (cntQ C q + 1)))) := hUp_s
    have k6 : ∀ b, b ≠ ca → b ≠ cp → hUp h2 cp (aI g 512 (upd f2 q (nI (cntQ C q + 1)))) b = h1 b := fun b q1 q2 => (hUp_n q2).trans (g6 b q1)
    generalize hUp h2 cp (aI g 512 (upd f2 q (nI (cntQ C q + 1)))) = h3 at k1 k2 k3 k4 k5 k6 ⊢
    first | refine j_aload_n (pc := 48) F dX7_put_48 rfl ?_ | refine j_aload_nq (pc := 48) F dX7_put_48 rfl ?_
    refine j_get (pc := 49) F fg_X7_21 (by first | assumption | exact hUp_s) (by rfl) dX7_put_49 ?_
    first | refine j_aload_n (pc := 52) F dX7_put_52 rfl ?_ | refine j_aload_nq (pc := 52) F dX7_put_52 rfl ?_
    refine j_getN (pc := 53) F fn_X7_38 (by first | assumption | exact hUp_s) (by rfl) dX7_put_53 ?_
    refine j_dup2_11 (pc := 56) F dX7_put_56 rfl rfl ?_
    refine j_ialdN (pc := 57) F (by first | assumption | exact hUp_s) (by omega) (by decide) dX7_put_57 ?_
    rw [e7 pe o1]
    refine j_iconst (pc := 58) (v := (nI 1)) F dX7_put_58 (by decide) ?_
    first | refine j_iaddN (pc := 59) F dX7_put_59 ?_ | refine j_iadd (pc := 59) F dX7_put_59 ?_
    refine j_iastN (pc := 60) F (by first | assumption | exact hUp_s) (by omega) (by decide) dX7_put_60 ?_
    refine j_vret F hQ rfl (by omega) (by omega) dX7_put_61 ⟨⟨?_, ⟨va_up f1 (pe * 512 + q) (some (T.1 u)), ?_, fun a b ha hb => ?_⟩, ⟨upd f2 q (nI (cntQ C q + 1)), ?_, fun b hb => ?_⟩, ⟨_, hUp_s, fun a ha => ?_⟩⟩, fun b q1 q2 q3 => ?_⟩
    · rw [hUp_n n3, k1]
    · rw [hUp_n n5, k5]
    · by_cases hab : a = pe ∧ b = q
      · rw [hab.1, hab.2, va_up_self, cUp_s]; rfl
      · rw [va_up_ne _ _ (by omega), cUp_n hab]; exact e3 a b ha hb
    · rw [hUp_n n6, k2]
    · rw [cntQ_in o1 hC]
      by_cases hbq : b = q
      · subst hbq; rw [pk_us, if_pos rfl]
      · rw [pk_un hbq, if_neg hbq]; exact e5 b hb
    · rw [cntP_in o2.2 hC]
      by_cases hap : a = pe
      · subst hap; rw [pk_us, if_pos rfl]
      · rw [pk_un hap, if_neg hap]; exact e7 a ha
    · rw [hUp_n q3, k6 b q1 q2]
theorem c_X7_remove {tr ca cp cb u : Nat} {T : RF} {D : UD} {E : Nat → Nat} {C : Nat → Nat → Option Nat} (ht : isTree g h tr ca cp cb T.1 C) (hr : isRt g h T D E u) (hD : dOk D u) (hC : C (D.1 u) (D.2.1 u) = some u) : MVo l g A h yX7_remove cX7_remove 4 2 0 0 [.ref tr, .ref (T.1 u)] (fun h1 => isTree g h1 tr ca cp cb T.1 (cUp C (D.1 u) (D.2.1 u) none) ∧ ∀ b, b ≠ ca → b ≠ cp → b ≠ cb → h1 b = h b) := by
  obtain ⟨e1, ⟨f1, e2, e3⟩, ⟨f2, e4, e5⟩, ⟨f3, e6, e7⟩⟩ := ht
  obtain ⟨r1, r2, r3⟩ := hr
  unfold isPfx at r2
  obtain ⟨o1, o2, o3, o4⟩ := hD
  generalize hpe : D.1 u = pe at *
  generalize hq : D.2.1 u = q at *
  have n1 : tr ≠ ca := ne_of2 e1 e2 (fun z => by cases z)
  have n2 : tr ≠ cp := ne_of2 e1 e4 (fun z => by cases z)
  have n3 : tr ≠ cb := ne_of2 e1 e6 (fun z => by cases z)
  have n4 : ca ≠ cp := fun z => by
    rw [z, e4] at e2
    have := congrArg (fun o : Option va_E => match o with | some (.inl (_, _, .inl _)) => true | _ => false) e2
    simp at this
  have n5 : ca ≠ cb := fun z => by
    rw [z, e6] at e2
    have := congrArg (fun o : Option va_E => match o with | some (.inl (_, _, .inl _)) => true | _ => false) e2
    simp at this
  have n6 : cp ≠ cb := fun z => by
    rw [z, e6] at e4
    have := congrArg (fun o : Option va_E => match o with | some (.inl (_, n, _)) => n | _ => 0) e4
    simp at this
  have n7 : T.1 u ≠ ca := ne_of2 r1 e2 (fun z => by cases z)
  have n8 : T.1 u ≠ cp := ne_of2 r1 e4 (fun z => by cases z)
  have cQ := cntQ_out (C := C) (p := pe) (q := q) (u := u) o1 hC
  have cP := cntP_out (C := C) (p := pe) (q := q) (u := u) o2.2 hC
  have cq := cQ q
  rw [if_pos rfl] at cq
  have cp' := cP pe
  rw [if_pos rfl] at cp'
  refine j_met (by decide +kernel) (Nat.le_of_ble_eq_true rfl) (fun X F hn hQ => ?_)
  first | refine j_aload_n (pc := 0) F dX7_remove_0 rfl ?_ | refine j_aload_nq (pc := 0) F dX7_remove_0 rfl ?_
  refine j_getN (pc := 1) F fn_X7_28 (by first | assumption | exact hUp_s) (by rfl) dX7_remove_1 ?_
  refine j_getN (pc := 4) F fn_X7_32 (by first | assumption | exact hUp_s) (by rfl) dX7_remove_4 ?_
  refine j_istore_n (pc := 7) F dX7_remove_7 (by decide) ?_
  first | refine j_aload_n (pc := 8) F dX7_remove_8 rfl ?_ | refine j_aload_nq (pc := 8) F dX7_remove_8 rfl ?_
  refine j_getN (pc := 9) F fn_X7_38 (by first | assumption | exact hUp_s) (by rfl) dX7_remove_9 ?_
  refine j_iload_n (pc := 12) F dX7_remove_12 rfl ?_
  refine j_ri (j_runS (pc := 13) F (c_X7_cellOf o1 o2) m_X7_cellOf ms_X7_cellOf lk_X7_24 ⟨by decide, by decide⟩ (Nat.le_of_ble_eq_true rfl) ⟨by omega, by omega⟩ rfl dX7_remove_13) (fun r h1 hp1 => ?_)
  obtain ⟨rfl, rfl⟩ := hp1
  refine j_istore_n (pc := 16) F dX7_remove_16 (by decide) ?_
  refine j_iload_n (pc := 17) F dX7_remove_17 rfl ?_
  refine j_iconst (pc := 18) (v := (-1)) F dX7_remove_18 (by decide) ?_
  refine j_icmp_eqNI (pc := 19) F 62 dX7_remove_19 (by decide) (by omega) (fun c => ?_) (fun c => ?_)
  · rw [q_m1] at c; omega
  · first | refine j_aload_n (pc := 22) F dX7_remove_22 rfl ?_ | refine j_aload_nq (pc := 22) F dX7_remove_22 rfl ?_
    refine j_get (pc := 23) F fg_X7_11 (by first | assumption | exact hUp_s) (by rfl) dX7_remove_23 ?_
    refine j_iload_n (pc := 26) F dX7_remove_26 rfl ?_
    first | refine j_aldRN (pc := 27) F (by first | assumption | exact hUp_s) (by omega) (by decide) dX7_remove_27 ?_ | refine j_aldEN (pc := 27) F (by first | assumption | exact hUp_s) (by omega) (by decide) dX7_remove_27 ?_ | refine j_aldIIN (pc := 27) F (by first | assumption | exact hUp_s) (by omega) (by decide) dX7_remove_27 ?_
    refine j_refS (a := T.1 u) (by rw [e3 pe q o1 o2.2, hC]; rfl) ?_
    first | refine j_aload_n (pc := 28) F dX7_remove_28 rfl ?_ | refine j_aload_nq (pc := 28) F dX7_remove_28 rfl ?_
    refine j_acmp_ne (pc := 29) (rx := some (T.1 u)) (ry := some (T.1 u)) F 62 dX7_remove_29 (by decide) (fun c => absurd rfl c) (fun _ => ?_)
    first | refine j_aload_n (pc := 32) F dX7_remove_32 rfl ?_ | refine j_aload_nq (pc := 32) F dX7_remove_32 rfl ?_
    refine j_get (pc := 33) F fg_X7_11 (by first | assumption | exact hUp_s) (by rfl) dX7_remove_33 ?_
    refine j_iload_n (pc := 36) F dX7_remove_36 rfl ?_
    refine j_null (pc := 37) F dX7_remove_37 ?_
    refine j_astRnN (pc := 38) F e2 (by omega) (by decide) dX7_remove_38 ?_
    have g1 : hUp h1 ca (aR g 3072 (va_up f1 (pe * 512 + q) none)) tr = some (.inr (7, [.ref ca, .ref cp, .ref cb])) := (hUp_n n1).trans e1
    have g2 : hUp h1 ca (aR g 3072 (va_up f1 (pe * 512 + q) none)) cp = some (aI g 512 f2) := (hUp_n (Ne.symm n4)).trans e4
    have g3 : hUp h1 ca (aR g 3072 (va_up f1 (pe * 512 + q) none)) cb = some (aI g 6 f3) := (hUp_n (Ne.symm n5)).trans e6
    have g4 : hUp h1 ca (aR g 3072 (va_up f1 (pe * 512 + q) none)) (T.1 u) = some (.inr (6, [.int (nI pe), .ref (T.2.1 u), .ref (T.2.2.1 u), .int (nI u), .int (nI (E u))])) := (hUp_n n7).trans r1
    have g5 : hUp h1 ca (aR g 3072 (va_up f1 (pe * 512 + q) none)) ca = some (aR g 3072 (va_up f1 (pe * 512 + q) none)) := hUp_s
    have g6 : ∀ b, b ≠ ca → hUp h1 ca (aR g 3072 (va_up f1 (pe * 512 + q) none)) b = h1 b := fun b q => hUp_n q
    generalize hUp h1 ca (aR g 3072 (va_up f1 (pe * 512 + q) none)) = h2 at g1 g2 g3 g4 g5 g6 ⊢
    first | refine j_aload_n (pc := 39) F dX7_remove_39 rfl ?_ | refine j_aload_nq (pc := 39) F dX7_remove_39 rfl ?_
    refine j_get (pc := 40) F fg_X7_17 (by first | assumption | exact hUp_s) (by rfl) dX7_remove_40 ?_
    refine j_iload_n (pc := 43) F dX7_remove_43 rfl ?_
    refine j_dup2_11 (pc := 44) F dX7_remove_44 rfl rfl ?_
    refine j_ialdN (pc := 45) F g2 (by omega) (by decide) dX7_remove_45 ?_
    rw [e5 q o2.2]
    refine j_iconst (pc := 46) (v := (nI 1)) F dX7_remove_46 (by decide) ?_
    first | refine j_isubN (pc := 47) F dX7_remove_47 (by omega) ?_ | refine j_isub (pc := 47) F dX7_remove_47 ?_
    refine j_iastN (pc := 48) F (by first | assumption | exact hUp_s) (by omega) (by decide) dX7_remove_48 ?_
    have k1 : hUp h2 cp (aI g 512 (upd f2 q (nI (cntQ C q - 1)))) tr = some (.inr (7, [.ref ca, .ref cp, .ref cb])) := (hUp_n n2).trans g1
    have k3 : hUp h2 cp (aI g 512 (upd f2 q (nI (cntQ C q - 1)))) cb = some (aI g 6 f3) := (hUp_n (Ne.symm n6)).trans g3
    have k4 : hUp h2 cp (aI g 512 (upd f2 q (nI (cntQ C q - 1)))) (T.1 u) = some (.inr (6, [.int (nI pe), .ref (T.2.1 u), .ref (T.2.2.1 u), .int (nI u), .int (nI (E u))])) := (hUp_n n8).trans g4
    have k5 : hUp h2 cp (aI g 512 (upd f2 q (nI (cntQ C q - 1)))) ca = some (aR g 3072 (va_up f1 (pe * 512 + q) none)) := (hUp_n n4).trans g5
    have k2 : hUp h2 cp (aI g 512 (upd f2 q (nI (cntQ C q - 1)))) cp = some (aI g 512 (upd f2 q (nI (cntQ C q - 1)))) := hUp_s
    have k6 : ∀ b, b ≠ ca → b ≠ cp → hUp h2 cp (aI g 512 (upd f2 q (nI (cntQ C q - 1)))) b = h1 b := fun b q1 q2 => (hUp_n q2).trans (g6 b q1)
    generalize hUp h2 cp (aI g 512 (upd f2 q (nI (cntQ C q - 1)))) = h3 at k1 k2 k3 k4 k5 k6 ⊢
    first | refine j_aload_n (pc := 49) F dX7_remove_49 rfl ?_ | refine j_aload_nq (pc := 49) F dX7_remove_49 rfl ?_
    refine j_get (pc := 50) F fg_X7_21 (by first | assumption | exact hUp_s) (by rfl) dX7_remove_50 ?_
    first | refine j_aload_n (pc := 53) F dX7_remove_53 rfl ?_ | refine j_aload_nq (pc := 53) F dX7_remove_53 rfl ?_
    refine j_getN (pc := 54) F fn_X7_38 (by first | assumption | exact hUp_s) (by rfl) dX7_remove_54 ?_
    refine j_dup2_11 (pc := 57) F dX7_remove_57 rfl rfl ?_
    refine j_ialdN (pc := 58) F (by first | assumption | exact hUp_s) (by omega) (by decide) dX7_remove_58 ?_
    rw [e7 pe o1]
    refine j_iconst (pc := 59) (v := (nI 1)) F dX7_remove_59 (by decide) ?_
    first | refine j_isubN (pc := 60) F dX7_remove_60 (by omega) ?_ | refine j_isub (pc := 60) F dX7_remove_60 ?_
    refine j_iastN (pc := 61) F (by first | assumption | exact hUp_s) (by omega) (by decide) dX7_remove_61 ?_
    refine j_vret F hQ rfl (by omega) (by omega) dX7_remove_62 ⟨⟨?_, ⟨va_up f1 (pe * 512 + q) none, ?_, fun a b ha hb => ?_⟩, ⟨upd f2 q (nI (cntQ C q - 1)), ?_, fun b hb => ?_⟩, ⟨_, hUp_s, fun a ha => ?_⟩⟩, fun b q1 q2 q3 => ?_⟩
    · rw [hUp_n n3, k1]
    · rw [hUp_n n5, k5]
    · by_cases hab : a = pe ∧ b = q
      · rw [hab.1, hab.2, va_up_self, cUp_s]; rfl
      · rw [va_up_ne _ _ (by omega), cUp_n hab]; exact e3 a b ha hb
    · rw [hUp_n n6, k2]
    · have := cQ b
      by_cases hbq : b = q
      · subst hbq; rw [pk_us, cq, Nat.add_sub_cancel]
      · rw [if_neg hbq] at this; rw [pk_un hbq, e5 b hb, this]
    · have := cP a
      by_cases hap : a = pe
      · subst hap; rw [pk_us, cp', Nat.add_sub_cancel]
      · rw [if_neg hap] at this; rw [pk_un hap, e7 a ha, this]
    · rw [hUp_n q3, k6 b q1 q2]
theorem c_X7_longestLengthFor {tr ca cp cb a : Nat} {rA : Nat → Nat} {C : Nat → Nat → Option Nat} (ht : isTree g h tr ca cp cb rA C) (ha : a < 256) : MI l g A h yX7_longestLengthFor cX7_longestLengthFor 4 (some .int) 2 0 0 [.ref tr, .int (nI a)] (fun r h1 => r = lastL (fun i => decide (0 < cntQ C (pnN a i))) 9 ∧ h1 = h) := by
  have e1 := ht.1
  refine j_met (by decide +kernel) (Nat.le_of_ble_eq_true rfl) (fun X F hn hQ => ?_)
  refine j_iconst (pc := 0) (v := (-1)) F dX7_longestLengthFor_0 (by decide) ?_
  refine j_istore_n (pc := 1) F dX7_longestLengthFor_1 (by decide) ?_
  refine j_iconst (pc := 2) (v := (nI 0)) F dX7_longestLengthFor_2 (by decide) ?_
  refine j_istore_n (pc := 3) F dX7_longestLengthFor_3 (by decide) ?_
  have loop : ∀ m i (lv : List (Nat × Value)), 9 < i + m → i ≤ 9 → lall lv [(0, .ref tr), (1, .int (nI a)), (2, .int (lastL (fun i => decide (0 < cntQ C (pnN a i))) i)), (3, .int (nI i))] → J l X g A 4 0 0 h 4 lv [] := by
    intro m
    induction m with
    | zero => intro i lv q1 q2; omega
    | succ m ih =>
      intro i lv q1 q2 q3
      refine j_lv _ q3 ?_
      refine j_iload_n (pc := 4) F dX7_longestLengthFor_4 rfl ?_
      refine j_bipush (pc := 5) (v := (nI 8)) F dX7_longestLengthFor_5 (by decide) ?_
      first | refine j_icmp_gtN (pc := 7) F 30 dX7_longestLengthFor_7 (by decide) (by omega) (by omega) (fun c => ?_) (fun c => ?_) | refine j_icmp_gtIN (pc := 7) F 30 dX7_longestLengthFor_7 (by decide) (by omega) (fun c => ?_) (fun c => ?_) | refine j_icmp_gtNI (pc := 7) F 30 dX7_longestLengthFor_7 (by decide) (by omega) (fun c => ?_) (fun c => ?_) | refine j_icmp_gtI (pc := 7) F 30 dX7_longestLengthFor_7 (by decide) (fun c => ?_) (fun c => ?_)
      · have : i = 9 := by omega
        subst this
        refine j_iload_n (pc := 30) F dX7_longestLengthFor_30 rfl ?_
        exact j_iret F hQ rfl rfl (by omega) (by omega) dX7_longestLengthFor_31 ⟨rfl, rfl⟩
      · first | refine j_aload_n (pc := 10) F dX7_longestLengthFor_10 rfl ?_ | refine j_aload_nq (pc := 10) F dX7_longestLengthFor_10 rfl ?_
        refine j_iload_n (pc := 11) F dX7_longestLengthFor_11 rfl ?_
        refine j_iload_n (pc := 12) F dX7_longestLengthFor_12 rfl ?_
        refine j_ri (j_runSN (pc := 13) F (c_X8_prefixNumber (nI a) (nI i)) m_X8_prefixNumber ms_X8_prefixNumber ln_X7_56 ⟨by decide, by decide⟩ (Nat.le_of_ble_eq_true rfl) ⟨by omega, by omega⟩ rfl dX7_longestLengthFor_13) (fun r h1 hp1 => ?_)
        obtain ⟨rfl, rfl⟩ := hp1
        rw [pnum_nI ha (by omega)]
        refine j_ri (j_runV (pc := 16) F (c_X7_isThere ht (pnN_in ha (by omega))) m_X7_isThere mv_X7_isThere lk_X7_45 (by first | assumption | exact hUp_s) rfl ⟨by decide, by decide⟩ (Nat.le_of_ble_eq_true rfl) ⟨by omega, by omega⟩ rfl dX7_longestLengthFor_16) (fun r h2 hp1 => ?_)
        obtain ⟨rfl, rfl⟩ := hp1
        first | refine j_if_eqB (pc := 19) F 24 dX7_longestLengthFor_19 (by decide) (fun c2 => ?_) (fun c2 => ?_) | refine j_if_eqN (pc := 19) F 24 dX7_longestLengthFor_19 (by decide) (by omega) (fun c2 => ?_) (fun c2 => ?_) | refine j_if_eqI (pc := 19) F 24 dX7_longestLengthFor_19 (by decide) (fun c2 => ?_) (fun c2 => ?_)
        · first | refine j_iincN (pc := 24) F dX7_longestLengthFor_24 rfl (by decide) ?_ | refine j_iincM (pc := 24) F dX7_longestLengthFor_24 rfl (by decide) ?_ | refine j_iinc (pc := 24) F dX7_longestLengthFor_24 rfl rfl (by decide) ?_
          refine j_goto (pc := 27) F 4 dX7_longestLengthFor_27 (by decide) ?_
          refine ih (i + 1) _ (by omega) (by omega) ⟨rfl, rfl, ?_, rfl, trivial⟩
          rw [show lastL (fun i => decide (0 < cntQ C (pnN a i))) (i + 1) = lastL (fun i => decide (0 < cntQ C (pnN a i))) i by rw [lastL, if_neg (by rw [c2]; simp)]]
          rfl
        · refine j_iload_n (pc := 22) F dX7_longestLengthFor_22 rfl ?_
          refine j_istore_n (pc := 23) F dX7_longestLengthFor_23 (by decide) ?_
          first | refine j_iincN (pc := 24) F dX7_longestLengthFor_24 rfl (by decide) ?_ | refine j_iincM (pc := 24) F dX7_longestLengthFor_24 rfl (by decide) ?_ | refine j_iinc (pc := 24) F dX7_longestLengthFor_24 rfl rfl (by decide) ?_
          refine j_goto (pc := 27) F 4 dX7_longestLengthFor_27 (by decide) ?_
          refine ih (i + 1) _ (by omega) (by omega) ⟨rfl, rfl, ?_, rfl, trivial⟩
          rw [show lastL (fun i => decide (0 < cntQ C (pnN a i))) (i + 1) = nI i by rw [lastL, if_pos c2]]
          rfl
  exact loop 10 0 _ (by omega) (by omega) ⟨rfl, rfl, rfl, rfl, trivial⟩
theorem c_X7_nearestAbove {tr ca cp cb q : Nat} {rA : Nat → Nat} {C : Nat → Nat → Option Nat} (ht : isTree g h tr ca cp cb rA C) (hq : 1 ≤ q ∧ q < 512) : MI l g A h yX7_nearestAbove cX7_nearestAbove 3 (some .int) 2 0 0 [.ref tr, .int (nI q)] (fun r h1 => r = (if nab (fun a => decide (0 < cntQ C a)) 9 (q / 2) = 0 then -1 else nI (nab (fun a => decide (0 < cntQ C a)) 9 (q / 2))) ∧ h1 = h) := by
  have e1 := ht.1
  have dv : ∀ a, a < 2 ^ 31 → nI a / nI 2 = nI (a / 2) := fun a ha => pk_div ha (by decide) (by decide)
  refine j_met (by decide +kernel) (Nat.le_of_ble_eq_true rfl) (fun X F hn hQ => ?_)
  refine j_iload_n (pc := 0) F dX7_nearestAbove_0 rfl ?_
  refine j_iconst (pc := 1) (v := (nI 2)) F dX7_nearestAbove_1 (by decide) ?_
  refine j_idiv (pc := 2) F dX7_nearestAbove_2 (by decide) ?_
  rw [dv q (by omega)]
  refine j_istore_n (pc := 3) F dX7_nearestAbove_3 (by decide) ?_
  have loop : ∀ m a (lv : List (Nat × Value)), a < 2 ^ m → a < 512 → lall lv [(0, .ref tr), (1, .int (nI q)), (2, .int (nI a))] → (if nab (fun a => decide (0 < cntQ C a)) (m + 1) a = 0 then (-1 : Int32) else nI (nab (fun a => decide (0 < cntQ C a)) (m + 1) a)) = (if nab (fun a => decide (0 < cntQ C a)) 9 (q / 2) = 0 then -1 else nI (nab (fun a => decide (0 < cntQ C a)) 9 (q / 2))) → J l X g A 3 0 0 h 4 lv [] := by
    intro m
    induction m with
    | zero =>
      intro a lv q1 q2 q3 q4
      have : a = 0 := by omega
      subst this
      refine j_lv _ q3 ?_
      refine j_iload_n (pc := 4) F dX7_nearestAbove_4 rfl ?_
      refine j_iconst (pc := 5) (v := (nI 1)) F dX7_nearestAbove_5 (by decide) ?_
      refine j_icmp_ltN (pc := 6) F 26 dX7_nearestAbove_6 (by decide) (by omega) (by omega) (fun c => ?_) (fun c => ?_)
      · refine j_iconst (pc := 26) (v := (-1)) F dX7_nearestAbove_26 (by decide) ?_
        exact j_iret F hQ rfl rfl (by omega) (by omega) dX7_nearestAbove_27 ⟨by rw [← q4]; rfl, rfl⟩
      · omega
    | succ m ih =>
      intro a lv q1 q2 q3 q4
      refine j_lv _ q3 ?_
      refine j_iload_n (pc := 4) F dX7_nearestAbove_4 rfl ?_
      refine j_iconst (pc := 5) (v := (nI 1)) F dX7_nearestAbove_5 (by decide) ?_
      refine j_icmp_ltN (pc := 6) F 26 dX7_nearestAbove_6 (by decide) (by omega) (by omega) (fun c => ?_) (fun c => ?_)
      · have : a = 0 := by omega
        subst this
        refine j_iconst (pc := 26) (v := (-1)) F dX7_nearestAbove_26 (by decide) ?_
        exact j_iret F hQ rfl rfl (by omega) (by omega) dX7_nearestAbove_27 ⟨by rw [← q4]; rfl, rfl⟩
      · first | refine j_aload_n (pc := 9) F dX7_nearestAbove_9 rfl ?_ | refine j_aload_nq (pc := 9) F dX7_nearestAbove_9 rfl ?_
        refine j_iload_n (pc := 10) F dX7_nearestAbove_10 rfl ?_
        refine j_ri (j_runV (pc := 11) F (c_X7_isThere ht ⟨c, q2⟩) m_X7_isThere mv_X7_isThere lk_X7_45 (by first | assumption | exact hUp_s) rfl ⟨by decide, by decide⟩ (Nat.le_of_ble_eq_true rfl) ⟨by omega, by omega⟩ rfl dX7_nearestAbove_11) (fun r h1 hp1 => ?_)
        obtain ⟨rfl, rfl⟩ := hp1
        first | refine j_if_eqB (pc := 14) F 19 dX7_nearestAbove_14 (by decide) (fun c2 => ?_) (fun c2 => ?_) | refine j_if_eqN (pc := 14) F 19 dX7_nearestAbove_14 (by decide) (by omega) (fun c2 => ?_) (fun c2 => ?_) | refine j_if_eqI (pc := 14) F 19 dX7_nearestAbove_14 (by decide) (fun c2 => ?_) (fun c2 => ?_)
        · refine j_iload_n (pc := 19) F dX7_nearestAbove_19 rfl ?_
          refine j_iconst (pc := 20) (v := (nI 2)) F dX7_nearestAbove_20 (by decide) ?_
          refine j_idiv (pc := 21) F dX7_nearestAbove_21 (by decide) ?_
          rw [dv a (by omega)]
          refine j_istore_n (pc := 22) F dX7_nearestAbove_22 (by decide) ?_
          refine j_goto (pc := 23) F 4 dX7_nearestAbove_23 (by decide) ?_
          refine ih (a / 2) _ (by rw [Nat.pow_succ] at q1; omega) (by omega) ⟨rfl, rfl, rfl, trivial⟩ ?_
          rw [← q4, show nab (fun a => decide (0 < cntQ C a)) (m + 1 + 1) a = nab (fun a => decide (0 < cntQ C a)) (m + 1) (a / 2) by rw [nab, if_neg (by omega), if_neg (by rw [c2]; simp)]]
        · refine j_iload_n (pc := 17) F dX7_nearestAbove_17 rfl ?_
          refine j_iret F hQ rfl rfl (by omega) (by omega) dX7_nearestAbove_18 ⟨?_, rfl⟩
          rw [← q4, show nab (fun a => decide (0 < cntQ C a)) (m + 1 + 1) a = a by rw [nab, if_neg (by omega), if_pos c2], if_neg (by omega)]
  exact loop 8 (q / 2) _ (by omega) (by omega) ⟨rfl, rfl, rfl, trivial⟩ rfl
theorem c_X7_originBits {tr ca cp cb q : Nat} {T : RF} {D : UD} {E : Nat → Nat} {C : Nat → Nat → Option Nat} (ht : isTree g h tr ca cp cb T.1 C) (hL : isLive g h T D E C) (hq : 1 ≤ q ∧ q < 512) : MI l g A h yX7_originBits cX7_originBits 5 (some .int) 3 0 0 [.ref tr, .int (nI q)] (fun r h1 => r = nI (obits (ogn D) (fun p => C p q) 6) ∧ h1 = h) := by
  have e1 := ht.1
  refine j_met (by decide +kernel) (Nat.le_of_ble_eq_true rfl) (fun X F hn hQ => ?_)
  first | refine j_aload_n (pc := 0) F dX7_originBits_0 rfl ?_ | refine j_aload_nq (pc := 0) F dX7_originBits_0 rfl ?_
  refine j_iload_n (pc := 1) F dX7_originBits_1 rfl ?_
  refine j_ri (j_runV (pc := 2) F (c_X7_isThere ht hq) m_X7_isThere mv_X7_isThere lk_X7_45 (by first | assumption | exact hUp_s) rfl ⟨by decide, by decide⟩ (Nat.le_of_ble_eq_true rfl) ⟨by omega, by omega⟩ rfl dX7_originBits_2) (fun r h1 hp1 => ?_)
  obtain ⟨rfl, rfl⟩ := hp1
  first | refine j_if_neB (pc := 5) F 10 dX7_originBits_5 (by decide) (fun c => ?_) (fun c => ?_) | refine j_if_neN (pc := 5) F 10 dX7_originBits_5 (by decide) (by omega) (fun c => ?_) (fun c => ?_) | refine j_if_neI (pc := 5) F 10 dX7_originBits_5 (by decide) (fun c => ?_) (fun c => ?_)
  · refine j_iconst (pc := 10) (v := (nI 0)) F dX7_originBits_10 (by decide) ?_
    refine j_istore_n (pc := 11) F dX7_originBits_11 (by decide) ?_
    refine j_iconst (pc := 12) (v := (nI 0)) F dX7_originBits_12 (by decide) ?_
    refine j_istore_n (pc := 13) F dX7_originBits_13 (by decide) ?_
    have loop : ∀ m i (lv : List (Nat × Value)), 6 < i + m → i ≤ 6 → lall lv [(0, .ref tr), (1, .int (nI q)), (2, .int (nI (obits (ogn D) (fun p => C p q) i))), (3, .int (nI i))] → J l X g A 5 (0 + 0) (0 + 0) h1 14 lv [] := by
      intro m
      induction m with
      | zero => intro i lv q1 q2; omega
      | succ m ih =>
        intro i lv q1 q2 q3
        refine j_lv _ q3 ?_
        refine j_iload_n (pc := 14) F dX7_originBits_14 rfl ?_
        refine j_bipush (pc := 15) (v := (nI 6)) F dX7_originBits_15 (by decide) ?_
        first | refine j_icmp_geN (pc := 17) F 52 dX7_originBits_17 (by decide) (by omega) (by omega) (fun c2 => ?_) (fun c2 => ?_) | refine j_icmp_geIN (pc := 17) F 52 dX7_originBits_17 (by decide) (by omega) (fun c2 => ?_) (fun c2 => ?_) | refine j_icmp_geNI (pc := 17) F 52 dX7_originBits_17 (by decide) (by omega) (fun c2 => ?_) (fun c2 => ?_) | refine j_icmp_geI (pc := 17) F 52 dX7_originBits_17 (by decide) (fun c2 => ?_) (fun c2 => ?_)
        · have : i = 6 := by omega
          subst this
          refine j_iload_n (pc := 52) F dX7_originBits_52 rfl ?_
          exact j_iret F hQ rfl rfl (by omega) (by omega) dX7_originBits_53 ⟨rfl, rfl⟩
        · first | refine j_aload_n (pc := 20) F dX7_originBits_20 rfl ?_ | refine j_aload_nq (pc := 20) F dX7_originBits_20 rfl ?_
          refine j_iload_n (pc := 21) F dX7_originBits_21 rfl ?_
          refine j_iload_n (pc := 22) F dX7_originBits_22 rfl ?_
          refine j_rq (j_runV (pc := 23) F (c_X7_routeOf ht (show i < 6 by omega) hq) m_X7_routeOf mv_X7_routeOf lk_X7_48 (by first | assumption | exact hUp_s) rfl ⟨by decide, by decide⟩ (Nat.le_of_ble_eq_true rfl) ⟨by omega, by omega⟩ rfl dX7_originBits_23) (fun r h2 hp1 => ?_)
          obtain ⟨rfl, rfl⟩ := hp1
          cases hc : C i q with
          | none =>
            refine j_refN rfl ?_
            first | refine j_astore (pc := 26) F dX7_originBits_26 (by decide) ?_ | refine j_astoreq (pc := 26) F dX7_originBits_26 (by decide) ?_ | refine j_astoreN (pc := 26) F dX7_originBits_26 (by decide) ?_
            refine j_aloadN (pc := 28) F dX7_originBits_28 rfl ?_
            refine j_ifnullN (pc := 30) F 46 dX7_originBits_30 (by decide) ?_
            first | refine j_iincN (pc := 46) F dX7_originBits_46 rfl (by decide) ?_ | refine j_iincM (pc := 46) F dX7_originBits_46 rfl (by decide) ?_ | refine j_iinc (pc := 46) F dX7_originBits_46 rfl rfl (by decide) ?_
            refine j_goto (pc := 49) F 14 dX7_originBits_49 (by decide) ?_
            refine ih (i + 1) _ (by omega) (by omega) ⟨rfl, rfl, ?_, rfl, trivial⟩
            rw [show obits (ogn D) (fun p => C p q) (i + 1) = obits (ogn D) (fun p => C p q) i by rw [obits, hc]]
            rfl
          | some u =>
            obtain ⟨w1, w2, w3, w4, w5, w6⟩ := hL i q u (by omega) hq.2 hc
            have w7 := w1.1
            have w8 := w1.2.2
            obtain ⟨y1, w9, y3⟩ := id w8
            have hz := w2.2.2.1.1
            have hog := (w2.2.2.2 (D.2.2.1 u - 1) (by omega)).2
            refine j_refS rfl ?_
            first | refine j_astore (pc := 26) F dX7_originBits_26 (by decide) ?_ | refine j_astoreq (pc := 26) F dX7_originBits_26 (by decide) ?_ | refine j_astoreN (pc := 26) F dX7_originBits_26 (by decide) ?_
            first | refine j_aload (pc := 28) F dX7_originBits_28 rfl ?_ | refine j_aloadq (pc := 28) F dX7_originBits_28 rfl ?_
            refine j_ifnull (pc := 30) F dX7_originBits_30 ?_
            refine j_iload_n (pc := 33) F dX7_originBits_33 rfl ?_
            refine j_iconst (pc := 34) (v := (nI 1)) F dX7_originBits_34 (by decide) ?_
            first | refine j_aload (pc := 35) F dX7_originBits_35 rfl ?_ | refine j_aloadq (pc := 35) F dX7_originBits_35 rfl ?_
            refine j_getN (pc := 37) F fn_X7_68 (by first | assumption | exact hUp_s) (by rfl) dX7_originBits_37 ?_
            refine j_ri (j_runV (pc := 40) F (c_X2_origin w8) m_X2_origin mv_X2_origin lk_X7_72 (by first | assumption | exact hUp_s) rfl ⟨by decide, by decide⟩ (Nat.le_of_ble_eq_true rfl) ⟨by omega, by omega⟩ rfl dX7_originBits_40) (fun r h6 hp1 => ?_)
            obtain ⟨rfl, rfl⟩ := hp1
            rw [pAt_last hz]
            refine j_ishl (pc := 43) F dX7_originBits_43 ?_
            refine j_int (pk_shlN _ (D.2.2.2 u (D.2.2.1 u - 1)) (sh_ok _ (by omega)) ?_) ?_
            · rw [Nat.one_mul]; exact Nat.pow_lt_pow_right (by omega) (by omega)
            · rw [Nat.one_mul]
              refine j_ior (pc := 44) F dX7_originBits_44 ?_
              refine j_int (fa_or _ _) ?_
              refine j_istore_n (pc := 45) F dX7_originBits_45 (by decide) ?_
              first | refine j_iincN (pc := 46) F dX7_originBits_46 rfl (by decide) ?_ | refine j_iincM (pc := 46) F dX7_originBits_46 rfl (by decide) ?_ | refine j_iinc (pc := 46) F dX7_originBits_46 rfl rfl (by decide) ?_
              refine j_goto (pc := 49) F 14 dX7_originBits_49 (by decide) ?_
              refine ih (i + 1) _ (by omega) (by omega) ⟨rfl, rfl, ?_, rfl, trivial⟩
              rw [show obits (ogn D) (fun p => C p q) (i + 1) = obits (ogn D) (fun p => C p q) i ||| 2 ^ ogn D u by rw [obits, hc]]
              rfl
    exact loop 7 0 _ (by omega) (by omega) ⟨rfl, rfl, rfl, rfl, trivial⟩
  · refine j_iconst (pc := 8) (v := (nI 0)) F dX7_originBits_8 (by decide) ?_
    refine j_iret F hQ rfl rfl (by omega) (by omega) dX7_originBits_9 ⟨?_, rfl⟩
    rw [obits_0 (fun p hp => ?_)]
    have h0 := of_decide_eq_false c
    unfold cntQ at h0
    rw [cnt_pos] at h0
    cases hc : C p q with
    | none => rfl
    | some u => exact absurd ⟨p, hp, by rw [hc]; rfl⟩ h0
theorem c_X7_countOrigins {tr ca cp cb q : Nat} {T : RF} {D : UD} {E : Nat → Nat} {C : Nat → Nat → Option Nat} (ht : isTree g h tr ca cp cb T.1 C) (hL : isLive g h T D E C) (hq : 1 ≤ q ∧ q < 512) : MI l g A h yX7_countOrigins cX7_countOrigins 2 (some .int) 4 0 0 [.ref tr, .int (nI q)] (fun r h1 => r = bcI (nI (obits (ogn D) (fun p => C p q) 6)) ∧ h1 = h) := by
  have e1 := ht.1
  refine j_met (by decide +kernel) (Nat.le_of_ble_eq_true rfl) (fun X F hn hQ => ?_)
  first | refine j_aload_n (pc := 0) F dX7_countOrigins_0 rfl ?_ | refine j_aload_nq (pc := 0) F dX7_countOrigins_0 rfl ?_
  refine j_iload_n (pc := 1) F dX7_countOrigins_1 rfl ?_
  refine j_ri (j_runV (pc := 2) F (c_X7_originBits ht hL hq) m_X7_originBits mv_X7_originBits lk_X7_59 (by first | assumption | exact hUp_s) rfl ⟨by decide, by decide⟩ (Nat.le_of_ble_eq_true rfl) ⟨by omega, by omega⟩ rfl dX7_countOrigins_2) (fun r h1 hp1 => ?_)
  obtain ⟨rfl, rfl⟩ := hp1
  refine j_ri (j_runS (pc := 5) F (c_J6_bitCount _) m_J6_bitCount_0f7a4 ms_J6_bitCount_0f7a4 lk_X7_63 ⟨by decide, by decide⟩ (Nat.le_of_ble_eq_true rfl) ⟨by omega, by omega⟩ rfl dX7_countOrigins_5) (fun r h2 hp1 => ?_)
  obtain ⟨rfl, rfl⟩ := hp1
  exact j_iret F hQ rfl rfl (by omega) (by omega) dX7_countOrigins_8 ⟨rfl, rfl⟩
theorem c_X7_hasOrigin {tr ca cp cb q o : Nat} {T : RF} {D : UD} {E : Nat → Nat} {C : Nat → Nat → Option Nat} (ht : isTree g h tr ca cp cb T.1 C) (hL : isLive g h T D E C) (hq : 1 ≤ q ∧ q < 512) (ho : o ≤ 30) : MI l g A h yX7_hasOrigin cX7_hasOrigin 3 (some .boolean) 4 0 0 [.ref tr, .int (nI q), .int (nI o)] (fun r h1 => r = bI ((obits (ogn D) (fun p => C p q) 6).testBit o) ∧ h1 = h) := by
  have e1 := ht.1
  have hb : obits (ogn D) (fun p => C p q) 6 < 2 ^ 31 := obits_lt (fun p u hp hc => by
    obtain ⟨w1, w2, w3, w4, w5, w6⟩ := hL p q u hp hq.2 hc
    have hz := w2.2.2.1.1
    exact (w2.2.2.2 (D.2.2.1 u - 1) (by omega)).2)
  have hb2 : obits (ogn D) (fun p => C p q) 6 &&& 2 ^ o < 2 ^ 31 := Nat.lt_of_le_of_lt Nat.and_le_left hb
  refine j_met (by decide +kernel) (Nat.le_of_ble_eq_true rfl) (fun X F hn hQ => ?_)
  first | refine j_aload_n (pc := 0) F dX7_hasOrigin_0 rfl ?_ | refine j_aload_nq (pc := 0) F dX7_hasOrigin_0 rfl ?_
  refine j_iload_n (pc := 1) F dX7_hasOrigin_1 rfl ?_
  refine j_ri (j_runV (pc := 2) F (c_X7_originBits ht hL hq) m_X7_originBits mv_X7_originBits lk_X7_59 (by first | assumption | exact hUp_s) rfl ⟨by decide, by decide⟩ (Nat.le_of_ble_eq_true rfl) ⟨by omega, by omega⟩ rfl dX7_hasOrigin_2) (fun r h1 hp1 => ?_)
  obtain ⟨rfl, rfl⟩ := hp1
  refine j_iconst (pc := 5) (v := (nI 1)) F dX7_hasOrigin_5 (by decide) ?_
  refine j_iload_n (pc := 6) F dX7_hasOrigin_6 rfl ?_
  refine j_ishl (pc := 7) F dX7_hasOrigin_7 ?_
  refine j_int (pk_shlN _ o (sh_ok _ (by omega)) ?_) ?_
  · rw [Nat.one_mul]; exact Nat.pow_lt_pow_right (by omega) (by omega)
  · rw [Nat.one_mul]
    refine j_iand (pc := 8) F dX7_hasOrigin_8 ?_
    refine j_int (fa_and _ _) ?_
    first | refine j_if_eqB (pc := 9) F 16 dX7_hasOrigin_9 (by decide) (fun c => ?_) (fun c => ?_) | refine j_if_eqN (pc := 9) F 16 dX7_hasOrigin_9 (by decide) (by omega) (fun c => ?_) (fun c => ?_) | refine j_if_eqI (pc := 9) F 16 dX7_hasOrigin_9 (by decide) (fun c => ?_) (fun c => ?_)
    · refine j_iconst (pc := 16) (v := (nI 0)) F dX7_hasOrigin_16 (by decide) ?_
      refine j_iret F hQ rfl rfl (by omega) (by omega) dX7_hasOrigin_17 ⟨?_, rfl⟩
      rw [(nd_bit _ _).mp c]; rfl
    · refine j_iconst (pc := 12) (v := (nI 1)) F dX7_hasOrigin_12 (by decide) ?_
      refine j_goto (pc := 13) F 17 dX7_hasOrigin_13 (by decide) ?_
      refine j_iret F hQ rfl rfl (by omega) (by omega) dX7_hasOrigin_17 ⟨?_, rfl⟩
      cases hb3 : (obits (ogn D) (fun p => C p q) 6).testBit o with
      | true => rfl
      | false => exact absurd ((nd_bit _ _).mpr hb3) c
end TREE2
