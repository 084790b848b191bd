/-! ===== BgpreplayModel: what its object holds ===== -/
def oI : Option Nat → Int32
  | none => -1
  | some u => nI u
theorem oI_m1 {u : Nat} (h : u < 2 ^ 31) : ¬ nI u = -1 := fun z => by
  have := congrArg Int32.toInt z
  rw [nI_toInt h] at this
  have e : (-1 : Int32).toInt = -1 := by decide
  omega
def ix (k : Nat) : Bool := decide (k = 1 ∨ (4 ≤ k ∧ k ≤ 9) ∨ (11 ≤ k ∧ k ≤ 14))
def lenx : Nat → Nat
  | 1 => 8
  | 4 => 300
  | 5 => 300
  | 6 => 300
  | 7 => 300
  | 8 => 2400
  | 9 => 9216
  | 14 => 961
  | _ => 20
abbrev CT : Type := Nat → Nat → Nat → Option Nat
def PAx (s : SG) (CC : CT) (k : Nat) (f : Nat → Int32) : Prop :=
  match k with
  | 1 => ∀ j, j < sz s → f j = nI (sN s j)
  | 4 => ∀ u, u < sm s → f u = nI (sTm s u)
  | 5 => ∀ u, u < sm s → f u = nI ((sD s).1 u)
  | 6 => ∀ u, u < sm s → f u = nI ((sD s).2.1 u)
  | 7 => ∀ u, u < sm s → f u = nI ((sD s).2.2.1 u)
  | 8 => ∀ u j, u < sm s → j < (sD s).2.2.1 u → f (8 * u + j) = nI ((sD s).2.2.2 u j)
  | 9 => ∀ i p q, i < 3 → p < 6 → q < 512 → f (3072 * i + 512 * p + q) = oI (CC i p q)
  | 11 => ∀ i, i < sn s → f i = nI (sQ s i)
  | 12 => ∀ i, i < sn s → f i = nI (sL s i)
  | 13 => ∀ i, i < sn s → f i = nI (sO s i)
  | _ => ∀ i j, i < 31 → j < 31 → f (31 * i + j) = nI (sM s i j)
def mC (s : SG) (th : Nat) (a : Nat → Nat) : va_E := .inr (9, [.int (nI (sT s)), .ref (a 1), .int (nI (sz s)), .int (nI (sm s)), .ref (a 4), .ref (a 5), .ref (a 6), .ref (a 7), .ref (a 8), .ref (a 9), .int (nI (sn s)), .ref (a 11), .ref (a 12), .ref (a 13), .ref (a 14), .int (nI th)])
def isMx (g : GG) (h : HF) (y : Nat) (s : SG) (th : Nat) (a : Nat → Nat) (CC : CT) : Prop := h y = some (mC s th a) ∧ (∀ k, ix k = true → ∃ f, h (a k) = some (aI g (lenx k) f) ∧ PAx s CC k f) ∧ ∀ i j, ix i = true → ix j = true → i ≠ j → a i ≠ a j
def isM (g : GG) (h : HF) (y : Nat) (s : SG) (th : Nat) : Prop := ∃ a CC, isMx g h y s th a CC ∧ ∀ p q, p < 6 → q < 512 → CC 0 p q = tb (sD s) (sm s) p q
section MI0
variable {l : Launch} {g : GG} {A : Nat → Prop} {h h1 : HF} {y : Nat} {s s' : SG} {th th' : Nat} {a : Nat → Nat} {CC CC' : CT}
theorem isMx.cl (z : isMx g h y s th a CC) : h y = some (.inr (9, [.int (nI (sT s)), .ref (a 1), .int (nI (sz s)), .int (nI (sm s)), .ref (a 4), .ref (a 5), .ref (a 6), .ref (a 7), .ref (a 8), .ref (a 9), .int (nI (sn s)), .ref (a 11), .ref (a 12), .ref (a 13), .ref (a 14), .int (nI th)])) := z.1
theorem isMx.a1 (z : isMx g h y s th a CC) : ∃ f, h (a 1) = some (aI g 8 f) ∧ ∀ j, j < sz s → f j = nI (sN s j) := z.2.1 1 rfl
theorem isMx.a4 (z : isMx g h y s th a CC) : ∃ f, h (a 4) = some (aI g 300 f) ∧ ∀ u, u < sm s → f u = nI (sTm s u) := z.2.1 4 rfl
theorem isMx.a5 (z : isMx g h y s th a CC) : ∃ f, h (a 5) = some (aI g 300 f) ∧ ∀ u, u < sm s → f u = nI ((sD s).1 u) := z.2.1 5 rfl
theorem isMx.a6 (z : isMx g h y s th a CC) : ∃ f, h (a 6) = some (aI g 300 f) ∧ ∀ u, u < sm s → f u = nI ((sD s).2.1 u) := z.2.1 6 rfl
theorem isMx.a7 (z : isMx g h y s th a CC) : ∃ f, h (a 7) = some (aI g 300 f) ∧ ∀ u, u < sm s → f u = nI ((sD s).2.2.1 u) := z.2.1 7 rfl
theorem isMx.a8 (z : isMx g h y s th a CC) : ∃ f, h (a 8) = some (aI g 2400 f) ∧ ∀ u j, u < sm s → j < (sD s).2.2.1 u → f (8 * u + j) = nI ((sD s).2.2.2 u j) := z.2.1 8 rfl
theorem isMx.a9 (z : isMx g h y s th a CC) : ∃ f, h (a 9) = some (aI g 9216 f) ∧ ∀ i p q, i < 3 → p < 6 → q < 512 → f (3072 * i + 512 * p + q) = oI (CC i p q) := z.2.1 9 rfl
theorem isMx.a11 (z : isMx g h y s th a CC) : ∃ f, h (a 11) = some (aI g 20 f) ∧ ∀ i, i < sn s → f i = nI (sQ s i) := z.2.1 11 rfl
theorem isMx.a12 (z : isMx g h y s th a CC) : ∃ f, h (a 12) = some (aI g 20 f) ∧ ∀ i, i < sn s → f i = nI (sL s i) := z.2.1 12 rfl
theorem isMx.a13 (z : isMx g h y s th a CC) : ∃ f, h (a 13) = some (aI g 20 f) ∧ ∀ i, i < sn s → f i = nI (sO s i) := z.2.1 13 rfl
theorem isMx.a14 (z : isMx g h y s th a CC) : ∃ f, h (a 14) = some (aI g 961 f) ∧ ∀ i j, i < 31 → j < 31 → f (31 * i + j) = nI (sM s i j) := z.2.1 14 rfl
theorem isMx.ya (z : isMx g h y s th a CC) {k : Nat} (hk : ix k = true) : y ≠ a k := by
  obtain ⟨f, q, -⟩ := z.2.1 k hk
  exact kd_n2 z.1 q (by simp [kd, mC])
/-- another object in the same place, the arrays as before -/
theorem isMx.cell (z : isMx g h y s th a CC) (e : h1 y = some (mC s' th' a)) (hf : ∀ b, b ≠ y → h1 b = h b) (hp : ∀ k f, ix k = true → PAx s CC k f → PAx s' CC' k f) : isMx g h1 y s' th' a CC' :=
  ⟨e, fun k hk => by
    obtain ⟨f, q, p⟩ := z.2.1 k hk
    exact ⟨f, (hf _ (Ne.symm (z.ya hk))).trans q, hp k f hk p⟩, z.2.2⟩
/-- another array in the place of one -/
theorem isMx.arr (z : isMx g h y s th a CC) {k : Nat} {f : Nat → Int32} (hk : ix k = true) (e : h1 (a k) = some (aI g (lenx k) f)) (p : PAx s CC' k f) (hf : ∀ b, b ≠ a k → h1 b = h b) (hp : ∀ i f, ix i = true → i ≠ k → PAx s CC i f → PAx s CC' i f) : isMx g h1 y s th a CC' :=
  ⟨(hf _ (z.ya hk)).trans z.1, fun i hi => by
    by_cases c : i = k
    · subst c; exact ⟨f, e, p⟩
    · obtain ⟨f2, q, p2⟩ := z.2.1 i hi
      exact ⟨f2, (hf _ (z.2.2 i k hi hk c)).trans q, hp i f2 hi c p2⟩, z.2.2⟩
theorem isMx.tw (z : isMx g h y s th a CC) (e : h1 y = some (mC s th' a)) (hf : ∀ b, b ≠ y → h1 b = h b) : isMx g h1 y s th' a CC := z.cell e hf (fun _ _ _ p => p)
theorem PAx_CC {k : Nat} {f : Nat → Int32} (h9 : k ≠ 9) (p : PAx s CC k f) : PAx s CC' k f := by
  unfold PAx at p ⊢
  split at p <;> first | exact p | (exfalso; exact h9 rfl) | skip
  all_goals (split <;> first | exact p | (exfalso; simp_all; done))
def ctUp (CC : CT) (k : Nat) (C : Nat → Nat → Option Nat) : CT := fun i => if i = k then C else CC i
theorem ctUp_s {k : Nat} {C : Nat → Nat → Option Nat} : ctUp CC k C k = C := if_pos rfl
theorem ctUp_n {k i : Nat} {C : Nat → Nat → Option Nat} (n : i ≠ k) : ctUp CC k C i = CC i := if_neg n
def stepD (D : UD) (n : Nat) (C : Nat → Nat → Option Nat) : Nat → Nat → Option Nat := fun p q => if p = D.1 n ∧ (D.2.1 n = 0 ∨ D.2.1 n = q) then (if 0 < D.2.1 n ∧ 0 < D.2.2.1 n then some n else none) else C p q
theorem isMx.t9 (z : isMx g h y s th a CC) {f : Nat → Int32} (e : h1 (a 9) = some (aI g 9216 f)) (p : ∀ i p q, i < 3 → p < 6 → q < 512 → f (3072 * i + 512 * p + q) = oI (CC' i p q)) (hf : ∀ b, b ≠ a 9 → h1 b = h b) : isMx g h1 y s th a CC' :=
  z.arr (k := 9) rfl e p hf (fun i f2 hi hn p2 => PAx_CC hn p2)
theorem c_X9_clearTable {k : Nat} (hk : k < 3) (z : isMx g h y s th a CC) : MVo l g A h yX9_clearTable cX9_clearTable 3 0 0 0 [.ref y, .int (nI k)] (fun h1 => isMx g h1 y s th a (ctUp CC k (fun _ _ => none)) ∧ ∀ b, b ≠ a 9 → h1 b = h b) := by
  have e0 := z.cl
  obtain ⟨f0, q0, p0⟩ := z.a9
  have n0 := z.ya (k := 9) rfl
  refine j_met (by decide +kernel) (Nat.le_of_ble_eq_true rfl) (fun X F hn hQ => ?_)
  refine j_iconst (pc := 0) (v := (nI 0)) F dX9_clearTable_0 (by decide) ?_
  refine j_istore_n (pc := 1) F dX9_clearTable_1 (by decide) ?_
  have loop : ∀ m i (h2 : HF) (f : Nat → Int32) (lv : List (Nat × Value)), 3072 < i + m → i ≤ 3072 → h2 (a 9) = some (aI g 9216 f) → (∀ b, b ≠ a 9 → h2 b = h b) → (∀ j, f j = if 3072 * k ≤ j ∧ j < 3072 * k + i then -1 else f0 j) → lall lv [(0, .ref y), (1, .int (nI k)), (2, .int (nI i))] → J l X g A 3 0 0 h2 2 lv [] := by
    intro m
    induction m with
    | zero => intro i h2 f lv q1 q2; omega
    | succ m ih =>
      intro i h2 f lv q1 q2 q3 q4 q5 q6
      have e2 := (q4 y n0).trans e0
      refine j_lv _ q6 ?_
      refine j_iload_n (pc := 2) F dX9_clearTable_2 rfl ?_
      refine j_sipush (pc := 3) (v := (nI 3072)) F dX9_clearTable_3 (by decide) ?_
      first | refine j_icmp_geN (pc := 6) F 28 dX9_clearTable_6 (by decide) (by omega) (by omega) (fun c => ?_) (fun c => ?_) | refine j_icmp_geIN (pc := 6) F 28 dX9_clearTable_6 (by decide) (by omega) (fun c => ?_) (fun c => ?_) | refine j_icmp_geNI (pc := 6) F 28 dX9_clearTable_6 (by decide) (by omega) (fun c => ?_) (fun c => ?_) | refine j_icmp_geI (pc := 6) F 28 dX9_clearTable_6 (by decide) (fun c => ?_) (fun c => ?_)
      · have : i = 3072 := by omega
        subst this
        refine j_vret F hQ rfl (by omega) (by omega) dX9_clearTable_28 ⟨z.t9 q3 (fun i2 p q h1 h2 h3 => ?_) q4, q4⟩
        rw [q5]
        by_cases c : i2 = k
        · subst c
          rw [if_pos (by omega), ctUp_s]
          rfl
        · rw [if_neg (by omega), ctUp_n c]
          exact p0 i2 p q h1 h2 h3
      · first | refine j_aload_n (pc := 9) F dX9_clearTable_9 rfl ?_ | refine j_aload_nq (pc := 9) F dX9_clearTable_9 rfl ?_
        refine j_get (pc := 10) F fg_X9_28 (by first | assumption | exact hUp_s) (by rfl) dX9_clearTable_10 ?_
        refine j_sipush (pc := 13) (v := (nI 3072)) F dX9_clearTable_13 (by decide) ?_
        refine j_iload_n (pc := 16) F dX9_clearTable_16 rfl ?_
        first | refine j_imulN (pc := 17) F dX9_clearTable_17 ?_ | refine j_imul (pc := 17) F dX9_clearTable_17 ?_
        refine j_iload_n (pc := 18) F dX9_clearTable_18 rfl ?_
        first | refine j_iaddN (pc := 19) F dX9_clearTable_19 ?_ | refine j_iadd (pc := 19) F dX9_clearTable_19 ?_
        refine j_iconst (pc := 20) (v := (-1)) F dX9_clearTable_20 (by decide) ?_
        refine j_iastN (pc := 21) F (by first | assumption | exact hUp_s) (by omega) (by decide) dX9_clearTable_21 ?_
        first | refine j_iincN (pc := 22) F dX9_clearTable_22 rfl (by decide) ?_ | refine j_iincM (pc := 22) F dX9_clearTable_22 rfl (by decide) ?_ | refine j_iinc (pc := 22) F dX9_clearTable_22 rfl rfl (by decide) ?_
        refine j_goto (pc := 25) F 2 dX9_clearTable_25 (by decide) ?_
        refine ih (i + 1) _ _ _ (by omega) (by omega) hUp_s (fun b hb => (hUp_n hb).trans (q4 b hb)) (fun j => ?_) ⟨rfl, rfl, rfl, trivial⟩
        unfold upd
        by_cases c : j = 3072 * k + i
        · rw [if_pos c, if_pos (by omega)]
        · rw [if_neg c, q5]
          by_cases c2 : 3072 * k ≤ j ∧ j < 3072 * k + i
          · rw [if_pos c2, if_pos (by omega)]
          · rw [if_neg c2, if_neg (by omega)]
  exact loop 3073 0 h f0 _ (by omega) (by omega) q0 (fun _ _ => rfl) (fun j => by rw [if_neg (by omega)]) ⟨rfl, rfl, rfl, trivial⟩
end MI0
