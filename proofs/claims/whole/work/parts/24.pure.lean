/-! ===== what is kept, and the tables ===== -/
theorem rfd_none {ok : Nat → Bool} {bf : Nat → Nat → Bool} {K : Nat → Nat} : ∀ {j : Nat}, rfd ok bf K j = none → ∀ i, i < j → ¬ ok (K i) = true
  | 0, _, i, hi => absurd hi (Nat.not_lt_zero i)
  | j + 1, h, i, hi => by
    unfold rfd at h
    by_cases hk : ok (K j) = true
    · rw [if_pos hk] at h
      cases hb : rfd ok bf K j with
      | none => rw [hb] at h; cases h
      | some v => rw [hb] at h; dsimp only at h; split at h <;> cases h
    · rw [if_neg hk] at h
      by_cases c : i = j
      · rw [c]; exact hk
      · exact rfd_none h i (by omega)
theorem rfd_min {ok : Nat → Bool} {bf : Nat → Nat → Bool} {K : Nat → Nat} (irr : ∀ u, bf u u = false) (tr : ∀ u v w, bf u v = true → bf v w = true → bf u w = true) : ∀ {j u : Nat}, rfd ok bf K j = some u → ∀ i, i < j → ok (K i) = true → bf (K i) u = false
  | 0, _, h, i, hi, _ => absurd hi (Nat.not_lt_zero i)
  | j + 1, u, h, i, hi, ho => by
    unfold rfd at h
    by_cases hk : ok (K j) = true
    · rw [if_pos hk] at h
      cases hb : rfd ok bf K j with
      | none =>
        rw [hb] at h; cases h
        by_cases c : i = j
        · rw [c]; exact irr _
        · exact absurd ho (rfd_none hb i (by omega))
      | some v =>
        rw [hb] at h
        dsimp only at h
        by_cases hv : bf (K j) v = true
        · rw [if_pos hv] at h
          cases h
          by_cases c : i = j
          · rw [c]; exact irr _
          · have h1 := rfd_min irr tr hb i (by omega) ho
            cases h2 : bf (K i) (K j) with
            | false => rfl
            | true => rw [tr _ _ _ h2 hv] at h1; cases h1
        · rw [if_neg hv] at h
          cases h
          by_cases c : i = j
          · rw [c]
            cases h2 : bf (K j) u with
            | false => rfl
            | true => exact absurd h2 hv
          · exact rfd_min irr tr hb i (by omega) ho
    · rw [if_neg hk] at h
      by_cases c : i = j
      · rw [c] at ho; exact absurd ho hk
      · exact rfd_min irr tr h i (by omega) ho
theorem bst_min {Z : Nat → Nat} {c : Nat → Option Nat} : ∀ {n u : Nat}, bst Z c n = some u → ∃ p, p < n ∧ c p = some u ∧ ∀ p' v, p' < n → c p' = some v → Z u < Z v ∨ (Z u = Z v ∧ p ≤ p')
  | 0, u, h => by cases h
  | n + 1, u, h => by
    unfold bst at h
    cases hc : c n with
    | none =>
      rw [hc] at h
      obtain ⟨p, h1, h2, h3⟩ := bst_min h
      refine ⟨p, by omega, h2, fun p' v hp' hv => ?_⟩
      by_cases c2 : p' = n
      · rw [c2, hc] at hv; cases hv
      · exact h3 p' v (by omega) hv
    | some w =>
      rw [hc] at h
      cases hb : bst Z c n with
      | none =>
        rw [hb] at h
        cases h
        refine ⟨n, by omega, hc, fun p' v hp' hv => ?_⟩
        by_cases c2 : p' = n
        · rw [c2, hc] at hv; cases hv; exact Or.inr ⟨rfl, by omega⟩
        · rw [bst_none.mp hb p' (by omega)] at hv; cases hv
      | some v0 =>
        rw [hb] at h
        dsimp only at h
        obtain ⟨p, h1, h2, h3⟩ := bst_min hb
        by_cases hz : Z w < Z v0
        · rw [if_pos hz] at h
          cases h
          refine ⟨n, by omega, hc, fun p' v hp' hv => ?_⟩
          by_cases c2 : p' = n
          · rw [c2, hc] at hv; cases hv; exact Or.inr ⟨rfl, by omega⟩
          · have := h3 p' v (by omega) hv; exact Or.inl (by omega)
        · rw [if_neg hz] at h
          cases h
          refine ⟨p, by omega, h2, fun p' v hp' hv => ?_⟩
          by_cases c2 : p' = n
          · rw [c2, hc] at hv; cases hv; omega
          · exact h3 p' v (by omega) hv
theorem bst_cg {Z : Nat → Nat} {c c' : Nat → Option Nat} : ∀ {n : Nat}, (∀ p, p < n → c p = c' p) → bst Z c n = bst Z c' n
  | 0, _ => rfl
  | n + 1, h => by
    unfold bst
    rw [h n (by omega), bst_cg (fun p hp => h p (by omega))]
/-- the best route of a table for a prefix -/
def bstT (D : UD) (n q : Nat) : Option Nat := bst D.2.2.1 (fun p => tb D n p q) 6
/-- the prefix found for an address, of length below k; 0 if there is none -/
def fndp (D : UD) (n a : Nat) : Nat → Nat
  | 0 => 0
  | k + 1 => if (bstT D n (pnN a k)).isSome = true then pnN a k else fndp D n a k
def fnd (D : UD) (n a : Nat) : Option Nat := bstT D n (fndp D n a 9)
def lenF (q : Nat) : Int32 := if q = 0 then -1 else nI (Nat.log2 q)
theorem fndp_at {D : UD} {n a : Nat} : ∀ {k : Nat}, (fndp D n a k = 0 ∧ ∀ i, i < k → bstT D n (pnN a i) = none) ∨ ∃ i, i < k ∧ fndp D n a k = pnN a i ∧ (bstT D n (pnN a i)).isSome = true ∧ ∀ i', i < i' → i' < k → bstT D n (pnN a i') = none
  | 0 => Or.inl ⟨rfl, fun i hi => absurd hi (Nat.not_lt_zero i)⟩
  | k + 1 => by
    unfold fndp
    by_cases c : (bstT D n (pnN a k)).isSome = true
    · rw [if_pos c]
      exact Or.inr ⟨k, by omega, rfl, c, fun i' h1 h2 => absurd h2 (by omega)⟩
    · rw [if_neg c]
      have c' : bstT D n (pnN a k) = none := by
        cases e : bstT D n (pnN a k) with
        | none => rfl
        | some u => rw [e] at c; exact absurd rfl c
      rcases fndp_at (D := D) (n := n) (a := a) (k := k) with ⟨h1, h2⟩ | ⟨i, h1, h2, h3, h4⟩
      · refine Or.inl ⟨h1, fun i hi => ?_⟩
        by_cases e : i = k
        · rw [e]; exact c'
        · exact h2 i (by omega)
      · refine Or.inr ⟨i, by omega, h2, h3, fun i' h5 h6 => ?_⟩
        by_cases e : i' = k
        · rw [e]; exact c'
        · exact h4 i' h5 (by omega)
theorem lastL_f {D : UD} {n a : Nat} (ha : a < 256) : ∀ {k : Nat}, k ≤ 9 → lastL (fun i => decide (0 < cntQ (tb D n) (pnN a i))) k = lenF (fndp D n a k)
  | 0, _ => rfl
  | k + 1, hk => by
    unfold lastL fndp
    have e : (0 < cntQ (tb D n) (pnN a k)) ↔ (bstT D n (pnN a k)).isSome = true := by
      rw [cntQ_bst D.2.2.1]
      show ¬ bstT D n (pnN a k) = none ↔ _
      cases bstT D n (pnN a k) <;> simp
    by_cases c : (bstT D n (pnN a k)).isSome = true
    · rw [if_pos c, if_pos (decide_eq_true (e.mpr c)), lenF, if_neg (by have := (pnN_in ha (show k ≤ 8 by omega)).1; omega), log2_pn ha (by omega)]
    · rw [if_neg c, if_neg (by rw [decide_eq_true_iff]; exact fun z => c (e.mp z))]
      exact lastL_f ha (by omega)
theorem better_irr (z p : Nat) : better z p z p = false := decide_eq_false (by omega)
theorem bfB_irr {D : UD} (u : Nat) : bfB D u u = false := better_irr _ _
theorem bfB_tr {D : UD} (u v w : Nat) (h1 : bfB D u v = true) (h2 : bfB D v w = true) : bfB D u w = true := by
  have h1 := of_decide_eq_true h1
  have h2 := of_decide_eq_true h2
  exact decide_eq_true (by omega)
theorem bfF_irr {D : UD} (u : Nat) : bfF D u u = false := decide_eq_false (by omega)
theorem bfF_tr {D : UD} (u v w : Nat) (h1 : bfF D u v = true) (h2 : bfF D v w = true) : bfF D u w = true := by
  have h1 := of_decide_eq_true h1
  have h2 := of_decide_eq_true h2
  exact decide_eq_true (by omega)
section PUR
variable {D : UD} {E : Nat → Nat} {m kc n : Nat} {K : Nat → Nat}
theorem KE.st (y : KE D E m kc K) (hn : n ≤ m) {j : Nat} (hj : j < kc) (s : stands E n (K j) = true) : tb D n (D.1 (K j)) (D.2.1 (K j)) = some (K j) := by
  obtain ⟨h1, h2⟩ := y.2.1 j hj
  exact ((y.2.2.2 _ h1 h2).2 n hn).mp (of_decide_eq_true s)
theorem KE.ts (y : KE D E m kc K) (hn : n ≤ m) {p q u : Nat} (h : tb D n p q = some u) : stands E n u = true ∧ ∃ j, j < kc ∧ K j = u := by
  obtain ⟨h1, rfl, rfl, h4⟩ := tb_lt h
  exact ⟨decide_eq_true (((y.2.2.2 u (by omega) h4).2 n hn).mpr h), y.2.2.1 u (by omega) h4⟩
theorem rfdB (y : KE D E m kc K) (hn : n ≤ m) (d : ∀ j, j < kc → D.1 (K j) < 6) (q : Nat) : rfd (okB D E n q) (bfB D) K kc = bstT D n q := by
  cases hb : bstT D n q with
  | none =>
    cases hr : rfd (okB D E n q) (bfB D) K kc with
    | none => rfl
    | some u =>
      obtain ⟨i, h1, rfl, h3⟩ := rfd_in hr
      rw [okB, Bool.and_eq_true] at h3
      have h4 := y.st hn h1 h3.1
      rw [of_decide_eq_true h3.2] at h4
      rw [bst_none.mp hb _ (d i h1)] at h4
      cases h4
  | some u =>
    obtain ⟨p, h1, h2, h3⟩ := bst_min hb
    have h2' : tb D n p q = some u := h2
    obtain ⟨s1, j, s2, s3⟩ := y.ts hn h2'
    obtain ⟨t1, t2, t3, t4⟩ := tb_lt h2'
    have ok : okB D E n q (K j) = true := by rw [okB, s3, s1, t3]; simp
    cases hr : rfd (okB D E n q) (bfB D) K kc with
    | none => exact absurd ok (rfd_none hr j s2)
    | some v =>
      obtain ⟨i, x1, x2, x3⟩ := rfd_in hr
      have x4 := rfd_min bfB_irr bfB_tr hr j s2 ok
      rw [s3] at x4
      rw [okB, Bool.and_eq_true] at x3
      subst x2
      have x5 := y.st hn x1 x3.1
      rw [of_decide_eq_true x3.2] at x5
      have x6 := h3 _ _ (d i x1) x5
      have x7 := of_decide_eq_false x4
      have : D.1 (K i) = p := by omega
      rw [this, h2'] at x5
      exact x5.symm
theorem rfdF (y : KE D E m kc K) (hn : n ≤ m) (d : ∀ j, j < kc → D.1 (K j) < 6 ∧ D.2.1 (K j) < 512) {a : Nat} (ha : a < 256) : rfd (okF D E n a) (bfF D) K kc = fnd D n a := by
  have hin : ∀ i, i < kc → okF D E n a (K i) = true → tb D n (D.1 (K i)) (D.2.1 (K i)) = some (K i) ∧ pnN a (Nat.log2 (D.2.1 (K i))) = D.2.1 (K i) ∧ ¬ bstT D n (D.2.1 (K i)) = none := fun i hi h3 => by
    rw [okF, Bool.and_eq_true] at h3
    have h4 := y.st hn hi h3.1
    refine ⟨h4, of_decide_eq_true h3.2, fun z => ?_⟩
    rw [bst_none.mp z _ (d i hi).1] at h4
    cases h4
  rcases fndp_at (D := D) (n := n) (a := a) (k := 9) with ⟨h1, h2⟩ | ⟨i0, h1, h2, h3, h4⟩
  · have e : fnd D n a = none := by
      unfold fnd
      rw [h1]
      exact bst_none.mpr (fun p _ => tb_0)
    rw [e]
    cases hr : rfd (okF D E n a) (bfF D) K kc with
    | none => rfl
    | some u =>
      obtain ⟨i, x1, rfl, x3⟩ := rfd_in hr
      obtain ⟨w1, w2, w3⟩ := hin i x1 x3
      have := log2_le (d i x1).2
      rw [← w2, h2 _ (by omega)] at w3
      exact absurd rfl w3
  · have hi0 := log2_pn ha (show i0 ≤ 8 by omega)
    cases hb : bstT D n (pnN a i0) with
    | none => rw [hb] at h3; cases h3
    | some u =>
      have e : fnd D n a = some u := by unfold fnd; rw [h2]; exact hb
      rw [e]
      obtain ⟨p, g1, g2, g3⟩ := bst_min hb
      have g2' : tb D n p (pnN a i0) = some u := g2
      obtain ⟨s1, j, s2, s3⟩ := y.ts hn g2'
      obtain ⟨t1, t2, t3, t4⟩ := tb_lt g2'
      have ok : okF D E n a (K j) = true := by rw [okF, s3, s1, t3, hi0]; simp
      cases hr : rfd (okF D E n a) (bfF D) K kc with
      | none => exact absurd ok (rfd_none hr j s2)
      | some v =>
        obtain ⟨i, x1, x2, x3⟩ := rfd_in hr
        have x4 := rfd_min bfF_irr bfF_tr hr j s2 ok
        rw [s3] at x4
        subst x2
        obtain ⟨w1, w2, w3⟩ := hin i x1 x3
        have w4 := log2_le (d i x1).2
        have w5 : ¬ i0 < Nat.log2 (D.2.1 (K i)) := fun z => w3 (by rw [← w2]; exact h4 _ z (by omega))
        have x7 := of_decide_eq_false x4
        rw [t3, hi0] at x7
        have w6 : Nat.log2 (D.2.1 (K i)) = i0 := by omega
        rw [w6] at w2 x7
        rw [← w2] at w1
        have x6 := g3 _ _ (d i x1).1 w1
        have : D.1 (K i) = p := by omega
        rw [this, g2'] at w1
        exact congrArg some (Option.some.inj w1).symm
end PUR
/-- how many updates are no later than a time -/
def cAt (s : SG) (x : Int32) : Nat := cnt (fun u => decide ((sTm s u : Int) ≤ x.toInt)) (sm s)
theorem cnt_pre {f : Nat → Bool} {c : Nat} : ∀ {n : Nat}, c ≤ n → (∀ j, j < c → f j = true) → (∀ j, c ≤ j → j < n → f j = false) → cnt f n = c
  | 0, h, _, _ => by show (0 : Nat) = c; omega
  | n + 1, h, h1, h2 => by
    unfold cnt
    by_cases e : c = n + 1
    · rw [if_pos (h1 n (by omega)), cnt_pre (c := n) (Nat.le_refl _) (fun j hj => h1 j (by omega)) (fun j a b => absurd b (by omega)), e]
    · rw [if_neg (by rw [h2 n (by omega) (by omega)]; simp), cnt_pre (c := c) (by omega) h1 (fun j a b => h2 j a (by omega))]
      rfl
theorem cAt_of {s : SG} {x : Int32} {c : Nat} (w : wf s) (h : c ≤ sm s) (h1 : ∀ j, j < c → (sTm s j : Int) ≤ x.toInt) (h2 : c < sm s → x.toInt < (sTm s c : Int)) : c = cAt s x := by
  refine (cnt_pre h (fun j hj => decide_eq_true (h1 j hj)) (fun j a b => decide_eq_false ?_)).symm
  have := w.2.2.1.2.2.1 c j a b
  have := h2 (by omega)
  omega
theorem cAt_le {s : SG} {x : Int32} : cAt s x ≤ sm s := cnt_le _ _
theorem cAt_at {s : SG} {x : Int32} (w : wf s) {j : Nat} (hj : j < sm s) : ((sTm s j : Int) ≤ x.toInt) ↔ j < cAt s x := by
  have hex : ∀ n, n ≤ sm s → ∃ c, c ≤ n ∧ (∀ j, j < c → (sTm s j : Int) ≤ x.toInt) ∧ (c < n → x.toInt < (sTm s c : Int)) := by
    intro n
    induction n with
    | zero => intro _; exact ⟨0, Nat.le_refl _, fun j hj => absurd hj (Nat.not_lt_zero j), fun z => absurd z (Nat.lt_irrefl 0)⟩
    | succ n ih =>
      intro hn
      obtain ⟨c, h1, h2, h3⟩ := ih (by omega)
      by_cases e : c = n
      · by_cases z : (sTm s n : Int) ≤ x.toInt
        · refine ⟨n + 1, Nat.le_refl _, fun j hj => ?_, fun z => absurd z (Nat.lt_irrefl _)⟩
          by_cases e2 : j = n
          · rw [e2]; exact z
          · exact h2 j (by omega)
        · exact ⟨c, by omega, h2, fun _ => by rw [e]; omega⟩
      · exact ⟨c, by omega, h2, fun _ => h3 (by omega)⟩
  obtain ⟨c, h1, h2, h3⟩ := hex _ (Nat.le_refl _)
  have e := cAt_of w h1 h2 h3
  rw [← e]
  constructor
  · intro z
    apply Classical.byContradiction
    intro z2
    have := w.2.2.1.2.2.1 c j (by omega) hj
    have := h3 (by omega)
    omega
  · exact h2 j
