/-! ===== the abstract state: time; the path being made; the updates (times; peer, prefix, size, networks); the registry; the relations ===== -/
abbrev SG : Type := Nat × (Nat × (Nat → Nat)) × (Nat × (Nat → Nat) × UD) × (Nat × (Nat → Nat) × (Nat → Nat) × (Nat → Nat)) × (Nat → Nat → Nat)
abbrev sT (s : SG) : Nat := s.1
abbrev sz (s : SG) : Nat := s.2.1.1
abbrev sN (s : SG) : Nat → Nat := s.2.1.2
abbrev sm (s : SG) : Nat := s.2.2.1.1
abbrev sTm (s : SG) : Nat → Nat := s.2.2.1.2.1
abbrev sD (s : SG) : UD := s.2.2.1.2.2
abbrev sn (s : SG) : Nat := s.2.2.2.1.1
abbrev sQ (s : SG) : Nat → Nat := s.2.2.2.1.2.1
abbrev sL (s : SG) : Nat → Nat := s.2.2.2.1.2.2.1
abbrev sO (s : SG) : Nat → Nat := s.2.2.2.1.2.2.2
abbrev sM (s : SG) : Nat → Nat → Nat := s.2.2.2.2
/-- the table after the first n updates: by peer and prefix the number of the update -/
def tb (D : UD) : Nat → Nat → Nat → Option Nat
  | 0 => fun _ _ => none
  | n + 1 => fun p q => if p = D.1 n ∧ (D.2.1 n = 0 ∨ D.2.1 n = q) then (if 0 < D.2.1 n ∧ 0 < D.2.2.1 n then some n else none) else tb D n p q
def annc (D : UD) (u : Nat) : Prop := 0 < D.2.1 u ∧ 0 < D.2.2.1 u
/-- what an update keeps to -/
def uOk (D : UD) (u : Nat) : Prop := D.1 u < 6 ∧ D.2.1 u < 512 ∧ D.2.2.1 u ≤ 8 ∧ (0 < D.2.2.1 u → 0 < D.2.1 u) ∧ ∀ j, j < D.2.2.1 u → 1 ≤ D.2.2.2 u j ∧ D.2.2.2 u j ≤ 30
theorem uOk.d {D : UD} {u : Nat} (h : uOk D u) (a : annc D u) : dOk D u := ⟨h.1, ⟨a.1, h.2.1⟩, ⟨a.2, h.2.2.1⟩, h.2.2.2.2⟩
def wf (s : SG) : Prop := sT s ≤ 1000000 ∧ (sz s ≤ 8 ∧ ∀ j, j < sz s → 1 ≤ sN s j ∧ sN s j ≤ 30) ∧ (sm s ≤ 300 ∧ (∀ u, u < sm s → sTm s u ≤ sT s) ∧ (∀ u v, u ≤ v → v < sm s → sTm s u ≤ sTm s v) ∧ ∀ u, u < sm s → uOk (sD s) u) ∧ (sn s ≤ 20 ∧ ∀ i, i < sn s → 1 ≤ sQ s i ∧ sQ s i < 512 ∧ sL s i ≤ 8 ∧ 1 ≤ sO s i ∧ sO s i ≤ 30) ∧ (∀ i j, sM s i j ≤ 3) ∧ ∀ i, sM s i i = 0
theorem tb_lt {D : UD} : ∀ {n p q u : Nat}, tb D n p q = some u → u < n ∧ D.1 u = p ∧ D.2.1 u = q ∧ annc D u
  | 0, _, _, _, h => by cases h
  | n + 1, p, q, u, h => by
    unfold tb at h
    by_cases c : p = D.1 n ∧ (D.2.1 n = 0 ∨ D.2.1 n = q)
    · rw [if_pos c] at h
      by_cases c2 : 0 < D.2.1 n ∧ 0 < D.2.2.1 n
      · rw [if_pos c2] at h
        cases h
        refine ⟨Nat.lt_succ_self _, c.1.symm, ?_, c2⟩
        rcases c.2 with z | z
        · have := c2.1; omega
        · exact z
      · rw [if_neg c2] at h; cases h
    · rw [if_neg c] at h
      obtain ⟨h1, h2⟩ := tb_lt h
      exact ⟨by omega, h2⟩
theorem tb_0 {D : UD} {n p : Nat} : tb D n p 0 = none := by
  cases e : tb D n p 0 with
  | none => rfl
  | some u => obtain ⟨-, -, h1, h2⟩ := tb_lt e; have := h2.1; omega
theorem tb_congr {D D' : UD} : ∀ {n : Nat}, (∀ u, u < n → D.1 u = D'.1 u ∧ D.2.1 u = D'.2.1 u ∧ D.2.2.1 u = D'.2.2.1 u) → tb D n = tb D' n
  | 0, _ => rfl
  | n + 1, h => by
    obtain ⟨h1, h2, h3⟩ := h n (by omega)
    unfold tb
    rw [tb_congr (fun u hu => h u (by omega)), h1, h2, h3]
/-- one more update -/
def upD (D : UD) (m p q z : Nat) (N : Nat → Nat) : UD := (fun u => if u = m then p else D.1 u, fun u => if u = m then q else D.2.1 u, fun u => if u = m then z else D.2.2.1 u, fun u => if u = m then N else D.2.2.2 u)
theorem upD_s {D : UD} {m p q z : Nat} {N : Nat → Nat} : (upD D m p q z N).1 m = p ∧ (upD D m p q z N).2.1 m = q ∧ (upD D m p q z N).2.2.1 m = z ∧ (upD D m p q z N).2.2.2 m = N := ⟨if_pos rfl, if_pos rfl, if_pos rfl, if_pos rfl⟩
theorem upD_n {D : UD} {m p q z u : Nat} {N : Nat → Nat} (h : u ≠ m) : (upD D m p q z N).1 u = D.1 u ∧ (upD D m p q z N).2.1 u = D.2.1 u ∧ (upD D m p q z N).2.2.1 u = D.2.2.1 u ∧ (upD D m p q z N).2.2.2 u = D.2.2.2 u := ⟨if_neg h, if_neg h, if_neg h, if_neg h⟩
theorem tb_old {D : UD} {m p q z n : Nat} {N : Nat → Nat} (h : n ≤ m) : tb (upD D m p q z N) n = tb D n := tb_congr (fun u hu => by
  obtain ⟨h1, h2, h3, -⟩ := upD_n (D := D) (p := p) (q := q) (z := z) (N := N) (show u ≠ m by omega)
  exact ⟨h1, h2, h3⟩)
theorem tb_new {D : UD} {m p q z : Nat} {N : Nat → Nat} (a b : Nat) : tb (upD D m p q z N) (m + 1) a b = if a = p ∧ (q = 0 ∨ q = b) then (if 0 < q ∧ 0 < z then some m else none) else tb D m a b := by
  obtain ⟨h1, h2, h3, -⟩ := upD_s (D := D) (m := m) (p := p) (q := q) (z := z) (N := N)
  rw [tb, h1, h2, h3, tb_old (Nat.le_refl _)]
/-- the state after one more update -/
def sUp (s : SG) (p q z : Nat) : SG := (sT s, (sz s, sN s), (sm s + 1, fun u => if u = sm s then sT s else sTm s u, upD (sD s) (sm s) p q z (sN s)), (sn s, sQ s, sL s, sO s), sM s)
theorem wf.up {s : SG} {p q z : Nat} (h : wf s) (hm : sm s < 300) (hp : p < 6) (hq : q < 512) (hz : z = 0 ∨ (z = sz s ∧ 0 < q)) : wf (sUp s p q z) := by
  obtain ⟨h1, h2, ⟨h3, h4, h5, h6⟩, h7, h8⟩ := h
  refine ⟨h1, h2, ⟨by show sm s + 1 ≤ 300; omega, fun u hu => ?_, fun u v huv hv => ?_, fun u hu => ?_⟩, h7, h8⟩
  · have hu : u < sm s + 1 := hu
    show (if u = sm s then sT s else sTm s u) ≤ sT s
    by_cases c : u = sm s
    · rw [if_pos c]; exact Nat.le_refl _
    · rw [if_neg c]; exact h4 u (by omega)
  · have hv : v < sm s + 1 := hv
    show (if u = sm s then sT s else sTm s u) ≤ (if v = sm s then sT s else sTm s v)
    by_cases c : v = sm s
    · rw [if_pos c]
      by_cases c2 : u = sm s
      · rw [if_pos c2]; exact Nat.le_refl _
      · rw [if_neg c2]; exact h4 u (by omega)
    · rw [if_neg c, if_neg (by omega)]
      exact h5 u v huv (by omega)
  · have hu : u < sm s + 1 := hu
    by_cases c : u = sm s
    · subst c
      obtain ⟨a1, a2, a3, a4⟩ := upD_s (D := sD s) (m := sm s) (p := p) (q := q) (z := z) (N := sN s)
      show uOk (upD (sD s) (sm s) p q z (sN s)) (sm s)
      unfold uOk
      rw [a1, a2, a3, a4]
      rcases hz with z0 | ⟨z0, z1⟩
      · subst z0
        exact ⟨hp, hq, by omega, fun z => absurd z (Nat.lt_irrefl 0), fun j hj => absurd hj (Nat.not_lt_zero j)⟩
      · subst z0
        exact ⟨hp, hq, h2.1, fun _ => z1, h2.2⟩
    · obtain ⟨a1, a2, a3, a4⟩ := upD_n (D := sD s) (m := sm s) (p := p) (q := q) (z := z) (N := sN s) c
      show uOk (upD (sD s) (sm s) p q z (sN s)) u
      unfold uOk
      rw [a1, a2, a3, a4]
      exact h6 u (by omega)
/-- arguments by their numbers -/
def pN (x : Int32) : Nat := x.toInt.toNat
theorem pN_nI {i : Nat} (h : i < 2 ^ 31) : pN (nI i) = i := by unfold pN; rw [nI_toInt h]; rfl
theorem nI_pN {x : Int32} (h : 0 ≤ x.toInt) : nI (pN x) = x := by
  unfold pN
  have h2 : x.toInt < 2 ^ 31 := x.toInt_lt
  apply Int32.toInt_inj.mp
  rw [nI_toInt (by omega)]
  omega
theorem okPeer.n {x : Int32} (h : okPeer x = true) : x = nI (pN x) ∧ pN x < 6 := by
  have h := of_decide_eq_true h
  exact ⟨(nI_pN h.1).symm, by unfold pN; omega⟩
theorem okNet.n {x : Int32} (h : okNet x = true) : x = nI (pN x) ∧ 1 ≤ pN x ∧ pN x ≤ 30 := by
  have h := of_decide_eq_true h
  exact ⟨(nI_pN (by omega)).symm, by unfold pN; omega⟩
theorem okAdr.n {x : Int32} (h : okAdr x = true) : x = nI (pN x) ∧ pN x < 256 := by
  have h := of_decide_eq_true h
  exact ⟨(nI_pN (by omega)).symm, by unfold pN; omega⟩
/-- the number of a prefix -/
def pqN (a b : Int32) : Nat := pnN (pN a) (pN b)
theorem log2_pn {a b : Nat} (ha : a < 256) (hb : b ≤ 8) : Nat.log2 (pnN a b) = b := by
  have h0 := (pnN_in ha hb).1
  have hp : (256 : Nat) = 2 ^ b * 2 ^ (8 - b) := by rw [← Nat.pow_add, Nat.add_sub_cancel' hb]
  have hpos : 0 < 2 ^ (8 - b) := Nat.pow_pos (by decide)
  apply Nat.le_antisymm
  · have : pnN a b < 2 ^ (b + 1) := by
      unfold pnN
      rw [Nat.div_lt_iff_lt_mul hpos, Nat.pow_succ]
      have e : 2 ^ b * 2 * 2 ^ (8 - b) = 2 * (2 ^ b * 2 ^ (8 - b)) := by rw [Nat.mul_comm (2 ^ b) 2, Nat.mul_assoc]
      rw [e, ← hp]; omega
    have := (Nat.log2_lt (by omega)).mpr this
    omega
  · have : 2 ^ b ≤ pnN a b := by
      unfold pnN
      rw [Nat.le_div_iff_mul_le hpos, ← hp]; omega
    exact (Nat.le_log2 (by omega)).mpr this
theorem okPfx.n {a b : Int32} (h : okPfx a b = true) : a = nI (pN a) ∧ b = nI (Nat.log2 (pqN a b)) ∧ pnum a b = nI (pqN a b) ∧ (1 ≤ pqN a b ∧ pqN a b < 512) ∧ pN a < 256 ∧ pN b = Nat.log2 (pqN a b) := by
  have h := of_decide_eq_true h
  have e1 : a = nI (pN a) := (nI_pN h.1.1).symm
  have e2 : b = nI (pN b) := (nI_pN h.2.1.1).symm
  have b1 : pN a < 256 := by unfold pN; omega
  have b2 : pN b ≤ 8 := by unfold pN; omega
  have e3 := log2_pn b1 b2
  refine ⟨e1, ?_, ?_, pnN_in b1 b2, b1, e3.symm⟩
  · show b = nI (Nat.log2 (pnN (pN a) (pN b)))
    rw [e3]; exact e2
  · conv => lhs; rw [e1, e2]
    exact pnum_nI b1 b2
