/-! ===== Integer.bitCount counts bits ===== -/
def bP (a : Nat) : Nat := cnt (fun i => a.testBit i) 8
def bu1 (a : Nat) : Nat := a - ((a / 2) &&& 85)
def bv1 (a : Nat) : Nat := (bu1 a &&& 51) + ((bu1 a / 4) &&& 51)
theorem by_1 : ∀ a, a < 256 → ((a / 2) &&& 85) ≤ a ∧ bu1 a < 256 ∧ ((a / 2 + 128 * 0) &&& 85) = ((a / 2) &&& 85) ∧ ((a / 2 + 128 * 1) &&& 85) = ((a / 2) &&& 85) ∧ a / 2 + 128 < 256 := by decide +kernel
theorem by_2 : ∀ a, a < 256 → (((bu1 a / 4 + 64 * 0) &&& 51) = ((bu1 a / 4) &&& 51) ∧ ((bu1 a / 4 + 64 * 1) &&& 51) = ((bu1 a / 4) &&& 51) ∧ ((bu1 a / 4 + 64 * 2) &&& 51) = ((bu1 a / 4) &&& 51) ∧ ((bu1 a / 4 + 64 * 3) &&& 51) = ((bu1 a / 4) &&& 51)) ∧ bv1 a < 256 ∧ bv1 a % 16 ≤ 4 ∧ bv1 a / 16 ≤ 4 ∧ (bu1 a &&& 51) < 256 ∧ ((bu1 a / 4) &&& 51) < 256 := by decide +kernel
theorem by_3 : ∀ a, a < 256 → ∀ t, t < 5 → bv1 a + bv1 a / 16 + 16 * t < 256 ∧ ((bv1 a + bv1 a / 16 + 16 * t) &&& 15) = bP a ∧ bP a ≤ 8 := by decide +kernel
theorem by_and {a m x M : Nat} (ha : a < 256) (hm : m < 256) : (a + 256 * x) &&& (m + 256 * M) = (a &&& m) + 256 * (x &&& M) := by
  have h1 : (a &&& m) < 2 ^ 8 := Nat.lt_of_le_of_lt Nat.and_le_left ha
  rw [Nat.add_comm a, Nat.add_comm m, Nat.add_comm (a &&& m)]
  apply Nat.eq_of_testBit_eq
  intro i
  rw [Nat.testBit_and, Nat.testBit_two_pow_mul_add (i := 8) x ha, Nat.testBit_two_pow_mul_add (i := 8) M hm, Nat.testBit_two_pow_mul_add (i := 8) (x &&& M) h1, Nat.testBit_and, Nat.testBit_and]
  split <;> rfl
theorem by_and4 {a b c d m : Nat} (ha : a < 256) (hb : b < 256) (hc : c < 256) (hd : d < 256) (hm : m < 256) : (a + 256 * (b + 256 * (c + 256 * d))) &&& (m + 256 * (m + 256 * (m + 256 * m))) = (a &&& m) + 256 * ((b &&& m) + 256 * ((c &&& m) + 256 * (d &&& m))) := by
  rw [by_and ha hm, by_and hb hm, by_and hc hm]
def pcN (n : Nat) : Nat :=
  let x1 := n - ((n / 2) &&& 1431655765)
  let x2 := (x1 &&& 858993459) + ((x1 / 4) &&& 858993459)
  let x3 := (x2 + x2 / 16) &&& 252645135
  let x4 := x3 + x3 / 256
  let x5 := x4 + x4 / 65536
  x5 &&& 63
theorem by_m1 {a t : Nat} (ha : a < 256) (ht : t < 2) : ((a / 2 + 128 * t) &&& 85) = ((a / 2) &&& 85) := by
  obtain ⟨-, -, h1, h2, -⟩ := by_1 a ha
  rcases (show t = 0 ∨ t = 1 by omega) with rfl | rfl
  · exact h1
  · exact h2
theorem by_m2 {a t : Nat} (ha : a < 256) (ht : t < 4) : ((bu1 a / 4 + 64 * t) &&& 51) = ((bu1 a / 4) &&& 51) := by
  obtain ⟨⟨h1, h2, h3, h4⟩, -⟩ := by_2 a ha
  rcases (show t = 0 ∨ t = 1 ∨ t = 2 ∨ t = 3 by omega) with rfl | rfl | rfl | rfl
  · exact h1
  · exact h2
  · exact h3
  · exact h4
theorem pcN_4 {a b c d : Nat} (ha : a < 256) (hb : b < 256) (hc : c < 256) (hd : d < 256) : pcN (a + 256 * (b + 256 * (c + 256 * d))) = bP a + bP b + bP c + bP d := by
  obtain ⟨a1, a2, -, -, a3⟩ := by_1 a ha
  obtain ⟨b1, b2, -, -, b3⟩ := by_1 b hb
  obtain ⟨c1, c2, -, -, c3⟩ := by_1 c hc
  obtain ⟨d1, d2, -, -, d3⟩ := by_1 d hd
  have s1 : ((a + 256 * (b + 256 * (c + 256 * d))) / 2 &&& 1431655765) = ((a / 2) &&& 85) + 256 * (((b / 2) &&& 85) + 256 * (((c / 2) &&& 85) + 256 * ((d / 2) &&& 85))) := by
    have e : (a + 256 * (b + 256 * (c + 256 * d))) / 2 = (a / 2 + 128 * (b % 2)) + 256 * ((b / 2 + 128 * (c % 2)) + 256 * ((c / 2 + 128 * (d % 2)) + 256 * (d / 2 + 128 * 0))) := by omega
    rw [e, show (1431655765 : Nat) = 85 + 256 * (85 + 256 * (85 + 256 * 85)) from rfl, by_and4 (by omega) (by omega) (by omega) (by omega) (by decide), by_m1 ha (by omega), by_m1 hb (by omega), by_m1 hc (by omega), by_m1 hd (by omega)]
  have s2 : (a + 256 * (b + 256 * (c + 256 * d))) - ((a + 256 * (b + 256 * (c + 256 * d))) / 2 &&& 1431655765) = bu1 a + 256 * (bu1 b + 256 * (bu1 c + 256 * bu1 d)) := by
    rw [s1]; unfold bu1; omega
  obtain ⟨-, e1, e2, e3, e4, e5⟩ := by_2 a ha
  obtain ⟨-, f1, f2, f3, f4, f5⟩ := by_2 b hb
  obtain ⟨-, g1, g2, g3, g4, g5⟩ := by_2 c hc
  obtain ⟨-, h1, h2, h3, h4, h5⟩ := by_2 d hd
  have s3 : ((bu1 a + 256 * (bu1 b + 256 * (bu1 c + 256 * bu1 d))) &&& 858993459) + ((bu1 a + 256 * (bu1 b + 256 * (bu1 c + 256 * bu1 d))) / 4 &&& 858993459) = bv1 a + 256 * (bv1 b + 256 * (bv1 c + 256 * bv1 d)) := by
    have e : (bu1 a + 256 * (bu1 b + 256 * (bu1 c + 256 * bu1 d))) / 4 = (bu1 a / 4 + 64 * (bu1 b % 4)) + 256 * ((bu1 b / 4 + 64 * (bu1 c % 4)) + 256 * ((bu1 c / 4 + 64 * (bu1 d % 4)) + 256 * (bu1 d / 4 + 64 * 0))) := by omega
    rw [e, show (858993459 : Nat) = 51 + 256 * (51 + 256 * (51 + 256 * 51)) from rfl, by_and4 a2 b2 c2 d2 (by decide), by_and4 (by omega) (by omega) (by omega) (by omega) (by decide), by_m2 ha (by omega), by_m2 hb (by omega), by_m2 hc (by omega), by_m2 hd (by omega)]
    unfold bv1; omega
  have s4 : ((bv1 a + 256 * (bv1 b + 256 * (bv1 c + 256 * bv1 d))) + (bv1 a + 256 * (bv1 b + 256 * (bv1 c + 256 * bv1 d))) / 16 &&& 252645135) = bP a + 256 * (bP b + 256 * (bP c + 256 * bP d)) := by
    obtain ⟨i1, i2, i3⟩ := by_3 a ha (bv1 b % 16) (by omega)
    obtain ⟨j1, j2, j3⟩ := by_3 b hb (bv1 c % 16) (by omega)
    obtain ⟨k1, k2, k3⟩ := by_3 c hc (bv1 d % 16) (by omega)
    obtain ⟨l1, l2, l3⟩ := by_3 d hd 0 (by omega)
    have e : (bv1 a + 256 * (bv1 b + 256 * (bv1 c + 256 * bv1 d))) + (bv1 a + 256 * (bv1 b + 256 * (bv1 c + 256 * bv1 d))) / 16 = (bv1 a + bv1 a / 16 + 16 * (bv1 b % 16)) + 256 * ((bv1 b + bv1 b / 16 + 16 * (bv1 c % 16)) + 256 * ((bv1 c + bv1 c / 16 + 16 * (bv1 d % 16)) + 256 * (bv1 d + bv1 d / 16 + 16 * 0))) := by omega
    rw [e, show (252645135 : Nat) = 15 + 256 * (15 + 256 * (15 + 256 * 15)) from rfl, by_and4 i1 j1 k1 l1 (by decide), i2, j2, k2, l2]
  have i3 := (by_3 a ha 0 (by omega)).2.2
  have j3 := (by_3 b hb 0 (by omega)).2.2
  have k3 := (by_3 c hc 0 (by omega)).2.2
  have l3 := (by_3 d hd 0 (by omega)).2.2
  unfold pcN
  simp only [s2, s3, s4]
  rw [show (63 : Nat) = 2 ^ 6 - 1 from rfl, Nat.and_two_pow_sub_one_eq_mod]
  generalize bP a = p0 at *
  generalize bP b = p1 at *
  generalize bP c = p2 at *
  generalize bP d = p3 at *
  have q1 : (p0 + 256 * (p1 + 256 * (p2 + 256 * p3))) / 256 = p1 + 256 * (p2 + 256 * p3) := by omega
  have q2 : p0 + 256 * (p1 + 256 * (p2 + 256 * p3)) + (p1 + 256 * (p2 + 256 * p3)) = (p0 + p1) + 256 * ((p1 + p2) + 256 * ((p2 + p3) + 256 * p3)) := by omega
  have q3 : ((p0 + p1) + 256 * ((p1 + p2) + 256 * ((p2 + p3) + 256 * p3))) / 65536 = (p2 + p3) + 256 * p3 := by omega
  rw [q1, q2, q3]
  clear q1 q2 q3 s1 s2 s3 s4
  omega
theorem cnt_add {f : Nat → Bool} {m : Nat} : ∀ {n : Nat}, cnt f (m + n) = cnt f m + cnt (fun i => f (m + i)) n
  | 0 => rfl
  | n + 1 => by
    show cnt f (m + n) + (if f (m + n) = true then 1 else 0) = cnt f m + (cnt (fun i => f (m + i)) n + (if f (m + n) = true then 1 else 0))
    rw [cnt_add]; omega
theorem pcN_cnt {n : Nat} (hn : n < 2 ^ 32) : pcN n = cnt (fun i => n.testBit i) 32 := by
  have e : n = n % 256 + 256 * (n / 2 ^ 8 % 256 + 256 * (n / 2 ^ 16 % 256 + 256 * (n / 2 ^ 24 % 256))) := by omega
  have hb : ∀ k, bP (n / 2 ^ k % 256) = cnt (fun i => n.testBit (k + i)) 8 := fun k => by
    unfold bP
    apply cnt_congr
    intro i hi
    rw [show (256 : Nat) = 2 ^ 8 from rfl, Nat.testBit_mod_two_pow, Nat.testBit_div_two_pow, decide_eq_true hi, Bool.true_and, Nat.add_comm]
  have h0 : bP (n % 256) = cnt (fun i => n.testBit i) 8 := by
    have := hb 0
    rw [Nat.pow_zero, Nat.div_one] at this
    rw [this]
    exact cnt_congr (fun i _ => by rw [Nat.zero_add])
  have h1 := pcN_4 (a := n % 256) (b := n / 2 ^ 8 % 256) (c := n / 2 ^ 16 % 256) (d := n / 2 ^ 24 % 256) (by omega) (by omega) (by omega) (by omega)
  rw [← e] at h1
  rw [h1, h0, hb, hb, hb, show (32 : Nat) = 24 + 8 from rfl, cnt_add, show (24 : Nat) = 16 + 8 from rfl, cnt_add, show (16 : Nat) = 8 + 8 from rfl, cnt_add]
theorem su_ok : ∀ n, n < 32 → (((nI n).toUInt32 &&& Int32.toUInt32 31).toBitVec % 32).toNat = n := by decide +kernel
theorem bcI_nI {n : Nat} (hn : n < 2 ^ 32) : bcI (nI n) = nI (pcN n) := by
  have us : ∀ {x : Nat}, x < 2 ^ 32 → ∀ k, k < 32 → ((nI x).toUInt32 >>> ((nI k).toUInt32 &&& Int32.toUInt32 31)).toInt32 = nI (x / 2 ^ k) := fun hx k hk => pk_ushrN hx _ k (su_ok k hk)
  have le2 : (n / 2 &&& 1431655765) ≤ n := Nat.le_trans Nat.and_le_left (Nat.div_le_self _ _)
  unfold bcI pcN
  simp only []
  rw [us hn 1 (by decide), show (1431655765 : Int32) = nI 1431655765 from rfl, fa_and, Nat.pow_one, pk_sub le2]
  generalize hx1 : n - (n / 2 &&& 1431655765) = x1
  have l1 : x1 < 2 ^ 32 := by omega
  rw [us l1 2 (by decide), show (858993459 : Int32) = nI 858993459 from rfl, fa_and, fa_and, nI_add]
  generalize hx2 : (x1 &&& 858993459) + (x1 / 2 ^ 2 &&& 858993459) = x2
  have l2 : x2 < 2 ^ 32 := by
    have z1 : (x1 &&& 858993459) ≤ 858993459 := Nat.and_le_right
    have z2 : (x1 / 2 ^ 2 &&& 858993459) ≤ 858993459 := Nat.and_le_right
    omega
  rw [us l2 4 (by decide), nI_add, show (252645135 : Int32) = nI 252645135 from rfl, fa_and]
  generalize hx3 : (x2 + x2 / 2 ^ 4 &&& 252645135) = x3
  have l3 : x3 ≤ 252645135 := by rw [← hx3]; exact Nat.and_le_right
  rw [us (show x3 < 2 ^ 32 by omega) 8 (by decide), nI_add]
  generalize hx4 : x3 + x3 / 2 ^ 8 = x4
  have l4 : x4 < 2 ^ 32 := by
    have : x3 / 2 ^ 8 ≤ x3 := Nat.div_le_self _ _
    omega
  rw [us l4 16 (by decide), nI_add, fa_and]
theorem pop_ok {O : Nat → Nat} {c : Nat → Option Nat} : ∀ {n : Nat}, (∀ p u, p < n → c p = some u → O u ≤ 30) → cnt (fun i => (obits O c n).testBit i) 32 = dcnt O c n
  | 0, _ => by
    show cnt (fun i => (0 : Nat).testBit i) 32 = 0
    rw [cnt_congr (f2 := fun _ => false) (fun i _ => Nat.zero_testBit i)]
    rfl
  | n + 1, h => by
    have ih := pop_ok (O := O) (c := c) (n := n) (fun p u hp => h p u (by omega))
    unfold obits dcnt
    cases hc : c n with
    | none => exact ih
    | some u =>
      have ho := h n u (by omega) hc
      show cnt (fun i => (obits O c n ||| 2 ^ O u).testBit i) 32 = if (obits O c n).testBit (O u) = true then dcnt O c n else dcnt O c n + 1
      cases ht : (obits O c n).testBit (O u) with
      | true =>
        rw [if_pos rfl, ← ih]
        apply cnt_congr
        intro i _
        rw [Nat.testBit_or, Nat.testBit_two_pow]
        by_cases e : O u = i
        · rw [← e, ht]; rfl
        · simp [e]
      | false =>
        rw [if_neg (by simp), ← ih]
        apply cnt_set (k := O u) (by omega) (fun i _ hi => ?_) ht
        · rw [Nat.testBit_or, Nat.testBit_two_pow]; simp
        · rw [Nat.testBit_or, Nat.testBit_two_pow]; simp [Ne.symm hi]
theorem bc_dcnt {O : Nat → Nat} {c : Nat → Option Nat} {n : Nat} (h : ∀ p u, p < n → c p = some u → O u ≤ 30) : bcI (nI (obits O c n)) = nI (dcnt O c n) := by
  have hl := obits_lt h
  rw [bcI_nI (by omega), pcN_cnt (by omega), pop_ok h]
