/-! ===== Bgpreplay: the updates ===== -/
section KEU
variable {D : UD} {E E' : Nat → Nat} {m kc p q z : Nat} {K N : Nat → Nat}
theorem KE.core (y : KE D E m kc K) (hm : m < 300) (hE : ∀ v, v < m → annc D v → E' v = if tb D m (D.1 v) (D.2.1 v) = some v ∧ D.1 v = p ∧ (q = 0 ∨ q = D.2.1 v) then m else E v) : ∀ v, v < m → annc D v → (E' v = 300 ∨ E' v < m + 1) ∧ ∀ n, n ≤ m + 1 → ((v < n ∧ n ≤ E' v) ↔ tb (upD D m p q z N) n (D.1 v) (D.2.1 v) = some v) := by
  intro v hv ha
  obtain ⟨w1, w2⟩ := y.2.2.2 v hv ha
  have w3 := w2 m (Nat.le_refl _)
  rw [hE v hv ha]
  by_cases c : tb D m (D.1 v) (D.2.1 v) = some v ∧ D.1 v = p ∧ (q = 0 ∨ q = D.2.1 v)
  · rw [if_pos c]
    have w4 := w3.mpr c.1
    refine ⟨Or.inr (by omega), fun n hn => ?_⟩
    by_cases e : n = m + 1
    · subst e
      rw [tb_new, if_pos c.2]
      constructor
      · intro h; omega
      · intro h
        split at h
        · cases h; omega
        · cases h
    · rw [tb_old (by omega), ← w2 n (by omega)]
      constructor <;> intro h <;> omega
  · rw [if_neg c]
    refine ⟨by omega, fun n hn => ?_⟩
    by_cases e : n = m + 1
    · subst e
      rw [tb_new]
      by_cases c2 : D.1 v = p ∧ (q = 0 ∨ q = D.2.1 v)
      · rw [if_pos c2]
        have w5 : ¬ (v < m ∧ m ≤ E v) := fun h => c ⟨w3.mp h, c2⟩
        constructor
        · intro h; omega
        · intro h
          split at h
          · cases h; omega
          · cases h
      · rw [if_neg c2, ← w3]
        constructor <;> intro h <;> omega
    · rw [tb_old (by omega), ← w2 n (by omega)]
theorem annc_up {v : Nat} (hv : v < m) : annc (upD D m p q z N) v ↔ annc D v := by
  obtain ⟨-, a2, a3, -⟩ := upD_n (D := D) (p := p) (q := q) (z := z) (N := N) (show v ≠ m by omega)
  unfold annc
  rw [a2, a3]
theorem KE.up (y : KE D E m kc K) (hm : m < 300) (ha : ¬ (0 < q ∧ 0 < z)) (hE : ∀ v, v < m → annc D v → E' v = if tb D m (D.1 v) (D.2.1 v) = some v ∧ D.1 v = p ∧ (q = 0 ∨ q = D.2.1 v) then m else E v) : KE (upD D m p q z N) E' (m + 1) kc K := by
  have hc := y.core (z := z) (N := N) hm hE
  obtain ⟨y1, y2, y3, y4⟩ := y
  have hnm : ¬ annc (upD D m p q z N) m := by
    obtain ⟨-, a2, a3, -⟩ := upD_s (D := D) (m := m) (p := p) (q := q) (z := z) (N := N)
    unfold annc
    rw [a2, a3]
    exact ha
  refine ⟨by omega, fun j hj => ⟨by have := (y2 j hj).1; omega, (annc_up (y2 j hj).1).mpr (y2 j hj).2⟩, fun u hu hau => ?_, fun u hu hau => ?_⟩
  · have : u < m := by
      rcases Nat.lt_or_ge u m with z | z
      · exact z
      · exfalso
        have e : u = m := by omega
        subst e
        exact hnm hau
    exact y3 u this ((annc_up this).mp hau)
  · have : u < m := by
      rcases Nat.lt_or_ge u m with z | z
      · exact z
      · exfalso
        have e : u = m := by omega
        subst e
        exact hnm hau
    obtain ⟨a1, a2, -⟩ := upD_n (D := D) (p := p) (q := q) (z := z) (N := N) (show u ≠ m by omega)
    rw [a1, a2]
    exact hc u this ((annc_up this).mp hau)
theorem KE.ann (y : KE D E m kc K) (hm : m < 300) (ha : 0 < q ∧ 0 < z) (hE : ∀ v, v < m → annc D v → E' v = if tb D m (D.1 v) (D.2.1 v) = some v ∧ D.1 v = p ∧ (q = 0 ∨ q = D.2.1 v) then m else E v) (h3 : E' m = 300) : KE (upD D m p q z N) E' (m + 1) (kc + 1) (fun j => if j = kc then m else K j) := by
  have hc := y.core (z := z) (N := N) hm hE
  obtain ⟨y1, y2, y3, y4⟩ := y
  obtain ⟨b1, b2, b3, -⟩ := upD_s (D := D) (m := m) (p := p) (q := q) (z := z) (N := N)
  have hnm : annc (upD D m p q z N) m := by
    unfold annc
    rw [b2, b3]
    exact ha
  refine ⟨by omega, fun j hj => ?_, fun u hu hau => ?_, fun u hu hau => ?_⟩
  · by_cases e : j = kc
    · simp only [e, if_true]
      exact ⟨by omega, hnm⟩
    · simp only [e, if_false]
      have := y2 j (by omega)
      exact ⟨by omega, (annc_up this.1).mpr this.2⟩
  · by_cases e : u = m
    · exact ⟨kc, by omega, by simp [e]⟩
    · obtain ⟨j, h1, h2⟩ := y3 u (by omega) ((annc_up (by omega)).mp hau)
      refine ⟨j, by omega, ?_⟩
      show (if j = kc then m else K j) = u
      rw [if_neg (by omega)]
      exact h2
  · by_cases e : u = m
    · subst e
      refine ⟨Or.inl h3, fun n hn => ?_⟩
      rw [b1, b2, h3]
      by_cases c : n = u + 1
      · subst c
        rw [tb_new, if_pos ⟨rfl, Or.inr rfl⟩, if_pos ha]
        constructor
        · intro _; rfl
        · intro _; omega
      · rw [tb_old (by omega)]
        constructor
        · intro h; omega
        · intro h
          have := (tb_lt h).1
          omega
    · obtain ⟨a1, a2, -⟩ := upD_n (D := D) (p := p) (q := q) (z := z) (N := N) e
      rw [a1, a2]
      exact hc u (by omega) ((annc_up (by omega)).mp hau)
end KEU
section BU
variable {l : Launch} {g : GG} {A : Nat → Prop} {h h1 : HF} {x : Nat} {s : SG} {pm am tr hi rg rl : Nat} {T : RF} {D : UD} {C : Nat → Nat → Option Nat} {E : Nat → Nat} {kc : Nat} {K : Nat → Nat}
theorem bKp.up {m p q z : Nat} {N : Nat → Nat} (b : bKp g h pm am T D E kc K) (hk : ∀ j, j < kc → K j < m) : bKp g h pm am T (upD D m p q z N) E kc K := fun j hj => by
  obtain ⟨a1, a2, a3, a4⟩ := upD_n (D := D) (p := p) (q := q) (z := z) (N := N) (show K j ≠ m by have := hk j hj; omega)
  obtain ⟨w1, w2, w3⟩ := b j hj
  refine ⟨?_, ?_, w3⟩
  · unfold isRt
    rw [a1, a2, a3, a4]
    exact w1
  · unfold dOk
    rw [a1, a2, a3, a4]
    exact w2
/-- in the middle of an update -/
def isBm (g : GG) (h : HF) (x : Nat) (s : SG) (pm am tr hi rg rl : Nat) (T : RF) (D : UD) (C : Nat → Nat → Option Nat) (E : Nat → Nat) (kc : Nat) (K : Nat → Nat) : Prop :=
  h x = some (.inr (8, [.ref pm, .ref tr, .ref hi, .ref rg, .ref rl, .int (nI (sT s))])) ∧ isPath g h pm am (sz s) (sN s) ∧ bTr g h tr T C ∧ bHi g h hi T (sm s) (sTm s) kc K ∧ bRg g h rg (sn s) (sQ s) (sL s) (sO s) ∧ bRl g h rl (sM s) ∧ bKp g h pm am T D E kc K
theorem isBx.m (hB : isBx g h x s pm am tr hi rg rl T E kc K) : isBm g h x s pm am tr hi rg rl T (sD s) (tb (sD s) (sm s)) E kc K := ⟨hB.1, hB.2.1, hB.2.2.1, hB.2.2.2.1, hB.2.2.2.2.1, hB.2.2.2.2.2.1, hB.2.2.2.2.2.2.1⟩
theorem bm_sk (z : isBm g h x s pm am tr hi rg rl T D C E kc K) (k : fk [] h h1) : isBm g h1 x s pm am tr hi rg rl T D C E kc K := by
  obtain ⟨e0, e1, e2, e3, e4, e5, e6⟩ := z
  exact ⟨k _ _ e0 (by simp), e1.fk k (by simp) (by simp), e2.fk k (by simp), e3.fk k (by simp), e4.fk k (by simp), e5.fk k (by simp), e6.fk k (by simp)⟩
theorem c_X8_endRoute {u j : Nat} (hB : isBm g h x s pm am tr hi rg rl T D C E kc K) (hj : j < kc) (hu : K j = u) (hC : C (D.1 u) (D.2.1 u) = some u) (hm : sm s ≤ 300) : MVo l g A h yX8_endRoute cX8_endRoute 2 3 0 0 [.ref x, .ref (T.1 u)] (fun h1 => isBm g h1 x s pm am tr hi rg rl T D (cUp C (D.1 u) (D.2.1 u) none) (fun v => if v = u then sm s else E v) kc K ∧ fk [(0, 6), (2, 3072), (1, 512), (1, 6)] h h1) := by
  subst hu
  obtain ⟨e0, e1, e2, e3, e4, e5, e6⟩ := hB
  obtain ⟨⟨x1, x2, x3⟩, dk, hu3, he3, n1, n2, n3⟩ := e6 j hj
  obtain ⟨ti, ke, bo, bt, nb, hh⟩ := id e3
  have e7 := hh.1
  refine j_met (by decide +kernel) (Nat.le_of_ble_eq_true rfl) (fun X F hn hQ => ?_)
  first | refine j_aload_n (pc := 0) F dX8_endRoute_0 rfl ?_ | refine j_aload_nq (pc := 0) F dX8_endRoute_0 rfl ?_
  first | refine j_aload_n (pc := 1) F dX8_endRoute_1 rfl ?_ | refine j_aload_nq (pc := 1) F dX8_endRoute_1 rfl ?_
  refine j_get (pc := 2) F fg_X8_26 (by first | assumption | exact hUp_s) (by rfl) dX8_endRoute_2 ?_
  refine j_ri (j_runV (pc := 5) F (c_X1_size hh) m_X1_size mv_X1_size lk_X8_127 (by first | assumption | exact hUp_s) rfl ⟨by decide, by decide⟩ (Nat.le_of_ble_eq_true rfl) ⟨by omega, by omega⟩ rfl dX8_endRoute_5) (fun r h1 hp => ?_)
  obtain ⟨rfl, rfl⟩ := hp
  refine j_putN (pc := 8) F fq_X8_268 (by first | assumption | exact hUp_s) (by rfl) (by rfl) (Nat.le_of_ble_eq_true rfl) dX8_endRoute_8 ?_
  generalize hh2 : hUp h1 (T.1 (K j)) _ = h2
  have hf2 : ∀ b, b ≠ T.1 (K j) → h2 b = h1 b := fun b hb => by rw [← hh2]; exact hUp_n hb
  have y1 : h2 (T.1 (K j)) = some (.inr (6, [.int (nI (D.1 (K j))), .ref (T.2.1 (K j)), .ref (T.2.2.1 (K j)), .int (nI (K j)), .int (nI (sm s))])) := by rw [← hh2]; exact hUp_s
  have k2 : fk [(0, 6)] h1 h2 := fun b z hb hne => (hf2 b (kd_ne hb hne x1 (by simp [kd]))).trans hb
  have b6 : bKp g h2 pm am T D (fun v => if v = K j then sm s else E v) kc K := fun i hi => by
    obtain ⟨⟨w1, w2, w3⟩, v1, v2, v3, v4, v5, v6⟩ := e6 i hi
    by_cases c : K i = K j
    · refine ⟨⟨?_, k2 _ _ w2 (by simp [kd]), w3.fk k2 (by decide) (by decide)⟩, v1, v2, ?_, v4, v5, v6⟩
      · simp only [c, if_true]; exact y1
      · simp only [c, if_true]; exact hm
    · refine ⟨⟨?_, k2 _ _ w2 (by simp [kd]), w3.fk k2 (by decide) (by decide)⟩, v1, v2, ?_, v4, v5, v6⟩
      · simp only [c, if_false]
        exact (hf2 _ (fun z => c (n3 i hi z))).trans w1
      · simp only [c, if_false]; exact v3
  have e0' := k2 _ _ e0 (by simp [kd])
  obtain ⟨ca, cp, cb, ht⟩ := e2.fk k2 (by decide)
  have e8 := ht.1
  obtain ⟨t1, ⟨f1, t2, -⟩, ⟨f2, t3, -⟩, f3, t4, -⟩ := id ht
  have r6 := (b6 j hj).1
  first | refine j_aload_n (pc := 11) F dX8_endRoute_11 rfl ?_ | refine j_aload_nq (pc := 11) F dX8_endRoute_11 rfl ?_
  refine j_get (pc := 12) F fg_X8_19 (by first | assumption | exact hUp_s) (by rfl) dX8_endRoute_12 ?_
  first | refine j_aload_n (pc := 15) F dX8_endRoute_15 rfl ?_ | refine j_aload_nq (pc := 15) F dX8_endRoute_15 rfl ?_
  refine j_rv (j_runV (pc := 16) F (c_X7_remove ht r6 dk hC) m_X7_remove mv_X7_remove lk_X8_271 (by first | assumption | exact hUp_s) rfl ⟨by decide, by decide⟩ (Nat.le_of_ble_eq_true rfl) ⟨by omega, by omega⟩ rfl dX8_endRoute_16) (fun h3 hp => ?_)
  obtain ⟨hp1, hp2⟩ := hp
  have k3 : fk [(2, 3072), (1, 512), (1, 6)] h2 h3 := fun b z hb hne => (hp2 b (kd_ne hb hne t2 (by simp [kd])) (kd_ne hb hne t3 (by simp [kd])) (kd_ne hb hne t4 (by simp [kd]))).trans hb
  have k4 : fk [(0, 6), (2, 3072), (1, 512), (1, 6)] h1 h3 := (k2.mono (by simp)).trans (k3.mono (by simp))
  exact j_vret F hQ rfl (by omega) (by omega) dX8_endRoute_19 ⟨⟨k4 _ _ e0 (by simp [kd]), e1.fk k4 (by decide) (by decide), ⟨ca, cp, cb, hp1⟩, e3.fk k4 (by decide), e4.fk k4 (by decide), e5.fk k4 (by decide), b6.fk k3 (by decide)⟩, k4⟩
/-- the update is noted: the state is whole again -/
theorem bu_note {p q z ti ke bo bt : Nat} {E2 : Nat → Nat} (hB : isBm g h x s pm am tr hi rg rl T (upD (sD s) (sm s) p q z (sN s)) C E2 kc K) (hC : ∀ a b, a < 6 → b < 512 → C a b = tb (upD (sD s) (sm s) p q z (sN s)) (sm s + 1) a b) (hk : KE (upD (sD s) (sm s) p q z (sN s)) E2 (sm s + 1) kc K) (hh0 : isHist g h hi ti ke bo bt T.1 (sm s) (sTm s) kc K) (nb : bo ≠ bt)
    (hh : isHist g h1 hi ti ke bo bt T.1 (sm s + 1) (fun u => if u = sm s then sT s else sTm s u) kc K) (hf : ∀ b, b ≠ hi → b ≠ ti → h1 b = h b) : isBx g h1 x (sUp s p q z) pm am tr hi rg rl T E2 kc K := by
  obtain ⟨e0, e1, ⟨ca, cp, cb, e2⟩, e3, e4, e5, e6⟩ := hB
  obtain ⟨y1, ⟨f1, y2, -⟩, -⟩ := hh0
  have k : fk [(0, 1), (1, 300)] h h1 := fun b w hb hne => (hf b (kd_ne hb hne y1 (by simp [kd])) (kd_ne hb hne y2 (by simp [kd]))).trans hb
  have e2' : bTr g h tr T (tb (upD (sD s) (sm s) p q z (sN s)) (sm s + 1)) := ⟨ca, cp, cb, e2.cg hC⟩
  exact ⟨k _ _ e0 (by simp [kd]), e1.fk k (by decide) (by decide), e2'.fk k (by decide), ⟨ti, ke, bo, bt, nb, hh⟩, e4.fk k (by decide), e5.fk k (by decide), e6.fk k (by decide), hk⟩
end BU
