/-! ===== Bgpreplay$Tree ===== -/
def cnt (f : Nat → Bool) : Nat → Nat
  | 0 => 0
  | n + 1 => cnt f n + (if f n = true then 1 else 0)
theorem cnt_le (f : Nat → Bool) : ∀ n, cnt f n ≤ n
  | 0 => Nat.le_refl _
  | n + 1 => by have := cnt_le f n; unfold cnt; split <;> omega
theorem cnt_congr {f f2 : Nat → Bool} : ∀ {n : Nat}, (∀ i, i < n → f i = f2 i) → cnt f n = cnt f2 n
  | 0, _ => rfl
  | n + 1, h => by unfold cnt; rw [cnt_congr (fun i hi => h i (by omega)), h n (by omega)]
theorem cnt_set {f f2 : Nat → Bool} {k : Nat} : ∀ {n : Nat}, k < n → (∀ i, i < n → i ≠ k → f2 i = f i) → f k = false → f2 k = true → cnt f2 n = cnt f n + 1
  | 0, h, _, _, _ => by omega
  | n + 1, h, h1, h2, h3 => by
    unfold cnt
    by_cases hk : k = n
    · subst hk
      rw [cnt_congr (fun i hi => h1 i (by omega) (by omega)), h2, h3]
      rfl
    · rw [cnt_set (k := k) (by omega) (fun i hi => h1 i (by omega)) h2 h3, h1 n (by omega) (Ne.symm hk)]
      omega
theorem cnt_pos {f : Nat → Bool} : ∀ {n : Nat}, 0 < cnt f n ↔ ∃ i, i < n ∧ f i = true
  | 0 => ⟨fun h => absurd h (Nat.lt_irrefl 0), fun ⟨i, h, _⟩ => absurd h (Nat.not_lt_zero i)⟩
  | n + 1 => by
    have ih := cnt_pos (f := f) (n := n)
    unfold cnt
    constructor
    · intro h
      by_cases hf : f n = true
      · exact ⟨n, by omega, hf⟩
      · rw [if_neg hf] at h
        obtain ⟨i, h1, h2⟩ := ih.mp (by omega)
        exact ⟨i, by omega, h2⟩
    · rintro ⟨i, h1, h2⟩
      by_cases hi : i = n
      · subst hi; rw [if_pos h2]; omega
      · have := ih.mpr ⟨i, by omega, h2⟩
        omega
/-- the routes by the number of their update: where they, their prefixes, paths and rows lie -/
abbrev RF : Type := (Nat → Nat) × (Nat → Nat) × (Nat → Nat) × (Nat → Nat)
/-- the updates by their number: peer, prefix, size of the path, networks -/
abbrev UD : Type := (Nat → Nat) × (Nat → Nat) × (Nat → Nat) × (Nat → Nat → Nat)
def isRt (g : GG) (h : HF) (T : RF) (D : UD) (E : Nat → Nat) (u : Nat) : Prop := isRoute g h (T.1 u) (T.2.1 u) (T.2.2.1 u) (T.2.2.2 u) (D.1 u) (D.2.1 u) (Nat.log2 (D.2.1 u)) (D.2.2.1 u) (D.2.2.2 u) u (E u)
def dOk (D : UD) (u : Nat) : Prop := D.1 u < 6 ∧ (1 ≤ D.2.1 u ∧ D.2.1 u < 512) ∧ (0 < D.2.2.1 u ∧ D.2.2.1 u ≤ 8) ∧ ∀ j, j < D.2.2.1 u → 1 ≤ D.2.2.2 u j ∧ D.2.2.2 u j ≤ 30
theorem log2_le {q : Nat} (h : q < 512) : Nat.log2 q ≤ 8 := by
  by_cases h0 : q = 0
  · subst h0; decide
  · have : Nat.log2 q < 9 := (Nat.log2_lt h0).mpr (by omega)
    omega
theorem dOk.r {D : UD} {u : Nat} {e : Nat} (h : dOk D u) (hu : u < 300) (he : e ≤ 300) : rOk (D.1 u) (D.2.1 u) (Nat.log2 (D.2.1 u)) (D.2.2.1 u) u e := ⟨h.1, h.2.1.2, log2_le h.2.1.2, h.2.2.1.2, by omega, he⟩
def cntQ (C : Nat → Nat → Option Nat) (q : Nat) : Nat := cnt (fun p => (C p q).isSome) 6
def cntP (C : Nat → Nat → Option Nat) (p : Nat) : Nat := cnt (fun q => (C p q).isSome) 512
def isTree (g : GG) (h : HF) (tr ca cp cb : Nat) (rA : Nat → Nat) (C : Nat → Nat → Option Nat) : Prop := h tr = some (.inr (7, [.ref ca, .ref cp, .ref cb])) ∧ (∃ f : Nat → Option Nat, h ca = some (aR g 3072 f) ∧ ∀ p q, p < 6 → q < 512 → f (p * 512 + q) = (C p q).map rA) ∧ (∃ f : Nat → Int32, h cp = some (aI g 512 f) ∧ ∀ q, q < 512 → f q = nI (cntQ C q)) ∧ ∃ f : Nat → Int32, h cb = some (aI g 6 f) ∧ ∀ p, p < 6 → f p = nI (cntP C p)
/-- the routes of a table stand in the heap -/
def isLive (g : GG) (h : HF) (T : RF) (D : UD) (E : Nat → Nat) (C : Nat → Nat → Option Nat) : Prop := ∀ p q u, p < 6 → q < 512 → C p q = some u → isRt g h T D E u ∧ dOk D u ∧ D.1 u = p ∧ D.2.1 u = q ∧ u < 300 ∧ E u ≤ 300
theorem okPeer_nI {i : Nat} (h2 : i < 6) : okPeer (nI i) = true := decide_eq_true (by rw [nI_toInt (by omega)]; omega)
theorem okPn_nI {i : Nat} (h1 : 1 ≤ i) (h2 : i < 512) : okPn (nI i) = true := decide_eq_true (by rw [nI_toInt (by omega)]; omega)
/-- the best route of the first n peers -/
def bst (Z : Nat → Nat) (c : Nat → Option Nat) : Nat → Option Nat
  | 0 => none
  | n + 1 => match c n with
    | none => bst Z c n
    | some u => match bst Z c n with
      | none => some u
      | some v => if Z u < Z v then some u else some v
theorem bst_in {Z : Nat → Nat} {c : Nat → Option Nat} : ∀ {n u : Nat}, bst Z c n = some u → ∃ p, p < n ∧ c p = some u
  | 0, u, h => by cases h
  | n + 1, u, h => by
    unfold bst at h
    cases hc : c n with
    | none =>
      rw [hc] at h
      obtain ⟨p, h1, h2⟩ := bst_in h
      exact ⟨p, by omega, h2⟩
    | some w =>
      rw [hc] at h
      cases hb : bst Z c n with
      | none => rw [hb] at h; exact ⟨n, by omega, by rw [hc]; exact h⟩
      | some v =>
        rw [hb] at h
        obtain ⟨p, h1, h2⟩ := bst_in hb
        dsimp only at h
        by_cases hz : Z w < Z v
        · rw [if_pos hz] at h; exact ⟨n, by omega, by rw [hc]; exact h⟩
        · rw [if_neg hz] at h; exact ⟨p, by omega, by rw [h2]; exact h⟩
theorem bst_none {Z : Nat → Nat} {c : Nat → Option Nat} : ∀ {n : Nat}, bst Z c n = none ↔ ∀ p, p < n → c p = none
  | 0 => ⟨fun _ p hp => absurd hp (Nat.not_lt_zero p), fun _ => rfl⟩
  | n + 1 => by
    have ih := bst_none (Z := Z) (c := c) (n := n)
    unfold bst
    cases hc : c n with
    | none =>
      dsimp only
      rw [ih]
      constructor
      · intro h p hp
        by_cases hpn : p = n
        · rw [hpn]; exact hc
        · exact h p (by omega)
      · intro h p hp
        exact h p (by omega)
    | some w =>
      constructor
      · intro h
        cases hb : bst Z c n with
        | none => rw [hb] at h; cases h
        | some v => rw [hb] at h; dsimp only at h; split at h <;> cases h
      · intro h
        have := h n (by omega)
        rw [hc] at this
        cases this
theorem cntQ_bst {C : Nat → Nat → Option Nat} {q : Nat} (Z : Nat → Nat) : 0 < cntQ C q ↔ ¬ bst Z (fun p => C p q) 6 = none := by
  unfold cntQ
  rw [cnt_pos, bst_none]
  constructor
  · rintro ⟨i, h1, h2⟩ h
    rw [h i h1] at h2
    cases h2
  · intro h
    apply Classical.byContradiction
    intro h2
    refine h (fun p hp => ?_)
    cases hc : C p q with
    | none => rfl
    | some u => exact absurd ⟨p, hp, by rw [hc]; rfl⟩ h2
section TREE
variable {l : Launch} {g : GG} {A : Nat → Prop} {h : HF}
theorem c_X7_init {p : Nat} (hp : h p = some (.inr (7, [.null, .null, .null]))) : MVo l g A h yX7_init cX7_init 1 1 3 3590 [.ref p] (fun h1 => ∃ ca cp cb, h ca = none ∧ h cp = none ∧ h cb = none ∧ ca ≠ cp ∧ ca ≠ cb ∧ cp ≠ cb ∧ (∀ rA, isTree g h1 p ca cp cb rA (fun _ _ => none)) ∧ ∀ b, b ≠ p → b ≠ ca → b ≠ cp → b ≠ cb → h1 b = h b) := by
  refine j_met (by decide +kernel) (Nat.le_of_ble_eq_true rfl) (fun X F hn hQ => ?_)
  first | refine j_aload_n (pc := 0) F dX7_init_0 rfl ?_ | refine j_aload_nq (pc := 0) F dX7_init_0 rfl ?_
  refine j_objInit (pc := 1) F (by omega) lk_X7_3 (Nat.le_of_ble_eq_true rfl) dX7_init_1 ?_
  first | refine j_aload_n (pc := 4) F dX7_init_4 rfl ?_ | refine j_aload_nq (pc := 4) F dX7_init_4 rfl ?_
  refine j_sipush (pc := 5) (v := (nI 3072)) F dX7_init_5 (by decide) ?_
  refine j_newaR (pc := 8) F (N := 3072) lc_X7_9 (by decide) (by decide) (by decide) (by omega) (by omega) dX7_init_8 (fun ca hca _ => ?_)
  have n1 : p ≠ ca := Ne.symm (ne_of hca hp)
  have e1 : hUp h ca (aR g 3072 (fun _ => none)) p = some (.inr (7, [.null, .null, .null])) := (hUp_n n1).trans hp
  refine j_putF (pc := 11) F fp_X7_11 hn rfl (by first | assumption | exact hUp_s) (by rfl) (by rfl) (Nat.le_of_ble_eq_true rfl) dX7_init_11 ?_
  first | refine j_aload_n (pc := 14) F dX7_init_14 rfl ?_ | refine j_aload_nq (pc := 14) F dX7_init_14 rfl ?_
  refine j_sipush (pc := 15) (v := (nI 512)) F dX7_init_15 (by decide) ?_
  refine j_newaI (pc := 18) F (N := 512) (by decide) (by decide) (by decide) (by omega) (by omega) dX7_init_18 (fun cp hcp _ => ?_)
  have n2 : p ≠ cp := fun z => by rw [← z, hUp_s] at hcp; cases hcp
  have n3 : ca ≠ cp := fun z => by rw [← z, hUp_n (Ne.symm n1), hUp_s] at hcp; cases hcp
  have hcp0 : h cp = none := by rw [hUp_n (Ne.symm n2), hUp_n (Ne.symm n3)] at hcp; exact hcp
  have e2 : hUp (hUp (hUp h ca (aR g 3072 (fun _ => none))) p (.inr (7, [Value.null, Value.null, Value.null].set 0 (.ref ca)))) cp (aI g 512 (fun _ => 0)) p = some (.inr (7, [.ref ca, .null, .null])) := (hUp_n n2).trans hUp_s
  refine j_putF (pc := 20) F fp_X7_17 hn rfl (by first | assumption | exact hUp_s) (by rfl) (by rfl) (Nat.le_of_ble_eq_true rfl) dX7_init_20 ?_
  first | refine j_aload_n (pc := 23) F dX7_init_23 rfl ?_ | refine j_aload_nq (pc := 23) F dX7_init_23 rfl ?_
  refine j_bipush (pc := 24) (v := (nI 6)) F dX7_init_24 (by decide) ?_
  refine j_newaI (pc := 26) F (N := 6) (by decide) (by decide) (by decide) (by omega) (by omega) dX7_init_26 (fun cb hcb _ => ?_)
  have n4 : p ≠ cb := fun z => by rw [← z, hUp_s] at hcb; cases hcb
  have n6 : cp ≠ cb := fun z => by rw [← z, hUp_n (Ne.symm n2), hUp_s] at hcb; cases hcb
  have n5 : ca ≠ cb := fun z => by rw [← z, hUp_n (Ne.symm n1), hUp_n n3, hUp_n (Ne.symm n1), hUp_s] at hcb; cases hcb
  have hcb0 : h cb = none := by rw [hUp_n (Ne.symm n4), hUp_n (Ne.symm n6), hUp_n (Ne.symm n4), hUp_n (Ne.symm n5)] at hcb; exact hcb
  have e3 : hUp (hUp (hUp (hUp (hUp h ca (aR g 3072 (fun _ => none))) p (.inr (7, [Value.null, Value.null, Value.null].set 0 (.ref ca)))) cp (aI g 512 (fun _ => 0))) p (.inr (7, [Value.ref ca, Value.null, Value.null].set 1 (.ref cp)))) cb (aI g 6 (fun _ => 0)) p = some (.inr (7, [.ref ca, .ref cp, .null])) := (hUp_n n4).trans hUp_s
  refine j_putF (pc := 28) F fp_X7_21 hn rfl (by first | assumption | exact hUp_s) (by rfl) (by rfl) (Nat.le_of_ble_eq_true rfl) dX7_init_28 ?_
  refine j_vret F hQ rfl (by omega) (by omega) dX7_init_31 ⟨ca, cp, cb, hca, hcp0, hcb0, n3, n5, n6, fun rA => ⟨hUp_s, ⟨fun _ => none, ?_, fun _ _ _ _ => rfl⟩, ⟨fun _ => 0, ?_, fun q hq => ?_⟩, ⟨fun _ => 0, ?_, fun p hp => ?_⟩⟩, fun b q1 q2 q3 q4 => ?_⟩
  · rw [hUp_n (Ne.symm n1), hUp_n n5, hUp_n (Ne.symm n1), hUp_n n3, hUp_n (Ne.symm n1), hUp_s]
  · rw [hUp_n (Ne.symm n2), hUp_n n6, hUp_n (Ne.symm n2), hUp_s]
  · show (0 : Int32) = nI (cntQ (fun _ _ => none) q)
    rfl
  · rw [hUp_n (Ne.symm n4), hUp_s]
  · show (0 : Int32) = nI (cnt (fun _ => false) 512)
    have : ∀ n, cnt (fun _ => false) n = 0 := fun n => by induction n with
      | zero => rfl
      | succ n ih => unfold cnt; rw [ih]; rfl
    rw [this]; rfl
  · rw [hUp_n q1, hUp_n q4, hUp_n q1, hUp_n q3, hUp_n q1, hUp_n q2]
theorem c_X7_cellOf {p q : Nat} (hp : p < 6) (hq : 1 ≤ q ∧ q < 512) : MI l g A h yX7_cellOf cX7_cellOf 2 (some .int) 1 0 0 [.int (nI p), .int (nI q)] (fun r h1 => r = nI (p * 512 + q) ∧ h1 = h) := by
  refine j_met (by decide +kernel) (Nat.le_of_ble_eq_true rfl) (fun X F hn hQ => ?_)
  refine j_iload_n (pc := 0) F dX7_cellOf_0 rfl ?_
  refine j_ri (j_runSN (pc := 1) F (c_X8_isPeer (nI p)) m_X8_isPeer ms_X8_isPeer ln_X7_41 ⟨by decide, by decide⟩ (Nat.le_of_ble_eq_true rfl) ⟨by omega, by omega⟩ rfl dX7_cellOf_1) (fun r h1 hp1 => ?_)
  obtain ⟨rfl, rfl⟩ := hp1
  refine j_int (congrArg bI (okPeer_nI hp)) ?_
  first | refine j_if_eqB (pc := 4) F 24 dX7_cellOf_4 (by decide) (fun c => ?_) (fun c => ?_) | refine j_if_eqN (pc := 4) F 24 dX7_cellOf_4 (by decide) (by omega) (fun c => ?_) (fun c => ?_) | refine j_if_eqI (pc := 4) F 24 dX7_cellOf_4 (by decide) (fun c => ?_) (fun c => ?_)
  · cases c
  · refine j_iload_n (pc := 7) F dX7_cellOf_7 rfl ?_
    refine j_ri (j_runSN (pc := 8) F (c_X8_isPrefixNumber (nI q)) m_X8_isPrefixNumber ms_X8_isPrefixNumber ln_X7_78 ⟨by decide, by decide⟩ (Nat.le_of_ble_eq_true rfl) ⟨by omega, by omega⟩ rfl dX7_cellOf_8) (fun r h2 hp1 => ?_)
    obtain ⟨rfl, rfl⟩ := hp1
    refine j_int (congrArg bI (okPn_nI hq.1 hq.2)) ?_
    first | refine j_if_eqB (pc := 11) F 24 dX7_cellOf_11 (by decide) (fun c => ?_) (fun c => ?_) | refine j_if_eqN (pc := 11) F 24 dX7_cellOf_11 (by decide) (by omega) (fun c => ?_) (fun c => ?_) | refine j_if_eqI (pc := 11) F 24 dX7_cellOf_11 (by decide) (fun c => ?_) (fun c => ?_)
    · cases c
    · refine j_iload_n (pc := 14) F dX7_cellOf_14 rfl ?_
      refine j_sipush (pc := 15) (v := (nI 512)) F dX7_cellOf_15 (by decide) ?_
      first | refine j_imulN (pc := 18) F dX7_cellOf_18 ?_ | refine j_imul (pc := 18) F dX7_cellOf_18 ?_
      refine j_iload_n (pc := 19) F dX7_cellOf_19 rfl ?_
      first | refine j_iaddN (pc := 20) F dX7_cellOf_20 ?_ | refine j_iadd (pc := 20) F dX7_cellOf_20 ?_
      refine j_goto (pc := 21) F 25 dX7_cellOf_21 (by decide) ?_
      exact j_iret F hQ rfl rfl (by omega) (by omega) dX7_cellOf_25 ⟨rfl, rfl⟩
theorem c_X7_routeOf {tr ca cp cb p q : Nat} {rA : Nat → Nat} {C : Nat → Nat → Option Nat} (ht : isTree g h tr ca cp cb rA C) (hp : p < 6) (hq : 1 ≤ q ∧ q < 512) : MQo l g A h yX7_routeOf cX7_routeOf 4 (some (.object "Bgpreplay$Route")) 2 0 0 [.ref tr, .int (nI p), .int (nI q)] (fun r h1 => r = (C p q).map rA ∧ h1 = h) := by
  obtain ⟨e1, ⟨f1, e2, e3⟩, e4, e5⟩ := ht
  refine j_met (by decide +kernel) (Nat.le_of_ble_eq_true rfl) (fun X F hn hQ => ?_)
  refine j_iload_n (pc := 0) F dX7_routeOf_0 rfl ?_
  refine j_iload_n (pc := 1) F dX7_routeOf_1 rfl ?_
  refine j_ri (j_runS (pc := 2) F (c_X7_cellOf hp hq) m_X7_cellOf ms_X7_cellOf lk_X7_24 ⟨by decide, by decide⟩ (Nat.le_of_ble_eq_true rfl) ⟨by omega, by omega⟩ rfl dX7_routeOf_2) (fun r h1 hp1 => ?_)
  obtain ⟨rfl, rfl⟩ := hp1
  refine j_istore_n (pc := 5) F dX7_routeOf_5 (by decide) ?_
  refine j_iload_n (pc := 6) F dX7_routeOf_6 rfl ?_
  refine j_iconst (pc := 7) (v := (-1)) F dX7_routeOf_7 (by decide) ?_
  refine j_icmp_neNI (pc := 8) F 15 dX7_routeOf_8 (by decide) (by omega) (fun c => ?_) (fun c => ?_)
  · first | refine j_aload_n (pc := 15) F dX7_routeOf_15 rfl ?_ | refine j_aload_nq (pc := 15) F dX7_routeOf_15 rfl ?_
    refine j_get (pc := 16) F fg_X7_11 (by first | assumption | exact hUp_s) (by rfl) dX7_routeOf_16 ?_
    refine j_iload_n (pc := 19) F dX7_routeOf_19 rfl ?_
    first | refine j_aldRN (pc := 20) F (by first | assumption | exact hUp_s) (by omega) (by decide) dX7_routeOf_20 ?_ | refine j_aldEN (pc := 20) F (by first | assumption | exact hUp_s) (by omega) (by decide) dX7_routeOf_20 ?_ | refine j_aldIIN (pc := 20) F (by first | assumption | exact hUp_s) (by omega) (by decide) dX7_routeOf_20 ?_
    rw [e3 p q hp hq.2]
    exact j_aret F hQ rfl (by omega) (by omega) dX7_routeOf_21 ⟨rfl, rfl⟩
  · rw [q_m1] at c; omega
theorem c_X7_isThere {tr ca cp cb q : Nat} {rA : Nat → Nat} {C : Nat → Nat → Option Nat} (ht : isTree g h tr ca cp cb rA C) (hq : 1 ≤ q ∧ q < 512) : MI l g A h yX7_isThere cX7_isThere 2 (some .boolean) 1 0 0 [.ref tr, .int (nI q)] (fun r h1 => r = bI (decide (0 < cntQ C q)) ∧ h1 = h) := by
  obtain ⟨e1, e2, ⟨f1, e3, e4⟩, e5⟩ := ht
  have hb : cntQ C q ≤ 6 := cnt_le _ _
  refine j_met (by decide +kernel) (Nat.le_of_ble_eq_true rfl) (fun X F hn hQ => ?_)
  refine j_iload_n (pc := 0) F dX7_isThere_0 rfl ?_
  refine j_ri (j_runSN (pc := 1) F (c_X8_isPrefixNumber (nI q)) m_X8_isPrefixNumber ms_X8_isPrefixNumber ln_X7_78 ⟨by decide, by decide⟩ (Nat.le_of_ble_eq_true rfl) ⟨by omega, by omega⟩ rfl dX7_isThere_1) (fun r h1 hp1 => ?_)
  obtain ⟨rfl, rfl⟩ := hp1
  refine j_int (congrArg bI (okPn_nI hq.1 hq.2)) ?_
  first | refine j_if_eqB (pc := 4) F 20 dX7_isThere_4 (by decide) (fun c => ?_) (fun c => ?_) | refine j_if_eqN (pc := 4) F 20 dX7_isThere_4 (by decide) (by omega) (fun c => ?_) (fun c => ?_) | refine j_if_eqI (pc := 4) F 20 dX7_isThere_4 (by decide) (fun c => ?_) (fun c => ?_)
  · cases c
  · first | refine j_aload_n (pc := 7) F dX7_isThere_7 rfl ?_ | refine j_aload_nq (pc := 7) F dX7_isThere_7 rfl ?_
    refine j_get (pc := 8) F fg_X7_17 (by first | assumption | exact hUp_s) (by rfl) dX7_isThere_8 ?_
    refine j_iload_n (pc := 11) F dX7_isThere_11 rfl ?_
    refine j_ialdN (pc := 12) F (by first | assumption | exact hUp_s) (by omega) (by decide) dX7_isThere_12 ?_
    rw [e4 q hq.2]
    first | refine j_if_leN (pc := 13) F 20 dX7_isThere_13 (by decide) (by omega) (fun c2 => ?_) (fun c2 => ?_) | refine j_if_leI (pc := 13) F 20 dX7_isThere_13 (by decide) (fun c2 => ?_) (fun c2 => ?_)
    · refine j_iconst (pc := 20) (v := (nI 0)) F dX7_isThere_20 (by decide) ?_
      exact j_iret F hQ rfl rfl (by omega) (by omega) dX7_isThere_21 ⟨by rw [decide_eq_false (by omega)]; rfl, rfl⟩
    · refine j_iconst (pc := 16) (v := (nI 1)) F dX7_isThere_16 (by decide) ?_
      refine j_goto (pc := 17) F 21 dX7_isThere_17 (by decide) ?_
      exact j_iret F hQ rfl rfl (by omega) (by omega) dX7_isThere_21 ⟨by rw [decide_eq_true (by omega)]; rfl, rfl⟩
theorem c_X7_countOfPeer {tr ca cp cb p : Nat} {rA : Nat → Nat} {C : Nat → Nat → Option Nat} (ht : isTree g h tr ca cp cb rA C) (hp : p < 6) : MI l g A h yX7_countOfPeer cX7_countOfPeer 2 (some .int) 1 0 0 [.ref tr, .int (nI p)] (fun r h1 => r = nI (cntP C p) ∧ h1 = h) := by
  obtain ⟨e1, e2, e3, ⟨f1, e4, e5⟩⟩ := ht
  refine j_met (by decide +kernel) (Nat.le_of_ble_eq_true rfl) (fun X F hn hQ => ?_)
  refine j_iload_n (pc := 0) F dX7_countOfPeer_0 rfl ?_
  refine j_ri (j_runSN (pc := 1) F (c_X8_isPeer (nI p)) m_X8_isPeer ms_X8_isPeer ln_X7_41 ⟨by decide, by decide⟩ (Nat.le_of_ble_eq_true rfl) ⟨by omega, by omega⟩ rfl dX7_countOfPeer_1) (fun r h1 hp1 => ?_)
  obtain ⟨rfl, rfl⟩ := hp1
  refine j_int (congrArg bI (okPeer_nI hp)) ?_
  first | refine j_if_eqB (pc := 4) F 16 dX7_countOfPeer_4 (by decide) (fun c => ?_) (fun c => ?_) | refine j_if_eqN (pc := 4) F 16 dX7_countOfPeer_4 (by decide) (by omega) (fun c => ?_) (fun c => ?_) | refine j_if_eqI (pc := 4) F 16 dX7_countOfPeer_4 (by decide) (fun c => ?_) (fun c => ?_)
  · cases c
  · first | refine j_aload_n (pc := 7) F dX7_countOfPeer_7 rfl ?_ | refine j_aload_nq (pc := 7) F dX7_countOfPeer_7 rfl ?_
    refine j_get (pc := 8) F fg_X7_21 (by first | assumption | exact hUp_s) (by rfl) dX7_countOfPeer_8 ?_
    refine j_iload_n (pc := 11) F dX7_countOfPeer_11 rfl ?_
    refine j_ialdN (pc := 12) F (by first | assumption | exact hUp_s) (by omega) (by decide) dX7_countOfPeer_12 ?_
    refine j_goto (pc := 13) F 17 dX7_countOfPeer_13 (by decide) ?_
    exact j_iret F hQ rfl rfl (by omega) (by omega) dX7_countOfPeer_17 ⟨e5 p hp, rfl⟩
theorem c_X7_countPrefixes {tr ca cp cb : Nat} {rA : Nat → Nat} {C : Nat → Nat → Option Nat} (ht : isTree g h tr ca cp cb rA C) : MI l g A h yX7_countPrefixes cX7_countPrefixes 3 (some .int) 2 0 0 [.ref tr] (fun r h1 => r = nI (cnt (fun j => decide (0 < cntQ C (j + 1))) 511) ∧ h1 = h) := by
  have e1 := ht.1
  refine j_met (by decide +kernel) (Nat.le_of_ble_eq_true rfl) (fun X F hn hQ => ?_)
  refine j_iconst (pc := 0) (v := (nI 0)) F dX7_countPrefixes_0 (by decide) ?_
  refine j_istore_n (pc := 1) F dX7_countPrefixes_1 (by decide) ?_
  refine j_iconst (pc := 2) (v := (nI 1)) F dX7_countPrefixes_2 (by decide) ?_
  refine j_istore_n (pc := 3) F dX7_countPrefixes_3 (by decide) ?_
  have loop : ∀ m i (lv : List (Nat × Value)), 511 < i + m → i ≤ 511 → lall lv [(0, .ref tr), (1, .int (nI (cnt (fun j => decide (0 < cntQ C (j + 1))) i))), (2, .int (nI (i + 1)))] → J l X g A 3 0 0 h 4 lv [] := by
    intro m
    induction m with
    | zero => intro i lv q1 q2; omega
    | succ m ih =>
      intro i lv q1 q2 q3
      refine j_lv _ q3 ?_
      refine j_iload_n (pc := 4) F dX7_countPrefixes_4 rfl ?_
      refine j_sipush (pc := 5) (v := (nI 512)) F dX7_countPrefixes_5 (by decide) ?_
      first | refine j_icmp_geN (pc := 8) F 28 dX7_countPrefixes_8 (by decide) (by omega) (by omega) (fun c => ?_) (fun c => ?_) | refine j_icmp_geIN (pc := 8) F 28 dX7_countPrefixes_8 (by decide) (by omega) (fun c => ?_) (fun c => ?_) | refine j_icmp_geNI (pc := 8) F 28 dX7_countPrefixes_8 (by decide) (by omega) (fun c => ?_) (fun c => ?_) | refine j_icmp_geI (pc := 8) F 28 dX7_countPrefixes_8 (by decide) (fun c => ?_) (fun c => ?_)
      · have : i = 511 := by omega
        subst this
        refine j_iload_n (pc := 28) F dX7_countPrefixes_28 rfl ?_
        exact j_iret F hQ rfl rfl (by omega) (by omega) dX7_countPrefixes_29 ⟨rfl, rfl⟩
      · first | refine j_aload_n (pc := 11) F dX7_countPrefixes_11 rfl ?_ | refine j_aload_nq (pc := 11) F dX7_countPrefixes_11 rfl ?_
        refine j_iload_n (pc := 12) F dX7_countPrefixes_12 rfl ?_
        refine j_ri (j_runV (pc := 13) F (c_X7_isThere ht ⟨by omega, by omega⟩) m_X7_isThere mv_X7_isThere lk_X7_45 (by first | assumption | exact hUp_s) rfl ⟨by decide, by decide⟩ (Nat.le_of_ble_eq_true rfl) ⟨by omega, by omega⟩ rfl dX7_countPrefixes_13) (fun r h1 hp1 => ?_)
        obtain ⟨rfl, rfl⟩ := hp1
        first | refine j_if_eqB (pc := 16) F 22 dX7_countPrefixes_16 (by decide) (fun c2 => ?_) (fun c2 => ?_) | refine j_if_eqN (pc := 16) F 22 dX7_countPrefixes_16 (by decide) (by omega) (fun c2 => ?_) (fun c2 => ?_) | refine j_if_eqI (pc := 16) F 22 dX7_countPrefixes_16 (by decide) (fun c2 => ?_) (fun c2 => ?_)
        · first | refine j_iincN (pc := 22) F dX7_countPrefixes_22 rfl (by decide) ?_ | refine j_iincM (pc := 22) F dX7_countPrefixes_22 rfl (by decide) ?_ | refine j_iinc (pc := 22) F dX7_countPrefixes_22 rfl rfl (by decide) ?_
          refine j_goto (pc := 25) F 4 dX7_countPrefixes_25 (by decide) ?_
          refine ih (i + 1) _ (by omega) (by omega) ⟨rfl, ?_, rfl, trivial⟩
          rw [show cnt (fun j => decide (0 < cntQ C (j + 1))) (i + 1) = cnt (fun j => decide (0 < cntQ C (j + 1))) i by rw [cnt, if_neg (by rw [c2]; simp)]; rfl]
          rfl
        · first | refine j_iincN (pc := 19) F dX7_countPrefixes_19 rfl (by decide) ?_ | refine j_iincM (pc := 19) F dX7_countPrefixes_19 rfl (by decide) ?_ | refine j_iinc (pc := 19) F dX7_countPrefixes_19 rfl rfl (by decide) ?_
          first | refine j_iincN (pc := 22) F dX7_countPrefixes_22 rfl (by decide) ?_ | refine j_iincM (pc := 22) F dX7_countPrefixes_22 rfl (by decide) ?_ | refine j_iinc (pc := 22) F dX7_countPrefixes_22 rfl rfl (by decide) ?_
          refine j_goto (pc := 25) F 4 dX7_countPrefixes_25 (by decide) ?_
          refine ih (i + 1) _ (by omega) (by omega) ⟨rfl, ?_, rfl, trivial⟩
          rw [show cnt (fun j => decide (0 < cntQ C (j + 1))) (i + 1) = cnt (fun j => decide (0 < cntQ C (j + 1))) i + 1 by rw [cnt, if_pos c2]]
          rfl
  exact loop 512 0 _ (by omega) (by omega) ⟨rfl, rfl, rfl, trivial⟩
theorem c_X7_bestOf {tr ca cp cb q : Nat} {T : RF} {D : UD} {E : Nat → Nat} {C : Nat → Nat → Option Nat} (ht : isTree g h tr ca cp cb T.1 C) (hL : isLive g h T D E C) (hq : 1 ≤ q ∧ q < 512) : MQo l g A h yX7_bestOf cX7_bestOf 5 (some (.object "Bgpreplay$Route")) 3 0 0 [.ref tr, .int (nI q)] (fun r h1 => r = (bst D.2.2.1 (fun p => C p q) 6).map T.1 ∧ h1 = h) := by
  have e1 := ht.1
  refine j_met (by decide +kernel) (Nat.le_of_ble_eq_true rfl) (fun X F hn hQ => ?_)
  refine j_null (pc := 0) F dX7_bestOf_0 ?_
  first | refine j_astore_n (pc := 1) F dX7_bestOf_1 (by decide) ?_ | refine j_astore_nq (pc := 1) F dX7_bestOf_1 (by decide) ?_ | refine j_astore_nN (pc := 1) F dX7_bestOf_1 (by decide) ?_
  refine j_iconst (pc := 2) (v := (nI 0)) F dX7_bestOf_2 (by decide) ?_
  refine j_istore_n (pc := 3) F dX7_bestOf_3 (by decide) ?_
  have loop : ∀ m i (lv : List (Nat × Value)), 6 < i + m → i ≤ 6 → lall lv [(0, .ref tr), (1, .int (nI q)), (2, va_rf ((bst D.2.2.1 (fun p => C p q) i).map T.1)), (3, .int (nI i))] → J l X g A 5 0 0 h 4 lv [] := by
    intro m
    induction m with
    | zero => intro i lv q1 q2; omega
    | succ m ih =>
      intro i lv q1 q2 q3
      refine j_lv _ q3 ?_
      refine j_iload_n (pc := 4) F dX7_bestOf_4 rfl ?_
      refine j_bipush (pc := 5) (v := (nI 6)) F dX7_bestOf_5 (by decide) ?_
      first | refine j_icmp_geN (pc := 7) F 41 dX7_bestOf_7 (by decide) (by omega) (by omega) (fun c => ?_) (fun c => ?_) | refine j_icmp_geIN (pc := 7) F 41 dX7_bestOf_7 (by decide) (by omega) (fun c => ?_) (fun c => ?_) | refine j_icmp_geNI (pc := 7) F 41 dX7_bestOf_7 (by decide) (by omega) (fun c => ?_) (fun c => ?_) | refine j_icmp_geI (pc := 7) F 41 dX7_bestOf_7 (by decide) (fun c => ?_) (fun c => ?_)
      · have : i = 6 := by omega
        subst this
        first | refine j_aload_n (pc := 41) F dX7_bestOf_41 rfl ?_ | refine j_aload_nq (pc := 41) F dX7_bestOf_41 rfl ?_
        exact j_aret F hQ rfl (by omega) (by omega) dX7_bestOf_42 ⟨rfl, rfl⟩
      · first | refine j_aload_n (pc := 10) F dX7_bestOf_10 rfl ?_ | refine j_aload_nq (pc := 10) F dX7_bestOf_10 rfl ?_
        refine j_iload_n (pc := 11) F dX7_bestOf_11 rfl ?_
        refine j_iload_n (pc := 12) F dX7_bestOf_12 rfl ?_
        refine j_rq (j_runV (pc := 13) F (c_X7_routeOf ht (show i < 6 by omega) hq) m_X7_routeOf mv_X7_routeOf lk_X7_48 (by first | assumption | exact hUp_s) rfl ⟨by decide, by decide⟩ (Nat.le_of_ble_eq_true rfl) ⟨by omega, by omega⟩ rfl dX7_bestOf_13) (fun r h1 hp1 => ?_)
        obtain ⟨rfl, rfl⟩ := hp1
        cases hc : C i q with
        | none =>
          refine j_refN rfl ?_
          first | refine j_astore (pc := 16) F dX7_bestOf_16 (by decide) ?_ | refine j_astoreq (pc := 16) F dX7_bestOf_16 (by decide) ?_ | refine j_astoreN (pc := 16) F dX7_bestOf_16 (by decide) ?_
          refine j_aloadN (pc := 18) F dX7_bestOf_18 rfl ?_
          refine j_ifnullN (pc := 20) F 35 dX7_bestOf_20 (by decide) ?_
          first | refine j_iincN (pc := 35) F dX7_bestOf_35 rfl (by decide) ?_ | refine j_iincM (pc := 35) F dX7_bestOf_35 rfl (by decide) ?_ | refine j_iinc (pc := 35) F dX7_bestOf_35 rfl rfl (by decide) ?_
          refine j_goto (pc := 38) F 4 dX7_bestOf_38 (by decide) ?_
          refine ih (i + 1) _ (by omega) (by omega) ⟨rfl, rfl, ?_, rfl, trivial⟩
          rw [show bst D.2.2.1 (fun p => C p q) (i + 1) = bst D.2.2.1 (fun p => C p q) i by rw [bst, hc]]
          rfl
        | some u =>
          obtain ⟨w1, w2, w3, w4, w5, w6⟩ := hL i q u (by omega) hq.2 hc
          have w7 := w1.1
          refine j_refS rfl ?_
          first | refine j_astore (pc := 16) F dX7_bestOf_16 (by decide) ?_ | refine j_astoreq (pc := 16) F dX7_bestOf_16 (by decide) ?_ | refine j_astoreN (pc := 16) F dX7_bestOf_16 (by decide) ?_
          first | refine j_aload (pc := 18) F dX7_bestOf_18 rfl ?_ | refine j_aloadq (pc := 18) F dX7_bestOf_18 rfl ?_
          refine j_ifnull (pc := 20) F dX7_bestOf_20 ?_
          cases hb : bst D.2.2.1 (fun p => C p q) i with
          | none =>
            first | refine j_aload (pc := 23) F dX7_bestOf_23 rfl ?_ | refine j_aloadq (pc := 23) F dX7_bestOf_23 rfl ?_
            refine j_aload_nN (pc := 25) F dX7_bestOf_25 ?_ ?_
            · rfl
            · refine j_ri (j_runV (pc := 26) F (c_X6_isBetterThanN) m_X6_isBetterThan mv_X6_isBetterThan lk_X7_52 (by first | assumption | exact hUp_s) rfl ⟨by decide, by decide⟩ (Nat.le_of_ble_eq_true rfl) ⟨by omega, by omega⟩ rfl dX7_bestOf_26) (fun r h6 hp1 => ?_)
              obtain ⟨rfl, rfl⟩ := hp1
              first | refine j_if_eqB (pc := 29) F 35 dX7_bestOf_29 (by decide) (fun c2 => ?_) (fun c2 => ?_) | refine j_if_eqN (pc := 29) F 35 dX7_bestOf_29 (by decide) (by omega) (fun c2 => ?_) (fun c2 => ?_) | refine j_if_eqI (pc := 29) F 35 dX7_bestOf_29 (by decide) (fun c2 => ?_) (fun c2 => ?_)
              · cases c2
              · first | refine j_aload (pc := 32) F dX7_bestOf_32 rfl ?_ | refine j_aloadq (pc := 32) F dX7_bestOf_32 rfl ?_
                first | refine j_astore_n (pc := 34) F dX7_bestOf_34 (by decide) ?_ | refine j_astore_nq (pc := 34) F dX7_bestOf_34 (by decide) ?_ | refine j_astore_nN (pc := 34) F dX7_bestOf_34 (by decide) ?_
                first | refine j_iincN (pc := 35) F dX7_bestOf_35 rfl (by decide) ?_ | refine j_iincM (pc := 35) F dX7_bestOf_35 rfl (by decide) ?_ | refine j_iinc (pc := 35) F dX7_bestOf_35 rfl rfl (by decide) ?_
                refine j_goto (pc := 38) F 4 dX7_bestOf_38 (by decide) ?_
                refine ih (i + 1) _ (by omega) (by omega) ⟨rfl, rfl, ?_, rfl, trivial⟩
                rw [show bst D.2.2.1 (fun p => C p q) (i + 1) = some u by rw [bst, hc, hb]]
                rfl
          | some v =>
            obtain ⟨p2, y1, y2⟩ := bst_in hb
            obtain ⟨v1, v2, v3, v4, v5, v6⟩ := hL p2 q v (by omega) hq.2 y2
            first | refine j_aload (pc := 23) F dX7_bestOf_23 rfl ?_ | refine j_aloadq (pc := 23) F dX7_bestOf_23 rfl ?_
            refine j_aload_n (pc := 25) (x := T.1 v) F dX7_bestOf_25 ?_ ?_
            · rfl
            · refine j_ri (j_runV (pc := 26) F (c_X6_isBetterThan w1 (w2.r w5 w6) v1 (v2.r v5 v6)) m_X6_isBetterThan mv_X6_isBetterThan lk_X7_52 (by first | assumption | exact hUp_s) rfl ⟨by decide, by decide⟩ (Nat.le_of_ble_eq_true rfl) ⟨by omega, by omega⟩ rfl dX7_bestOf_26) (fun r h6 hp1 => ?_)
              obtain ⟨rfl, rfl⟩ := hp1
              have hbt : better (D.2.2.1 u) (D.1 u) (D.2.2.1 v) (D.1 v) = decide (D.2.2.1 u < D.2.2.1 v) := by
                rw [better]
                congr 1
                rw [w3, v3, eq_iff_iff]
                omega
              rw [hbt]
              first | refine j_if_eqB (pc := 29) F 35 dX7_bestOf_29 (by decide) (fun c2 => ?_) (fun c2 => ?_) | refine j_if_eqN (pc := 29) F 35 dX7_bestOf_29 (by decide) (by omega) (fun c2 => ?_) (fun c2 => ?_) | refine j_if_eqI (pc := 29) F 35 dX7_bestOf_29 (by decide) (fun c2 => ?_) (fun c2 => ?_)
              · first | refine j_iincN (pc := 35) F dX7_bestOf_35 rfl (by decide) ?_ | refine j_iincM (pc := 35) F dX7_bestOf_35 rfl (by decide) ?_ | refine j_iinc (pc := 35) F dX7_bestOf_35 rfl rfl (by decide) ?_
                refine j_goto (pc := 38) F 4 dX7_bestOf_38 (by decide) ?_
                refine ih (i + 1) _ (by omega) (by omega) ⟨rfl, rfl, ?_, rfl, trivial⟩
                rw [show bst D.2.2.1 (fun p => C p q) (i + 1) = some v by rw [bst, hc, hb]; dsimp only; rw [if_neg (of_decide_eq_false c2)]]
                rfl
              · first | refine j_aload (pc := 32) F dX7_bestOf_32 rfl ?_ | refine j_aloadq (pc := 32) F dX7_bestOf_32 rfl ?_
                first | refine j_astore_n (pc := 34) F dX7_bestOf_34 (by decide) ?_ | refine j_astore_nq (pc := 34) F dX7_bestOf_34 (by decide) ?_ | refine j_astore_nN (pc := 34) F dX7_bestOf_34 (by decide) ?_
                first | refine j_iincN (pc := 35) F dX7_bestOf_35 rfl (by decide) ?_ | refine j_iincM (pc := 35) F dX7_bestOf_35 rfl (by decide) ?_ | refine j_iinc (pc := 35) F dX7_bestOf_35 rfl rfl (by decide) ?_
                refine j_goto (pc := 38) F 4 dX7_bestOf_38 (by decide) ?_
                refine ih (i + 1) _ (by omega) (by omega) ⟨rfl, rfl, ?_, rfl, trivial⟩
                rw [show bst D.2.2.1 (fun p => C p q) (i + 1) = some u by rw [bst, hc, hb]; dsimp only; rw [if_pos (of_decide_eq_true c2)]]
                rfl
  exact loop 7 0 _ (by omega) (by omega) ⟨rfl, rfl, rfl, rfl, trivial⟩
end TREE
