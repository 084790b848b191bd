/-! ===== Bgpreplay$History ===== -/
def isHist (g : GG) (h : HF) (hi ti ke bo bt : Nat) (rA : Nat → Nat) (m : Nat) (Tm : Nat → Nat) (kc : Nat) (K : Nat → Nat) : Prop := h hi = some (.inr (1, [.ref ti, .int (nI m), .ref ke, .int (nI kc), .ref bo, .ref bt])) ∧ (∃ f : Nat → Int32, h ti = some (aI g 300 f) ∧ ∀ u, u < m → f u = nI (Tm u)) ∧ (∃ f : Nat → Option Nat, h ke = some (aR g 300 f) ∧ ∀ j, j < kc → f j = some (rA (K j))) ∧ (∃ f : Nat → Option Nat, h bo = some (aR g 512 f)) ∧ (∃ f : Nat → Option Nat, h bt = some (aR g 512 f)) ∧ m ≤ 300 ∧ kc ≤ 300
def isKept (g : GG) (h : HF) (T : RF) (D : UD) (E : Nat → Nat) (kc : Nat) (K : Nat → Nat) : Prop := ∀ j, j < kc → isRt g h T D E (K j) ∧ dOk D (K j) ∧ K j < 300 ∧ E (K j) ≤ 300
/-- the best of the first kept ones that are ok -/
def rfd (ok : Nat → Bool) (bf : Nat → Nat → Bool) (K : Nat → Nat) : Nat → Option Nat
  | 0 => none
  | j + 1 => if ok (K j) = true then (match rfd ok bf K j with
    | none => some (K j)
    | some v => if bf (K j) v = true then some (K j) else some v) else rfd ok bf K j
theorem rfd_in {ok : Nat → Bool} {bf : Nat → Nat → Bool} {K : Nat → Nat} : ∀ {j u : Nat}, rfd ok bf K j = some u → ∃ i, i < j ∧ K i = u ∧ ok u = true
  | 0, u, h => by cases h
  | j + 1, u, h => by
    unfold rfd at h
    by_cases hk : ok (K j) = true
    · rw [if_pos hk] at h
      cases hb : rfd ok bf K j with
      | none => rw [hb] at h; cases h; exact ⟨j, by omega, rfl, hk⟩
      | some v =>
        rw [hb] at h
        dsimp only at h
        by_cases hv : bf (K j) v = true
        · rw [if_pos hv] at h; cases h; exact ⟨j, by omega, rfl, hk⟩
        · rw [if_neg hv] at h
          cases h
          obtain ⟨i, h1, h2⟩ := rfd_in hb
          exact ⟨i, by omega, h2⟩
    · rw [if_neg hk] at h
      obtain ⟨i, h1, h2⟩ := rfd_in h
      exact ⟨i, by omega, h2⟩
def stands (E : Nat → Nat) (n u : Nat) : Bool := decide (u < n ∧ n ≤ E u)
def bfF (D : UD) (u v : Nat) : Bool := foundBf (Nat.log2 (D.2.1 u)) (D.2.2.1 u) (D.1 u) (Nat.log2 (D.2.1 v)) (D.2.2.1 v) (D.1 v)
def bfB (D : UD) (u v : Nat) : Bool := better (D.2.2.1 u) (D.1 u) (D.2.2.1 v) (D.1 v)
def okF (D : UD) (E : Nat → Nat) (n a u : Nat) : Bool := stands E n u && decide (pnN a (Nat.log2 (D.2.1 u)) = D.2.1 u)
def okB (D : UD) (E : Nat → Nat) (n q u : Nat) : Bool := stands E n u && decide (D.2.1 u = q)
def unl (D : UD) : Option Nat → Option Nat → Bool
  | none, none => false
  | none, some _ => true
  | some _, none => true
  | some u, some v => !(decide (D.1 u = D.1 v) && pLike (D.2.2.1 u) (D.2.2.2 u) (D.2.2.1 v) (D.2.2.2 v))
section HIST
variable {l : Launch} {g : GG} {A : Nat → Prop} {h : HF}
theorem c_X1_size {hi ti ke bo bt m kc : Nat} {rA Tm K : Nat → Nat} (hh : isHist g h hi ti ke bo bt rA m Tm kc K) : MI l g A h yX1_size cX1_size 1 (some .int) 0 0 0 [.ref hi] (fun r h1 => r = nI m ∧ h1 = h) := by
  obtain ⟨e1, -⟩ := hh
  refine j_met (by decide +kernel) (Nat.le_of_ble_eq_true rfl) (fun X F hn hQ => ?_)
  first | refine j_aload_n (pc := 0) F dX1_size_0 rfl ?_ | refine j_aload_nq (pc := 0) F dX1_size_0 rfl ?_
  refine j_get (pc := 1) F fg_X1_15 (by first | assumption | exact hUp_s) (by rfl) dX1_size_1 ?_
  exact j_iret F hQ rfl rfl (by omega) (by omega) dX1_size_4 ⟨rfl, rfl⟩
theorem c_X1_isFull {hi ti ke bo bt m kc : Nat} {rA Tm K : Nat → Nat} (hh : isHist g h hi ti ke bo bt rA m Tm kc K) : MI l g A h yX1_isFull cX1_isFull 1 (some .boolean) 0 0 0 [.ref hi] (fun r h1 => r = bI (decide (300 ≤ m)) ∧ h1 = h) := by
  obtain ⟨e1, e2, e3, e4, e5, hm, hk⟩ := hh
  refine j_met (by decide +kernel) (Nat.le_of_ble_eq_true rfl) (fun X F hn hQ => ?_)
  first | refine j_aload_n (pc := 0) F dX1_isFull_0 rfl ?_ | refine j_aload_nq (pc := 0) F dX1_isFull_0 rfl ?_
  refine j_get (pc := 1) F fg_X1_15 (by first | assumption | exact hUp_s) (by rfl) dX1_isFull_1 ?_
  refine j_sipush (pc := 4) (v := (nI 300)) F dX1_isFull_4 (by decide) ?_
  first | refine j_icmp_ltN (pc := 7) F 14 dX1_isFull_7 (by decide) (by omega) (by omega) (fun c => ?_) (fun c => ?_) | refine j_icmp_ltIN (pc := 7) F 14 dX1_isFull_7 (by decide) (by omega) (fun c => ?_) (fun c => ?_) | refine j_icmp_ltNI (pc := 7) F 14 dX1_isFull_7 (by decide) (by omega) (fun c => ?_) (fun c => ?_) | refine j_icmp_ltI (pc := 7) F 14 dX1_isFull_7 (by decide) (fun c => ?_) (fun c => ?_)
  · refine j_iconst (pc := 14) (v := (nI 0)) F dX1_isFull_14 (by decide) ?_
    exact j_iret F hQ rfl rfl (by omega) (by omega) dX1_isFull_15 ⟨by rw [decide_eq_false (by omega)]; rfl, rfl⟩
  · refine j_iconst (pc := 10) (v := (nI 1)) F dX1_isFull_10 (by decide) ?_
    refine j_goto (pc := 11) F 15 dX1_isFull_11 (by decide) ?_
    exact j_iret F hQ rfl rfl (by omega) (by omega) dX1_isFull_15 ⟨by rw [decide_eq_true (by omega)]; rfl, rfl⟩
theorem c_X1_noteUpdate {hi ti ke bo bt m kc t : Nat} {rA Tm K : Nat → Nat} (hh : isHist g h hi ti ke bo bt rA m Tm kc K) (hm3 : m < 300) : MVo l g A h yX1_noteUpdate cX1_noteUpdate 2 1 0 0 [.ref hi, .int (nI t)] (fun h1 => isHist g h1 hi ti ke bo bt rA (m + 1) (fun u => if u = m then t else Tm u) kc K ∧ ∀ b, b ≠ hi → b ≠ ti → h1 b = h b) := by
  have hh0 := hh
  obtain ⟨e1, ⟨f1, e2, e3⟩, ⟨f2, e4, e5⟩, ⟨f3, e6⟩, ⟨f4, e7⟩, hm, hk⟩ := hh
  have n1 : hi ≠ ti := ne_of2 e1 e2 (fun z => by cases z)
  have n2 : hi ≠ ke := ne_of2 e1 e4 (fun z => by cases z)
  have n3 : hi ≠ bo := ne_of2 e1 e6 (fun z => by cases z)
  have n4 : hi ≠ bt := ne_of2 e1 e7 (fun z => by cases z)
  have nn : ∀ b N f, h b = some (aR g N f) → b ≠ ti := fun b N f hb z => by
    rw [z, e2] at hb
    have := congrArg (fun o : Option va_E => match o with | some (.inl (_, _, .inl _)) => true | _ => false) hb
    simp at this
  refine j_met (by decide +kernel) (Nat.le_of_ble_eq_true rfl) (fun X F hn hQ => ?_)
  first | refine j_aload_n (pc := 0) F dX1_noteUpdate_0 rfl ?_ | refine j_aload_nq (pc := 0) F dX1_noteUpdate_0 rfl ?_
  refine j_ri (j_runV (pc := 1) F (c_X1_isFull hh0) m_X1_isFull mv_X1_isFull lk_X1_34 (by first | assumption | exact hUp_s) rfl ⟨by decide, by decide⟩ (Nat.le_of_ble_eq_true rfl) ⟨by omega, by omega⟩ rfl dX1_noteUpdate_1) (fun r h1 hp1 => ?_)
  obtain ⟨rfl, rfl⟩ := hp1
  first | refine j_if_neB (pc := 4) F 27 dX1_noteUpdate_4 (by decide) (fun c => ?_) (fun c => ?_) | refine j_if_neN (pc := 4) F 27 dX1_noteUpdate_4 (by decide) (by omega) (fun c => ?_) (fun c => ?_) | refine j_if_neI (pc := 4) F 27 dX1_noteUpdate_4 (by decide) (fun c => ?_) (fun c => ?_)
  · have := of_decide_eq_true c; omega
  · first | refine j_aload_n (pc := 7) F dX1_noteUpdate_7 rfl ?_ | refine j_aload_nq (pc := 7) F dX1_noteUpdate_7 rfl ?_
    refine j_get (pc := 8) F fg_X1_9 (by first | assumption | exact hUp_s) (by rfl) dX1_noteUpdate_8 ?_
    first | refine j_aload_n (pc := 11) F dX1_noteUpdate_11 rfl ?_ | refine j_aload_nq (pc := 11) F dX1_noteUpdate_11 rfl ?_
    refine j_get (pc := 12) F fg_X1_15 (by first | assumption | exact hUp_s) (by rfl) dX1_noteUpdate_12 ?_
    refine j_iload_n (pc := 15) F dX1_noteUpdate_15 rfl ?_
    refine j_iastN (pc := 16) F (by first | assumption | exact hUp_s) (by omega) (by decide) dX1_noteUpdate_16 ?_
    have g1 : hUp h1 ti (aI g 300 (upd f1 m (nI t))) hi = some (.inr (1, [.ref ti, .int (nI m), .ref ke, .int (nI kc), .ref bo, .ref bt])) := (hUp_n n1).trans e1
    first | refine j_aload_n (pc := 17) F dX1_noteUpdate_17 rfl ?_ | refine j_aload_nq (pc := 17) F dX1_noteUpdate_17 rfl ?_
    refine j_dup (pc := 18) F dX1_noteUpdate_18 rfl ?_
    refine j_get (pc := 19) F fg_X1_15 (by first | assumption | exact hUp_s) (by rfl) dX1_noteUpdate_19 ?_
    refine j_iconst (pc := 22) (v := (nI 1)) F dX1_noteUpdate_22 (by decide) ?_
    first | refine j_iaddN (pc := 23) F dX1_noteUpdate_23 ?_ | refine j_iadd (pc := 23) F dX1_noteUpdate_23 ?_
    refine j_put (pc := 24) F fp_X1_15 (by first | assumption | exact hUp_s) (by rfl) (by rfl) (Nat.le_of_ble_eq_true rfl) dX1_noteUpdate_24 ?_
    refine j_vret F hQ rfl (by omega) (by omega) dX1_noteUpdate_27 ⟨⟨hUp_s, ⟨upd f1 m (nI t), ?_, fun u hu => ?_⟩, ⟨f2, ?_, e5⟩, ⟨f3, ?_⟩, ⟨f4, ?_⟩, by omega, hk⟩, fun b q1 q2 => ?_⟩
    · rw [hUp_n (Ne.symm n1), hUp_s]
    · dsimp only
      by_cases hum : u = m
      · subst hum; rw [pk_us, if_pos rfl]
      · rw [pk_un hum, if_neg hum]; exact e3 u (by omega)
    · rw [hUp_n (Ne.symm n2), hUp_n (nn _ _ _ e4), e4]
    · rw [hUp_n (Ne.symm n3), hUp_n (nn _ _ _ e6), e6]
    · rw [hUp_n (Ne.symm n4), hUp_n (nn _ _ _ e7), e7]
    · rw [hUp_n q1, hUp_n q2]
theorem c_X1_keep {hi ti ke bo bt m kc u : Nat} {Tm K : Nat → Nat} {T : RF} {D : UD} {E : Nat → Nat} (hh : isHist g h hi ti ke bo bt T.1 m Tm kc K) (hr : isRt g h T D E u) (hk3 : kc < 300) (nb : ke ≠ bo ∧ ke ≠ bt) : MVo l g A h yX1_keep cX1_keep 2 0 0 0 [.ref hi, .ref (T.1 u)] (fun h1 => isHist g h1 hi ti ke bo bt T.1 m Tm (kc + 1) (fun j => if j = kc then u else K j) ∧ ∀ b, b ≠ hi → b ≠ ke → h1 b = h b) := by
  obtain ⟨e1, ⟨f1, e2, e3⟩, ⟨f2, e4, e5⟩, ⟨f3, e6⟩, ⟨f4, e7⟩, hm, hk⟩ := hh
  have r1 := hr.1
  have n1 : hi ≠ ti := ne_of2 e1 e2 (fun z => by cases z)
  have n2 : hi ≠ ke := ne_of2 e1 e4 (fun z => by cases z)
  have n3 : hi ≠ bo := ne_of2 e1 e6 (fun z => by cases z)
  have n4 : hi ≠ bt := ne_of2 e1 e7 (fun z => by cases z)
  have n5 : ti ≠ ke := fun z => by
    rw [z, e4] at e2
    have := congrArg (fun o : Option va_E => match o with | some (.inl (_, _, .inl _)) => true | _ => false) e2
    simp at this
  refine j_met (by decide +kernel) (Nat.le_of_ble_eq_true rfl) (fun X F hn hQ => ?_)
  first | refine j_aload_n (pc := 0) F dX1_keep_0 rfl ?_ | refine j_aload_nq (pc := 0) F dX1_keep_0 rfl ?_
  refine j_get (pc := 1) F fg_X1_25 (by first | assumption | exact hUp_s) (by rfl) dX1_keep_1 ?_
  refine j_sipush (pc := 4) (v := (nI 300)) F dX1_keep_4 (by decide) ?_
  first | refine j_icmp_geN (pc := 7) F 30 dX1_keep_7 (by decide) (by omega) (by omega) (fun c => ?_) (fun c => ?_) | refine j_icmp_geIN (pc := 7) F 30 dX1_keep_7 (by decide) (by omega) (fun c => ?_) (fun c => ?_) | refine j_icmp_geNI (pc := 7) F 30 dX1_keep_7 (by decide) (by omega) (fun c => ?_) (fun c => ?_) | refine j_icmp_geI (pc := 7) F 30 dX1_keep_7 (by decide) (fun c => ?_) (fun c => ?_)
  · omega
  · first | refine j_aload_n (pc := 10) F dX1_keep_10 rfl ?_ | refine j_aload_nq (pc := 10) F dX1_keep_10 rfl ?_
    refine j_get (pc := 11) F fg_X1_21 (by first | assumption | exact hUp_s) (by rfl) dX1_keep_11 ?_
    first | refine j_aload_n (pc := 14) F dX1_keep_14 rfl ?_ | refine j_aload_nq (pc := 14) F dX1_keep_14 rfl ?_
    refine j_get (pc := 15) F fg_X1_25 (by first | assumption | exact hUp_s) (by rfl) dX1_keep_15 ?_
    first | refine j_aload_n (pc := 18) F dX1_keep_18 rfl ?_ | refine j_aload_nq (pc := 18) F dX1_keep_18 rfl ?_
    refine j_astRsN (pc := 19) F e4 r1 (by omega) (by decide) dX1_keep_19 ?_
    have g1 : hUp h ke (aR g 300 (va_up f2 kc (some (T.1 u)))) hi = some (.inr (1, [.ref ti, .int (nI m), .ref ke, .int (nI kc), .ref bo, .ref bt])) := (hUp_n n2).trans e1
    first | refine j_aload_n (pc := 20) F dX1_keep_20 rfl ?_ | refine j_aload_nq (pc := 20) F dX1_keep_20 rfl ?_
    refine j_dup (pc := 21) F dX1_keep_21 rfl ?_
    refine j_get (pc := 22) F fg_X1_25 (by first | assumption | exact hUp_s) (by rfl) dX1_keep_22 ?_
    refine j_iconst (pc := 25) (v := (nI 1)) F dX1_keep_25 (by decide) ?_
    first | refine j_iaddN (pc := 26) F dX1_keep_26 ?_ | refine j_iadd (pc := 26) F dX1_keep_26 ?_
    refine j_put (pc := 27) F fp_X1_25 (by first | assumption | exact hUp_s) (by rfl) (by rfl) (Nat.le_of_ble_eq_true rfl) dX1_keep_27 ?_
    refine j_vret F hQ rfl (by omega) (by omega) dX1_keep_30 ⟨⟨hUp_s, ⟨f1, ?_, e3⟩, ⟨va_up f2 kc (some (T.1 u)), ?_, fun j hj => ?_⟩, ⟨f3, ?_⟩, ⟨f4, ?_⟩, hm, by omega⟩, fun b q1 q2 => ?_⟩
    · rw [hUp_n (Ne.symm n1), hUp_n n5, e2]
    · rw [hUp_n (Ne.symm n2), hUp_s]
    · by_cases hjk : j = kc
      · subst hjk; dsimp only; rw [va_up_self, if_pos rfl]
      · dsimp only; rw [va_up_ne _ _ hjk, if_neg hjk]; exact e5 j (by omega)
    · rw [hUp_n (Ne.symm n3), hUp_n (Ne.symm nb.1), e6]
    · rw [hUp_n (Ne.symm n4), hUp_n (Ne.symm nb.2), e7]
    · rw [hUp_n q1, hUp_n q2]
theorem c_X1_sizeAt {hi ti ke bo bt m kc : Nat} {rA Tm K : Nat → Nat} {x : Int32} (hh : isHist g h hi ti ke bo bt rA m Tm kc K) (hT : ∀ u, u < m → Tm u < 2 ^ 31) : MI l g A h yX1_sizeAt cX1_sizeAt 3 (some .int) 0 0 0 [.ref hi, .int x] (fun r h1 => (∃ c, c ≤ m ∧ r = nI c ∧ (∀ j, j < c → (Tm j : Int) ≤ x.toInt) ∧ (c < m → x.toInt < (Tm c : Int))) ∧ h1 = h) := by
  obtain ⟨e1, ⟨f1, e2, e3⟩, ⟨f2, e4, e5⟩, ⟨f3, e6⟩, ⟨f4, e7⟩, hm, hk⟩ := hh
  refine j_met (by decide +kernel) (Nat.le_of_ble_eq_true rfl) (fun X F hn hQ => ?_)
  refine j_iconst (pc := 0) (v := (nI 0)) F dX1_sizeAt_0 (by decide) ?_
  refine j_istore_n (pc := 1) F dX1_sizeAt_1 (by decide) ?_
  have loop : ∀ k i (lv : List (Nat × Value)), m < i + k → i ≤ m → (∀ j, j < i → (Tm j : Int) ≤ x.toInt) → lall lv [(0, .ref hi), (1, .int x), (2, .int (nI i))] → J l X g A 3 0 0 h 2 lv [] := by
    intro k
    induction k with
    | zero => intro i lv q1 q2; omega
    | succ k ih =>
      intro i lv q1 q2 q3 q4
      refine j_lv _ q4 ?_
      refine j_iload_n (pc := 2) F dX1_sizeAt_2 rfl ?_
      first | refine j_aload_n (pc := 3) F dX1_sizeAt_3 rfl ?_ | refine j_aload_nq (pc := 3) F dX1_sizeAt_3 rfl ?_
      refine j_get (pc := 4) F fg_X1_15 (by first | assumption | exact hUp_s) (by rfl) dX1_sizeAt_4 ?_
      first | refine j_icmp_geN (pc := 7) F 26 dX1_sizeAt_7 (by decide) (by omega) (by omega) (fun c => ?_) (fun c => ?_) | refine j_icmp_geIN (pc := 7) F 26 dX1_sizeAt_7 (by decide) (by omega) (fun c => ?_) (fun c => ?_) | refine j_icmp_geNI (pc := 7) F 26 dX1_sizeAt_7 (by decide) (by omega) (fun c => ?_) (fun c => ?_) | refine j_icmp_geI (pc := 7) F 26 dX1_sizeAt_7 (by decide) (fun c => ?_) (fun c => ?_)
      · refine j_iload_n (pc := 26) F dX1_sizeAt_26 rfl ?_
        exact j_iret F hQ rfl rfl (by omega) (by omega) dX1_sizeAt_27 ⟨⟨i, q2, rfl, q3, fun z => by omega⟩, rfl⟩
      · have ht := hT i (by omega)
        first | refine j_aload_n (pc := 10) F dX1_sizeAt_10 rfl ?_ | refine j_aload_nq (pc := 10) F dX1_sizeAt_10 rfl ?_
        refine j_get (pc := 11) F fg_X1_9 (by first | assumption | exact hUp_s) (by rfl) dX1_sizeAt_11 ?_
        refine j_iload_n (pc := 14) F dX1_sizeAt_14 rfl ?_
        refine j_ialdN (pc := 15) F (by first | assumption | exact hUp_s) (by omega) (by decide) dX1_sizeAt_15 ?_
        rw [e3 i (by omega)]
        refine j_iload_n (pc := 16) F dX1_sizeAt_16 rfl ?_
        first | refine j_icmp_gtN (pc := 17) F 26 dX1_sizeAt_17 (by decide) (by omega) (by omega) (fun c2 => ?_) (fun c2 => ?_) | refine j_icmp_gtIN (pc := 17) F 26 dX1_sizeAt_17 (by decide) (by omega) (fun c2 => ?_) (fun c2 => ?_) | refine j_icmp_gtNI (pc := 17) F 26 dX1_sizeAt_17 (by decide) (by omega) (fun c2 => ?_) (fun c2 => ?_) | refine j_icmp_gtI (pc := 17) F 26 dX1_sizeAt_17 (by decide) (fun c2 => ?_) (fun c2 => ?_)
        · refine j_iload_n (pc := 26) F dX1_sizeAt_26 rfl ?_
          exact j_iret F hQ rfl rfl (by omega) (by omega) dX1_sizeAt_27 ⟨⟨i, q2, rfl, q3, fun z => by omega⟩, rfl⟩
        · first | refine j_iincN (pc := 20) F dX1_sizeAt_20 rfl (by decide) ?_ | refine j_iincM (pc := 20) F dX1_sizeAt_20 rfl (by decide) ?_ | refine j_iinc (pc := 20) F dX1_sizeAt_20 rfl rfl (by decide) ?_
          refine j_goto (pc := 23) F 2 dX1_sizeAt_23 (by decide) ?_
          refine ih (i + 1) _ (by omega) (by omega) (fun j hj => ?_) ⟨rfl, rfl, rfl, trivial⟩
          rcases Nat.lt_or_ge j i with z1 | z1
          · exact q3 j z1
          · rw [show j = i by omega]; omega
  exact loop (m + 1) 0 _ (by omega) (by omega) (fun j hj => by omega) ⟨rfl, rfl, rfl, trivial⟩
theorem c_X1_routeFor {hi ti ke bo bt m kc a n : Nat} {Tm K : Nat → Nat} {T : RF} {D : UD} {E : Nat → Nat} (hh : isHist g h hi ti ke bo bt T.1 m Tm kc K) (hL : isKept g h T D E kc K) (ha : a < 256) (hn3 : n ≤ 300) : MQo l g A h yX1_routeFor cX1_routeFor 6 (some (.object "Bgpreplay$Route")) 3 0 0 [.ref hi, .int (nI a), .int (nI n)] (fun r h1 => r = (rfd (okF D E n a) (bfF D) K kc).map T.1 ∧ h1 = h) := by
  obtain ⟨e1, ⟨f1, e2, e3⟩, ⟨f2, e4, e5⟩, ⟨f3, e6⟩, ⟨f4, e7⟩, hm, hk⟩ := hh
  refine j_met (by decide +kernel) (Nat.le_of_ble_eq_true rfl) (fun X F hn hQ => ?_)
  refine j_null (pc := 0) F dX1_routeFor_0 ?_
  first | refine j_astore_n (pc := 1) F dX1_routeFor_1 (by decide) ?_ | refine j_astore_nq (pc := 1) F dX1_routeFor_1 (by decide) ?_ | refine j_astore_nN (pc := 1) F dX1_routeFor_1 (by decide) ?_
  refine j_iconst (pc := 2) (v := (nI 0)) F dX1_routeFor_2 (by decide) ?_
  refine j_istore (pc := 3) F dX1_routeFor_3 (by decide) ?_
  have loop : ∀ k i (lv : List (Nat × Value)), kc < i + k → i ≤ kc → lall lv [(0, .ref hi), (1, .int (nI a)), (2, .int (nI n)), (3, va_rf ((rfd (okF D E n a) (bfF D) K i).map T.1)), (4, .int (nI i))] → J l X g A 6 0 0 h 5 lv [] := by
    intro k
    induction k with
    | zero => intro i lv q1 q2; omega
    | succ k ih =>
      intro i lv q1 q2 q3
      refine j_lv _ q3 ?_
      refine j_iload (pc := 5) F dX1_routeFor_5 rfl ?_
      first | refine j_aload_n (pc := 7) F dX1_routeFor_7 rfl ?_ | refine j_aload_nq (pc := 7) F dX1_routeFor_7 rfl ?_
      refine j_get (pc := 8) F fg_X1_25 (by first | assumption | exact hUp_s) (by rfl) dX1_routeFor_8 ?_
      first | refine j_icmp_geN (pc := 11) F 67 dX1_routeFor_11 (by decide) (by omega) (by omega) (fun c => ?_) (fun c => ?_) | refine j_icmp_geIN (pc := 11) F 67 dX1_routeFor_11 (by decide) (by omega) (fun c => ?_) (fun c => ?_) | refine j_icmp_geNI (pc := 11) F 67 dX1_routeFor_11 (by decide) (by omega) (fun c => ?_) (fun c => ?_) | refine j_icmp_geI (pc := 11) F 67 dX1_routeFor_11 (by decide) (fun c => ?_) (fun c => ?_)
      · have : i = kc := by omega
        subst this
        first | refine j_aload_n (pc := 67) F dX1_routeFor_67 rfl ?_ | refine j_aload_nq (pc := 67) F dX1_routeFor_67 rfl ?_
        exact j_aret F hQ rfl (by omega) (by omega) dX1_routeFor_68 ⟨rfl, rfl⟩
      · obtain ⟨w1, w2, w3, w4⟩ := hL i (by omega)
        have w5 := w1.1
        have w6 := w1.2.1
        have w7 := w2.r w3 w4
        have w8 := w6
        unfold isPfx at w8
        first | refine j_aload_n (pc := 14) F dX1_routeFor_14 rfl ?_ | refine j_aload_nq (pc := 14) F dX1_routeFor_14 rfl ?_
        refine j_get (pc := 15) F fg_X1_21 (by first | assumption | exact hUp_s) (by rfl) dX1_routeFor_15 ?_
        refine j_iload (pc := 18) F dX1_routeFor_18 rfl ?_
        first | refine j_aldRN (pc := 20) F (by first | assumption | exact hUp_s) (by omega) (by decide) dX1_routeFor_20 ?_ | refine j_aldEN (pc := 20) F (by first | assumption | exact hUp_s) (by omega) (by decide) dX1_routeFor_20 ?_ | refine j_aldIIN (pc := 20) F (by first | assumption | exact hUp_s) (by omega) (by decide) dX1_routeFor_20 ?_
        refine j_refS (e5 i (by omega)) ?_
        first | refine j_astore (pc := 21) F dX1_routeFor_21 (by decide) ?_ | refine j_astoreq (pc := 21) F dX1_routeFor_21 (by decide) ?_ | refine j_astoreN (pc := 21) F dX1_routeFor_21 (by decide) ?_
        first | refine j_aload (pc := 23) F dX1_routeFor_23 rfl ?_ | refine j_aloadq (pc := 23) F dX1_routeFor_23 rfl ?_
        refine j_ifnull (pc := 25) F dX1_routeFor_25 ?_
        first | refine j_aload (pc := 28) F dX1_routeFor_28 rfl ?_ | refine j_aloadq (pc := 28) F dX1_routeFor_28 rfl ?_
        refine j_iload_n (pc := 30) F dX1_routeFor_30 rfl ?_
        refine j_ri (j_runV (pc := 31) F (c_X6_standsAfter w1 w7 hn3) m_X6_standsAfter mv_X6_standsAfter lk_X1_38 (by first | assumption | exact hUp_s) rfl ⟨by decide, by decide⟩ (Nat.le_of_ble_eq_true rfl) ⟨by omega, by omega⟩ rfl dX1_routeFor_31) (fun r h1 hp1 => ?_)
        obtain ⟨rfl, rfl⟩ := hp1
        first | refine j_if_eqB (pc := 34) F 61 dX1_routeFor_34 (by decide) (fun c2 => ?_) (fun c2 => ?_) | refine j_if_eqN (pc := 34) F 61 dX1_routeFor_34 (by decide) (by omega) (fun c2 => ?_) (fun c2 => ?_) | refine j_if_eqI (pc := 34) F 61 dX1_routeFor_34 (by decide) (fun c2 => ?_) (fun c2 => ?_)
        · have hno : ¬ okF D E n a (K i) = true := by rw [okF, stands, c2]; simp
          first | refine j_iincN (pc := 61) F dX1_routeFor_61 rfl (by decide) ?_ | refine j_iincM (pc := 61) F dX1_routeFor_61 rfl (by decide) ?_ | refine j_iinc (pc := 61) F dX1_routeFor_61 rfl rfl (by decide) ?_
          refine j_goto (pc := 64) F 5 dX1_routeFor_64 (by decide) ?_
          refine ih (i + 1) _ (by omega) (by omega) ⟨rfl, rfl, rfl, ?_, rfl, trivial⟩
          rw [show rfd (okF D E n a) (bfF D) K (i + 1) = rfd (okF D E n a) (bfF D) K i by rw [rfd, if_neg hno]]
          rfl
        · first | refine j_aload (pc := 37) F dX1_routeFor_37 rfl ?_ | refine j_aloadq (pc := 37) F dX1_routeFor_37 rfl ?_
          refine j_getN (pc := 39) F fn_X1_42 (by first | assumption | exact hUp_s) (by rfl) dX1_routeFor_39 ?_
          refine j_iload_n (pc := 42) F dX1_routeFor_42 rfl ?_
          refine j_ri (j_runV (pc := 43) F (c_X3_has w6) m_X3_has mv_X3_has lk_X1_46 (by first | assumption | exact hUp_s) rfl ⟨by decide, by decide⟩ (Nat.le_of_ble_eq_true rfl) ⟨by omega, by omega⟩ rfl dX1_routeFor_43) (fun r h2 hp1 => ?_)
          obtain ⟨rfl, rfl⟩ := hp1
          rw [pnum_nI ha (log2_le w2.2.1.2)]
          have hpn := (pnN_in ha (log2_le w2.2.1.2)).2
          have hpq := w2.2.1.2
          have heq : decide (nI (pnN a (Nat.log2 (D.2.1 (K i)))) = nI (D.2.1 (K i))) = decide (pnN a (Nat.log2 (D.2.1 (K i))) = D.2.1 (K i)) := by
            congr 1
            exact propext (nI_eq (by omega) (by omega))
          rw [heq]
          first | refine j_if_eqB (pc := 46) F 61 dX1_routeFor_46 (by decide) (fun c3 => ?_) (fun c3 => ?_) | refine j_if_eqN (pc := 46) F 61 dX1_routeFor_46 (by decide) (by omega) (fun c3 => ?_) (fun c3 => ?_) | refine j_if_eqI (pc := 46) F 61 dX1_routeFor_46 (by decide) (fun c3 => ?_) (fun c3 => ?_)
          · have hno : ¬ okF D E n a (K i) = true := by rw [okF, c3]; simp
            first | refine j_iincN (pc := 61) F dX1_routeFor_61 rfl (by decide) ?_ | refine j_iincM (pc := 61) F dX1_routeFor_61 rfl (by decide) ?_ | refine j_iinc (pc := 61) F dX1_routeFor_61 rfl rfl (by decide) ?_
            refine j_goto (pc := 64) F 5 dX1_routeFor_64 (by decide) ?_
            refine ih (i + 1) _ (by omega) (by omega) ⟨rfl, rfl, rfl, ?_, rfl, trivial⟩
            rw [show rfd (okF D E n a) (bfF D) K (i + 1) = rfd (okF D E n a) (bfF D) K i by rw [rfd, if_neg hno]]
            rfl
          · have hyes : okF D E n a (K i) = true := by rw [okF, stands, c2, c3]; rfl
            cases hb : rfd (okF D E n a) (bfF D) K i with
            | none =>
              first | refine j_aload (pc := 49) F dX1_routeFor_49 rfl ?_ | refine j_aloadq (pc := 49) F dX1_routeFor_49 rfl ?_
              refine j_aload_nN (pc := 51) F dX1_routeFor_51 rfl ?_
              refine j_ri (j_runV (pc := 52) F (c_X6_isFoundBeforeN) m_X6_isFoundBefore mv_X6_isFoundBefore lk_X1_51 (by first | assumption | exact hUp_s) rfl ⟨by decide, by decide⟩ (Nat.le_of_ble_eq_true rfl) ⟨by omega, by omega⟩ rfl dX1_routeFor_52) (fun r h6 hp1 => ?_)
              obtain ⟨rfl, rfl⟩ := hp1
              first | refine j_if_eqB (pc := 55) F 61 dX1_routeFor_55 (by decide) (fun c4 => ?_) (fun c4 => ?_) | refine j_if_eqN (pc := 55) F 61 dX1_routeFor_55 (by decide) (by omega) (fun c4 => ?_) (fun c4 => ?_) | refine j_if_eqI (pc := 55) F 61 dX1_routeFor_55 (by decide) (fun c4 => ?_) (fun c4 => ?_)
              · cases c4
              · first | refine j_aload (pc := 58) F dX1_routeFor_58 rfl ?_ | refine j_aloadq (pc := 58) F dX1_routeFor_58 rfl ?_
                first | refine j_astore_n (pc := 60) F dX1_routeFor_60 (by decide) ?_ | refine j_astore_nq (pc := 60) F dX1_routeFor_60 (by decide) ?_ | refine j_astore_nN (pc := 60) F dX1_routeFor_60 (by decide) ?_
                first | refine j_iincN (pc := 61) F dX1_routeFor_61 rfl (by decide) ?_ | refine j_iincM (pc := 61) F dX1_routeFor_61 rfl (by decide) ?_ | refine j_iinc (pc := 61) F dX1_routeFor_61 rfl rfl (by decide) ?_
                refine j_goto (pc := 64) F 5 dX1_routeFor_64 (by decide) ?_
                refine ih (i + 1) _ (by omega) (by omega) ⟨rfl, rfl, rfl, ?_, rfl, trivial⟩
                rw [show rfd (okF D E n a) (bfF D) K (i + 1) = some (K i) by rw [rfd, if_pos hyes, hb]]
                rfl
            | some v =>
              obtain ⟨j2, y1, y2, -⟩ := rfd_in hb
              obtain ⟨v1, v2, v3, v4⟩ := hL j2 (by omega)
              rw [y2] at v1 v2 v3 v4
              first | refine j_aload (pc := 49) F dX1_routeFor_49 rfl ?_ | refine j_aloadq (pc := 49) F dX1_routeFor_49 rfl ?_
              refine j_aload_n (pc := 51) (x := T.1 v) F dX1_routeFor_51 rfl ?_
              refine j_ri (j_runV (pc := 52) F (c_X6_isFoundBefore w1 w7 v1 (v2.r v3 v4)) m_X6_isFoundBefore mv_X6_isFoundBefore lk_X1_51 (by first | assumption | exact hUp_s) rfl ⟨by decide, by decide⟩ (Nat.le_of_ble_eq_true rfl) ⟨by omega, by omega⟩ rfl dX1_routeFor_52) (fun r h6 hp1 => ?_)
              obtain ⟨rfl, rfl⟩ := hp1
              first | refine j_if_eqB (pc := 55) F 61 dX1_routeFor_55 (by decide) (fun c4 => ?_) (fun c4 => ?_) | refine j_if_eqN (pc := 55) F 61 dX1_routeFor_55 (by decide) (by omega) (fun c4 => ?_) (fun c4 => ?_) | refine j_if_eqI (pc := 55) F 61 dX1_routeFor_55 (by decide) (fun c4 => ?_) (fun c4 => ?_)
              · first | refine j_iincN (pc := 61) F dX1_routeFor_61 rfl (by decide) ?_ | refine j_iincM (pc := 61) F dX1_routeFor_61 rfl (by decide) ?_ | refine j_iinc (pc := 61) F dX1_routeFor_61 rfl rfl (by decide) ?_
                refine j_goto (pc := 64) F 5 dX1_routeFor_64 (by decide) ?_
                refine ih (i + 1) _ (by omega) (by omega) ⟨rfl, rfl, rfl, ?_, rfl, trivial⟩
                rw [show rfd (okF D E n a) (bfF D) K (i + 1) = some v by rw [rfd, if_pos hyes, hb]; dsimp only; rw [if_neg (by rw [bfF, c4]; simp)]]
                rfl
              · first | refine j_aload (pc := 58) F dX1_routeFor_58 rfl ?_ | refine j_aloadq (pc := 58) F dX1_routeFor_58 rfl ?_
                first | refine j_astore_n (pc := 60) F dX1_routeFor_60 (by decide) ?_ | refine j_astore_nq (pc := 60) F dX1_routeFor_60 (by decide) ?_ | refine j_astore_nN (pc := 60) F dX1_routeFor_60 (by decide) ?_
                first | refine j_iincN (pc := 61) F dX1_routeFor_61 rfl (by decide) ?_ | refine j_iincM (pc := 61) F dX1_routeFor_61 rfl (by decide) ?_ | refine j_iinc (pc := 61) F dX1_routeFor_61 rfl rfl (by decide) ?_
                refine j_goto (pc := 64) F 5 dX1_routeFor_64 (by decide) ?_
                refine ih (i + 1) _ (by omega) (by omega) ⟨rfl, rfl, rfl, ?_, rfl, trivial⟩
                rw [show rfd (okF D E n a) (bfF D) K (i + 1) = some (K i) by rw [rfd, if_pos hyes, hb]; dsimp only; rw [if_pos (show bfF D (K i) v = true from c4)]]
                rfl
  exact loop (kc + 1) 0 _ (by omega) (by omega) ⟨rfl, rfl, rfl, rfl, rfl, trivial⟩
theorem c_X1_fillBest {hi ti ke bo bt ba m kc n : Nat} {Tm K : Nat → Nat} {T : RF} {D : UD} {E : Nat → Nat} (hh : isHist g h hi ti ke bo bt T.1 m Tm kc K) (hL : isKept g h T D E kc K) (hn3 : n ≤ 300) {f0 : Nat → Option Nat} (hba : h ba = some (aR g 512 f0)) (hke : ba ≠ ke) : MVo l g A h yX1_fillBest cX1_fillBest 6 2 0 0 [.ref hi, .ref ba, .int (nI n)] (fun h1 => (∃ f, h1 ba = some (aR g 512 f) ∧ ∀ q, q < 512 → f q = (rfd (okB D E n q) (bfB D) K kc).map T.1) ∧ ∀ b, b ≠ ba → h1 b = h b) := by
  obtain ⟨e1, ⟨f1, e2, e3⟩, ⟨f2, e4, e5⟩, ⟨f3, e6⟩, ⟨f4, e7⟩, hm, hk⟩ := hh
  have n1 : hi ≠ ba := ne_of2 e1 hba (fun z => by cases z)
  refine j_met (by decide +kernel) (Nat.le_of_ble_eq_true rfl) (fun X F hn hQ => ?_)
  refine j_iconst (pc := 0) (v := (nI 0)) F dX1_fillBest_0 (by decide) ?_
  refine j_istore_n (pc := 1) F dX1_fillBest_1 (by decide) ?_
  have loop2 : ∀ k i (h2 : HF) (f : Nat → Option Nat) (lv : List (Nat × Value)), kc < i + k → i ≤ kc → h2 ba = some (aR g 512 f) → (∀ q, q < 512 → f q = (rfd (okB D E n q) (bfB D) K i).map T.1) → (∀ b, b ≠ ba → h2 b = h b) → lall lv [(0, .ref hi), (1, .ref ba), (2, .int (nI n)), (3, .int (nI i))] → J l X g A 6 0 0 h2 21 lv [] := by
    intro k
    induction k with
    | zero => intro i h2 f lv q1 q2; omega
    | succ k ih =>
      intro i h2 f lv q1 q2 q3 q4 q5 q6
      have g1 : h2 hi = some (.inr (1, [.ref ti, .int (nI m), .ref ke, .int (nI kc), .ref bo, .ref bt])) := (q5 hi n1).trans e1
      have g2 : h2 ke = some (aR g 300 f2) := (q5 ke (Ne.symm hke)).trans e4
      refine j_lv _ q6 ?_
      refine j_iload_n (pc := 21) F dX1_fillBest_21 rfl ?_
      first | refine j_aload_n (pc := 22) F dX1_fillBest_22 rfl ?_ | refine j_aload_nq (pc := 22) F dX1_fillBest_22 rfl ?_
      refine j_get (pc := 23) F fg_X1_25 (by first | assumption | exact hUp_s) (by rfl) dX1_fillBest_23 ?_
      first | refine j_icmp_geN (pc := 26) F 96 dX1_fillBest_26 (by decide) (by omega) (by omega) (fun c => ?_) (fun c => ?_) | refine j_icmp_geIN (pc := 26) F 96 dX1_fillBest_26 (by decide) (by omega) (fun c => ?_) (fun c => ?_) | refine j_icmp_geNI (pc := 26) F 96 dX1_fillBest_26 (by decide) (by omega) (fun c => ?_) (fun c => ?_) | refine j_icmp_geI (pc := 26) F 96 dX1_fillBest_26 (by decide) (fun c => ?_) (fun c => ?_)
      · have : i = kc := by omega
        subst this
        exact j_vret F hQ rfl (by omega) (by omega) dX1_fillBest_96 ⟨⟨f, q3, q4⟩, q5⟩
      · obtain ⟨w1, w2, w3, w4⟩ := hL i (by omega)
        have mvRt : ∀ u, isRt g h T D E u → isRt g h2 T D E u := fun u hu => by
          obtain ⟨x1, x2, rr, x3, x4, x5⟩ := hu
          unfold isPfx at x2
          have y1 : T.1 u ≠ ba := ne_of2 x1 hba (fun z => by cases z)
          have y2 : T.2.1 u ≠ ba := ne_of2 x2 hba (fun z => by cases z)
          have y3 : T.2.2.1 u ≠ ba := ne_of2 x3 hba (fun z => by cases z)
          have y4 : T.2.2.2 u ≠ ba := fun z => by
            rw [z, hba] at x4
            have := congrArg (fun o : Option va_E => match o with | some (.inl (_, _, .inl _)) => true | _ => false) x4
            simp at this
          exact ⟨(q5 _ y1).trans x1, (q5 _ y2).trans x2, rr, (q5 _ y3).trans x3, (q5 _ y4).trans x4, x5⟩
        have w1' := mvRt _ w1
        have w5 := w1'.1
        have w7 := w2.r w3 w4
        have w8 := w1'.2.1
        unfold isPfx at w8
        have hpq := w2.2.1
        first | refine j_aload_n (pc := 29) F dX1_fillBest_29 rfl ?_ | refine j_aload_nq (pc := 29) F dX1_fillBest_29 rfl ?_
        refine j_get (pc := 30) F fg_X1_21 (by first | assumption | exact hUp_s) (by rfl) dX1_fillBest_30 ?_
        refine j_iload_n (pc := 33) F dX1_fillBest_33 rfl ?_
        first | refine j_aldRN (pc := 34) F (by first | assumption | exact hUp_s) (by omega) (by decide) dX1_fillBest_34 ?_ | refine j_aldEN (pc := 34) F (by first | assumption | exact hUp_s) (by omega) (by decide) dX1_fillBest_34 ?_ | refine j_aldIIN (pc := 34) F (by first | assumption | exact hUp_s) (by omega) (by decide) dX1_fillBest_34 ?_
        refine j_refS (e5 i (by omega)) ?_
        first | refine j_astore (pc := 35) F dX1_fillBest_35 (by decide) ?_ | refine j_astoreq (pc := 35) F dX1_fillBest_35 (by decide) ?_ | refine j_astoreN (pc := 35) F dX1_fillBest_35 (by decide) ?_
        first | refine j_aload (pc := 37) F dX1_fillBest_37 rfl ?_ | refine j_aloadq (pc := 37) F dX1_fillBest_37 rfl ?_
        refine j_ifnull (pc := 39) F dX1_fillBest_39 ?_
        first | refine j_aload (pc := 42) F dX1_fillBest_42 rfl ?_ | refine j_aloadq (pc := 42) F dX1_fillBest_42 rfl ?_
        refine j_iload_n (pc := 44) F dX1_fillBest_44 rfl ?_
        refine j_ri (j_runV (pc := 45) F (c_X6_standsAfter w1' w7 hn3) m_X6_standsAfter mv_X6_standsAfter lk_X1_38 (by first | assumption | exact hUp_s) rfl ⟨by decide, by decide⟩ (Nat.le_of_ble_eq_true rfl) ⟨by omega, by omega⟩ rfl dX1_fillBest_45) (fun r h3 hp1 => ?_)
        obtain ⟨rfl, rfl⟩ := hp1
        first | refine j_if_neB (pc := 48) F 54 dX1_fillBest_48 (by decide) (fun c2 => ?_) (fun c2 => ?_) | refine j_if_neN (pc := 48) F 54 dX1_fillBest_48 (by decide) (by omega) (fun c2 => ?_) (fun c2 => ?_) | refine j_if_neI (pc := 48) F 54 dX1_fillBest_48 (by decide) (fun c2 => ?_) (fun c2 => ?_)
        · first | refine j_aload (pc := 54) F dX1_fillBest_54 rfl ?_ | refine j_aloadq (pc := 54) F dX1_fillBest_54 rfl ?_
          refine j_getN (pc := 56) F fn_X1_42 (by first | assumption | exact hUp_s) (by rfl) dX1_fillBest_56 ?_
          refine j_getN (pc := 59) F fn_X1_63 (by first | assumption | exact hUp_s) (by rfl) dX1_fillBest_59 ?_
          refine j_istore (pc := 62) F dX1_fillBest_62 (by decide) ?_
          refine j_iload (pc := 64) F dX1_fillBest_64 rfl ?_
          refine j_ri (j_runSN (pc := 66) F (c_X8_isPrefixNumber _) m_X8_isPrefixNumber ms_X8_isPrefixNumber ln_X1_66 ⟨by decide, by decide⟩ (Nat.le_of_ble_eq_true rfl) ⟨by omega, by omega⟩ rfl dX1_fillBest_66) (fun r h4 hp1 => ?_)
          obtain ⟨rfl, rfl⟩ := hp1
          refine j_int (congrArg bI (okPn_nI hpq.1 hpq.2)) ?_
          first | refine j_if_eqB (pc := 69) F 90 dX1_fillBest_69 (by decide) (fun c3 => ?_) (fun c3 => ?_) | refine j_if_eqN (pc := 69) F 90 dX1_fillBest_69 (by decide) (by omega) (fun c3 => ?_) (fun c3 => ?_) | refine j_if_eqI (pc := 69) F 90 dX1_fillBest_69 (by decide) (fun c3 => ?_) (fun c3 => ?_)
          · cases c3
          · have hno : ∀ q, q ≠ D.2.1 (K i) → ¬ okB D E n q (K i) = true := fun q hq => by
              rw [okB, decide_eq_false (Ne.symm hq)]; simp
            have hyes : okB D E n (D.2.1 (K i)) (K i) = true := by rw [okB, stands, c2]; simp
            first | refine j_aload (pc := 72) F dX1_fillBest_72 rfl ?_ | refine j_aloadq (pc := 72) F dX1_fillBest_72 rfl ?_
            first | refine j_aload_n (pc := 74) F dX1_fillBest_74 rfl ?_ | refine j_aload_nq (pc := 74) F dX1_fillBest_74 rfl ?_
            refine j_iload (pc := 75) F dX1_fillBest_75 rfl ?_
            first | refine j_aldRN (pc := 77) F (by first | assumption | exact hUp_s) (by omega) (by decide) dX1_fillBest_77 ?_ | refine j_aldEN (pc := 77) F (by first | assumption | exact hUp_s) (by omega) (by decide) dX1_fillBest_77 ?_ | refine j_aldIIN (pc := 77) F (by first | assumption | exact hUp_s) (by omega) (by decide) dX1_fillBest_77 ?_
            rw [q4 _ hpq.2]
            cases hb : rfd (okB D E n (D.2.1 (K i))) (bfB D) K i with
            | none =>
              refine j_refN rfl ?_
              refine j_ri (j_runV (pc := 78) F (c_X6_isBetterThanN) m_X6_isBetterThan mv_X6_isBetterThan lk_X1_69 (by first | assumption | exact hUp_s) rfl ⟨by decide, by decide⟩ (Nat.le_of_ble_eq_true rfl) ⟨by omega, by omega⟩ rfl dX1_fillBest_78) (fun r h6 hp1 => ?_)
              obtain ⟨rfl, rfl⟩ := hp1
              first | refine j_if_eqB (pc := 81) F 90 dX1_fillBest_81 (by decide) (fun c4 => ?_) (fun c4 => ?_) | refine j_if_eqN (pc := 81) F 90 dX1_fillBest_81 (by decide) (by omega) (fun c4 => ?_) (fun c4 => ?_) | refine j_if_eqI (pc := 81) F 90 dX1_fillBest_81 (by decide) (fun c4 => ?_) (fun c4 => ?_)
              · cases c4
              · first | refine j_aload_n (pc := 84) F dX1_fillBest_84 rfl ?_ | refine j_aload_nq (pc := 84) F dX1_fillBest_84 rfl ?_
                refine j_iload (pc := 85) F dX1_fillBest_85 rfl ?_
                first | refine j_aload (pc := 87) F dX1_fillBest_87 rfl ?_ | refine j_aloadq (pc := 87) F dX1_fillBest_87 rfl ?_
                refine j_astRsN (pc := 89) F q3 w5 (by omega) (by decide) dX1_fillBest_89 ?_
                first | refine j_iincN (pc := 90) F dX1_fillBest_90 rfl (by decide) ?_ | refine j_iincM (pc := 90) F dX1_fillBest_90 rfl (by decide) ?_ | refine j_iinc (pc := 90) F dX1_fillBest_90 rfl rfl (by decide) ?_
                refine j_goto (pc := 93) F 21 dX1_fillBest_93 (by decide) ?_
                refine ih (i + 1) _ (va_up f (D.2.1 (K i)) (some (T.1 (K i)))) _ (by omega) (by omega) hUp_s (fun q hq => ?_) (fun b hb => (hUp_n hb).trans (q5 b hb)) ⟨rfl, rfl, rfl, rfl, trivial⟩
                by_cases hqq : q = D.2.1 (K i)
                · subst hqq; rw [va_up_self, rfd, if_pos hyes, hb]; rfl
                · rw [va_up_ne _ _ hqq, rfd, if_neg (hno q hqq)]; exact q4 q hq
            | some v =>
              obtain ⟨j2, y1, y2, -⟩ := rfd_in hb
              obtain ⟨v1, v2, v3, v4⟩ := hL j2 (by omega)
              rw [y2] at v1 v2 v3 v4
              refine j_refS (a := T.1 v) rfl ?_
              refine j_ri (j_runV (pc := 78) F (c_X6_isBetterThan w1' w7 (mvRt _ v1) (v2.r v3 v4)) m_X6_isBetterThan mv_X6_isBetterThan lk_X1_69 (by first | assumption | exact hUp_s) rfl ⟨by decide, by decide⟩ (Nat.le_of_ble_eq_true rfl) ⟨by omega, by omega⟩ rfl dX1_fillBest_78) (fun r h6 hp1 => ?_)
              obtain ⟨rfl, rfl⟩ := hp1
              first | refine j_if_eqB (pc := 81) F 90 dX1_fillBest_81 (by decide) (fun c4 => ?_) (fun c4 => ?_) | refine j_if_eqN (pc := 81) F 90 dX1_fillBest_81 (by decide) (by omega) (fun c4 => ?_) (fun c4 => ?_) | refine j_if_eqI (pc := 81) F 90 dX1_fillBest_81 (by decide) (fun c4 => ?_) (fun c4 => ?_)
              · first | refine j_iincN (pc := 90) F dX1_fillBest_90 rfl (by decide) ?_ | refine j_iincM (pc := 90) F dX1_fillBest_90 rfl (by decide) ?_ | refine j_iinc (pc := 90) F dX1_fillBest_90 rfl rfl (by decide) ?_
                refine j_goto (pc := 93) F 21 dX1_fillBest_93 (by decide) ?_
                refine ih (i + 1) h6 f _ (by omega) (by omega) q3 (fun q hq => ?_) q5 ⟨rfl, rfl, rfl, rfl, trivial⟩
                by_cases hqq : q = D.2.1 (K i)
                · subst hqq
                  rw [q4 _ hq, rfd, if_pos hyes, hb]
                  dsimp only
                  rw [if_neg (by rw [bfB, c4]; simp)]
                · rw [rfd, if_neg (hno q hqq)]; exact q4 q hq
              · first | refine j_aload_n (pc := 84) F dX1_fillBest_84 rfl ?_ | refine j_aload_nq (pc := 84) F dX1_fillBest_84 rfl ?_
                refine j_iload (pc := 85) F dX1_fillBest_85 rfl ?_
                first | refine j_aload (pc := 87) F dX1_fillBest_87 rfl ?_ | refine j_aloadq (pc := 87) F dX1_fillBest_87 rfl ?_
                refine j_astRsN (pc := 89) F q3 w5 (by omega) (by decide) dX1_fillBest_89 ?_
                first | refine j_iincN (pc := 90) F dX1_fillBest_90 rfl (by decide) ?_ | refine j_iincM (pc := 90) F dX1_fillBest_90 rfl (by decide) ?_ | refine j_iinc (pc := 90) F dX1_fillBest_90 rfl rfl (by decide) ?_
                refine j_goto (pc := 93) F 21 dX1_fillBest_93 (by decide) ?_
                refine ih (i + 1) _ (va_up f (D.2.1 (K i)) (some (T.1 (K i)))) _ (by omega) (by omega) hUp_s (fun q hq => ?_) (fun b hb => (hUp_n hb).trans (q5 b hb)) ⟨rfl, rfl, rfl, rfl, trivial⟩
                by_cases hqq : q = D.2.1 (K i)
                · subst hqq
                  rw [va_up_self, rfd, if_pos hyes, hb]
                  dsimp only
                  rw [if_pos (show bfB D (K i) v = true from c4)]
                  rfl
                · rw [va_up_ne _ _ hqq, rfd, if_neg (hno q hqq)]; exact q4 q hq
        · refine j_goto (pc := 51) F 90 dX1_fillBest_51 (by decide) ?_
          first | refine j_iincN (pc := 90) F dX1_fillBest_90 rfl (by decide) ?_ | refine j_iincM (pc := 90) F dX1_fillBest_90 rfl (by decide) ?_ | refine j_iinc (pc := 90) F dX1_fillBest_90 rfl rfl (by decide) ?_
          refine j_goto (pc := 93) F 21 dX1_fillBest_93 (by decide) ?_
          refine ih (i + 1) h3 f _ (by omega) (by omega) q3 (fun q hq => ?_) q5 ⟨rfl, rfl, rfl, rfl, trivial⟩
          rw [rfd, if_neg (by rw [okB, stands, c2]; simp)]
          exact q4 q hq
  have loop1 : ∀ k i (h2 : HF) (f : Nat → Option Nat) (lv : List (Nat × Value)), 512 < i + k → i ≤ 512 → h2 ba = some (aR g 512 f) → (∀ q, q < i → f q = none) → (∀ b, b ≠ ba → h2 b = h b) → lall lv [(0, .ref hi), (1, .ref ba), (2, .int (nI n)), (3, .int (nI i))] → J l X g A 6 0 0 h2 2 lv [] := by
    intro k
    induction k with
    | zero => intro i h2 f lv q1 q2; omega
    | succ k ih =>
      intro i h2 f lv q1 q2 q3 q4 q5 q6
      refine j_lv _ q6 ?_
      refine j_iload_n (pc := 2) F dX1_fillBest_2 rfl ?_
      refine j_sipush (pc := 3) (v := (nI 512)) F dX1_fillBest_3 (by decide) ?_
      first | refine j_icmp_geN (pc := 6) F 19 dX1_fillBest_6 (by decide) (by omega) (by omega) (fun c => ?_) (fun c => ?_) | refine j_icmp_geIN (pc := 6) F 19 dX1_fillBest_6 (by decide) (by omega) (fun c => ?_) (fun c => ?_) | refine j_icmp_geNI (pc := 6) F 19 dX1_fillBest_6 (by decide) (by omega) (fun c => ?_) (fun c => ?_) | refine j_icmp_geI (pc := 6) F 19 dX1_fillBest_6 (by decide) (fun c => ?_) (fun c => ?_)
      · refine j_iconst (pc := 19) (v := (nI 0)) F dX1_fillBest_19 (by decide) ?_
        refine j_istore_n (pc := 20) F dX1_fillBest_20 (by decide) ?_
        exact loop2 (kc + 1) 0 h2 f _ (by omega) (by omega) q3 (fun q hq => q4 q (by omega)) q5 ⟨rfl, rfl, rfl, rfl, trivial⟩
      · first | refine j_aload_n (pc := 9) F dX1_fillBest_9 rfl ?_ | refine j_aload_nq (pc := 9) F dX1_fillBest_9 rfl ?_
        refine j_iload_n (pc := 10) F dX1_fillBest_10 rfl ?_
        refine j_null (pc := 11) F dX1_fillBest_11 ?_
        refine j_astRnN (pc := 12) F q3 (by omega) (by decide) dX1_fillBest_12 ?_
        first | refine j_iincN (pc := 13) F dX1_fillBest_13 rfl (by decide) ?_ | refine j_iincM (pc := 13) F dX1_fillBest_13 rfl (by decide) ?_ | refine j_iinc (pc := 13) F dX1_fillBest_13 rfl rfl (by decide) ?_
        refine j_goto (pc := 16) F 2 dX1_fillBest_16 (by decide) ?_
        refine ih (i + 1) _ (va_up f i none) _ (by omega) (by omega) hUp_s (fun q hq => ?_) (fun b hb => (hUp_n hb).trans (q5 b hb)) ⟨rfl, rfl, rfl, rfl, trivial⟩
        by_cases hqi : q = i
        · subst hqi; rw [va_up_self]
        · rw [va_up_ne _ _ hqi]; exact q4 q (by omega)
  exact loop1 513 0 h f0 _ (by omega) (by omega) hba (fun q hq => by omega) (fun _ _ => rfl) ⟨rfl, rfl, rfl, rfl, trivial⟩
theorem c_X1_areUnlike {x y : Option Nat} {T : RF} {D : UD} {E : Nat → Nat} (hx : ∀ u, x = some u → isRt g h T D E u ∧ dOk D u ∧ u < 300 ∧ E u ≤ 300) (hy : ∀ u, y = some u → isRt g h T D E u ∧ dOk D u ∧ u < 300 ∧ E u ≤ 300) : MI l g A h yX1_areUnlike cX1_areUnlike 2 (some .boolean) 3 0 0 [va_rf (x.map T.1), va_rf (y.map T.1)] (fun r h1 => r = bI (unl D x y) ∧ h1 = h) := by
  cases x with
  | none =>
    cases y with
    | none =>
      refine j_met (by decide +kernel) (Nat.le_of_ble_eq_true rfl) (fun X F hn hQ => ?_)
      refine j_aload_nN (pc := 0) F dX1_areUnlike_0 rfl ?_
      refine j_ifnullN (pc := 1) F 8 dX1_areUnlike_1 (by decide) ?_
      refine j_aload_nN (pc := 8) F dX1_areUnlike_8 rfl ?_
      refine j_aload_nN (pc := 9) F dX1_areUnlike_9 rfl ?_
      refine j_acmp_eq (pc := 10) (rx := none) (ry := none) F 17 dX1_areUnlike_10 (by decide) (fun _ => ?_) (fun c => absurd rfl c)
      refine j_iconst (pc := 17) (v := (nI 0)) F dX1_areUnlike_17 (by decide) ?_
      exact j_iret F hQ rfl rfl (by omega) (by omega) dX1_areUnlike_18 ⟨rfl, rfl⟩
    | some v =>
      refine j_met (by decide +kernel) (Nat.le_of_ble_eq_true rfl) (fun X F hn hQ => ?_)
      refine j_aload_nN (pc := 0) F dX1_areUnlike_0 rfl ?_
      refine j_ifnullN (pc := 1) F 8 dX1_areUnlike_1 (by decide) ?_
      refine j_aload_nN (pc := 8) F dX1_areUnlike_8 rfl ?_
      refine j_aload_n (pc := 9) (x := T.1 v) F dX1_areUnlike_9 rfl ?_
      refine j_acmp_eq (pc := 10) (rx := none) (ry := some (T.1 v)) F 17 dX1_areUnlike_10 (by decide) (fun c => by cases c) (fun _ => ?_)
      refine j_iconst (pc := 13) (v := (nI 1)) F dX1_areUnlike_13 (by decide) ?_
      refine j_goto (pc := 14) F 18 dX1_areUnlike_14 (by decide) ?_
      exact j_iret F hQ rfl rfl (by omega) (by omega) dX1_areUnlike_18 ⟨rfl, rfl⟩
  | some u =>
    cases y with
    | none =>
      refine j_met (by decide +kernel) (Nat.le_of_ble_eq_true rfl) (fun X F hn hQ => ?_)
      refine j_aload_n (pc := 0) (x := T.1 u) F dX1_areUnlike_0 rfl ?_
      refine j_ifnull (pc := 1) F dX1_areUnlike_1 ?_
      refine j_aload_nN (pc := 4) F dX1_areUnlike_4 rfl ?_
      refine j_ifnonnullN (pc := 5) F dX1_areUnlike_5 ?_
      refine j_aload_n (pc := 8) (x := T.1 u) F dX1_areUnlike_8 rfl ?_
      refine j_aload_nN (pc := 9) F dX1_areUnlike_9 rfl ?_
      refine j_acmp_eq (pc := 10) (rx := some (T.1 u)) (ry := none) F 17 dX1_areUnlike_10 (by decide) (fun c => by cases c) (fun _ => ?_)
      refine j_iconst (pc := 13) (v := (nI 1)) F dX1_areUnlike_13 (by decide) ?_
      refine j_goto (pc := 14) F 18 dX1_areUnlike_14 (by decide) ?_
      exact j_iret F hQ rfl rfl (by omega) (by omega) dX1_areUnlike_18 ⟨rfl, rfl⟩
    | some v =>
      obtain ⟨u1, u2, u3, u4⟩ := hx u rfl
      obtain ⟨v1, v2, v3, v4⟩ := hy v rfl
      have u5 := u1.1
      refine j_met (by decide +kernel) (Nat.le_of_ble_eq_true rfl) (fun X F hn hQ => ?_)
      refine j_aload_n (pc := 0) (x := T.1 u) F dX1_areUnlike_0 rfl ?_
      refine j_ifnull (pc := 1) F dX1_areUnlike_1 ?_
      refine j_aload_n (pc := 4) (x := T.1 v) F dX1_areUnlike_4 rfl ?_
      refine j_ifnonnull (pc := 5) F 19 dX1_areUnlike_5 (by decide) ?_
      refine j_aload_n (pc := 19) (x := T.1 u) F dX1_areUnlike_19 rfl ?_
      refine j_aload_n (pc := 20) (x := T.1 v) F dX1_areUnlike_20 rfl ?_
      refine j_ri (j_runV (pc := 21) F (c_X6_isLike u1 (u2.r u3 u4) (fun j hj => by have := (u2.2.2.2 j hj).2; omega) v1 (v2.r v3 v4) (fun j hj => by have := (v2.2.2.2 j hj).2; omega)) m_X6_isLike mv_X6_isLike lk_X1_72 (by first | assumption | exact hUp_s) rfl ⟨by decide, by decide⟩ (Nat.le_of_ble_eq_true rfl) ⟨by omega, by omega⟩ rfl dX1_areUnlike_21) (fun r h6 hp1 => ?_)
      obtain ⟨rfl, rfl⟩ := hp1
      first | refine j_if_neB (pc := 24) F 31 dX1_areUnlike_24 (by decide) (fun c => ?_) (fun c => ?_) | refine j_if_neN (pc := 24) F 31 dX1_areUnlike_24 (by decide) (by omega) (fun c => ?_) (fun c => ?_) | refine j_if_neI (pc := 24) F 31 dX1_areUnlike_24 (by decide) (fun c => ?_) (fun c => ?_)
      · refine j_iconst (pc := 31) (v := (nI 0)) F dX1_areUnlike_31 (by decide) ?_
        exact j_iret F hQ rfl rfl (by omega) (by omega) dX1_areUnlike_32 ⟨by rw [unl, c]; rfl, rfl⟩
      · refine j_iconst (pc := 27) (v := (nI 1)) F dX1_areUnlike_27 (by decide) ?_
        refine j_goto (pc := 28) F 32 dX1_areUnlike_28 (by decide) ?_
        exact j_iret F hQ rfl rfl (by omega) (by omega) dX1_areUnlike_32 ⟨by rw [unl, c]; rfl, rfl⟩
theorem c_X1_countUnlike {hi ti ke bo bt m kc n n2 : Nat} {Tm K : Nat → Nat} {T : RF} {D : UD} {E : Nat → Nat} (hh : isHist g h hi ti ke bo bt T.1 m Tm kc K) (hL : isKept g h T D E kc K) (hn3 : n ≤ 300) (hn4 : n2 ≤ 300) (nb : bo ≠ ke ∧ bt ≠ ke ∧ bo ≠ bt) : MI l g A h yX1_countUnlike cX1_countUnlike 5 (some .int) 4 0 0 [.ref hi, .int (nI n), .int (nI n2)] (fun r h1 => r = nI (cnt (fun j => unl D (rfd (okB D E n (j + 1)) (bfB D) K kc) (rfd (okB D E n2 (j + 1)) (bfB D) K kc)) 511) ∧ (∀ b, b ≠ bo → b ≠ bt → h1 b = h b) ∧ (∃ f, h1 bo = some (aR g 512 f)) ∧ ∃ f, h1 bt = some (aR g 512 f)) := by
  have hh0 := hh
  obtain ⟨e1, ⟨f1, e2, e3⟩, ⟨f2, e4, e5⟩, ⟨f3, e6⟩, ⟨f4, e7⟩, hm, hk⟩ := hh
  have n1 : hi ≠ bo := ne_of2 e1 e6 (fun z => by cases z)
  have n2' : hi ≠ bt := ne_of2 e1 e7 (fun z => by cases z)
  have n3 : ti ≠ bo := fun z => by
    rw [z, e6] at e2
    have := congrArg (fun o : Option va_E => match o with | some (.inl (_, _, .inl _)) => true | _ => false) e2
    simp at this
  have n4 : ti ≠ bt := fun z => by
    rw [z, e7] at e2
    have := congrArg (fun o : Option va_E => match o with | some (.inl (_, _, .inl _)) => true | _ => false) e2
    simp at this
  have mvRt : ∀ (h2 : HF), (∀ b, b ≠ bo → b ≠ bt → h2 b = h b) → ∀ u, isRt g h T D E u → isRt g h2 T D E u := fun h2 q5 u hu => by
    obtain ⟨x1, x2, rr, x3, x4, x5⟩ := hu
    unfold isPfx at x2
    have z0 : ∀ (bb : Nat) (ff : Nat → Option Nat), h bb = some (aR g 512 ff) → T.1 u ≠ bb ∧ T.2.1 u ≠ bb ∧ T.2.2.1 u ≠ bb ∧ T.2.2.2 u ≠ bb := fun bb ff hbb => by
      refine ⟨ne_of2 x1 hbb (fun z => by cases z), ne_of2 x2 hbb (fun z => by cases z), ne_of2 x3 hbb (fun z => by cases z), fun z => ?_⟩
      rw [z, hbb] at x4
      have := congrArg (fun o : Option va_E => match o with | some (.inl (_, _, .inl _)) => true | _ => false) x4
      simp at this
    obtain ⟨a1, a2, a3, a4⟩ := z0 bo f3 e6
    obtain ⟨b1, b2, b3, b4⟩ := z0 bt f4 e7
    exact ⟨(q5 _ a1 b1).trans x1, (q5 _ a2 b2).trans x2, rr, (q5 _ a3 b3).trans x3, (q5 _ a4 b4).trans x4, x5⟩
  refine j_met (by decide +kernel) (Nat.le_of_ble_eq_true rfl) (fun X F hn hQ => ?_)
  first | refine j_aload_n (pc := 0) F dX1_countUnlike_0 rfl ?_ | refine j_aload_nq (pc := 0) F dX1_countUnlike_0 rfl ?_
  first | refine j_aload_n (pc := 1) F dX1_countUnlike_1 rfl ?_ | refine j_aload_nq (pc := 1) F dX1_countUnlike_1 rfl ?_
  refine j_get (pc := 2) F fg_X1_28 (by first | assumption | exact hUp_s) (by rfl) dX1_countUnlike_2 ?_
  refine j_iload_n (pc := 5) F dX1_countUnlike_5 rfl ?_
  refine j_rv (j_runV (pc := 6) F (c_X1_fillBest hh0 hL hn3 e6 nb.1) m_X1_fillBest mv_X1_fillBest lk_X1_55 (by first | assumption | exact hUp_s) rfl ⟨by decide, by decide⟩ (Nat.le_of_ble_eq_true rfl) ⟨by omega, by omega⟩ rfl dX1_countUnlike_6) (fun h1 hp1 => ?_)
  obtain ⟨⟨g1, g2, g3⟩, g4⟩ := hp1
  have h1hi : h1 hi = some (.inr (1, [.ref ti, .int (nI m), .ref ke, .int (nI kc), .ref bo, .ref bt])) := (g4 hi n1).trans e1
  have h1bt : h1 bt = some (aR g 512 f4) := (g4 bt (Ne.symm nb.2.2)).trans e7
  have hh1 : isHist g h1 hi ti ke bo bt T.1 m Tm kc K := ⟨h1hi, ⟨f1, (g4 ti n3).trans e2, e3⟩, ⟨f2, (g4 ke (Ne.symm nb.1)).trans e4, e5⟩, ⟨g1, g2⟩, ⟨f4, h1bt⟩, hm, hk⟩
  have hL1 : isKept g h1 T D E kc K := fun j hj => by
    obtain ⟨w1, w2⟩ := hL j hj
    exact ⟨mvRt h1 (fun b q1 _ => g4 b q1) _ w1, w2⟩
  first | refine j_aload_n (pc := 9) F dX1_countUnlike_9 rfl ?_ | refine j_aload_nq (pc := 9) F dX1_countUnlike_9 rfl ?_
  first | refine j_aload_n (pc := 10) F dX1_countUnlike_10 rfl ?_ | refine j_aload_nq (pc := 10) F dX1_countUnlike_10 rfl ?_
  refine j_get (pc := 11) F fg_X1_31 (by first | assumption | exact hUp_s) (by rfl) dX1_countUnlike_11 ?_
  refine j_iload_n (pc := 14) F dX1_countUnlike_14 rfl ?_
  refine j_rv (j_runV (pc := 15) F (c_X1_fillBest hh1 hL1 hn4 h1bt nb.2.1) m_X1_fillBest mv_X1_fillBest lk_X1_55 (by first | assumption | exact hUp_s) rfl ⟨by decide, by decide⟩ (Nat.le_of_ble_eq_true rfl) ⟨by omega, by omega⟩ rfl dX1_countUnlike_15) (fun h2 hp1 => ?_)
  obtain ⟨⟨k1, k2, k3⟩, k4⟩ := hp1
  have h2hi : h2 hi = some (.inr (1, [.ref ti, .int (nI m), .ref ke, .int (nI kc), .ref bo, .ref bt])) := (k4 hi n2').trans h1hi
  have h2bo : h2 bo = some (aR g 512 g1) := (k4 bo nb.2.2).trans g2
  have hfr : ∀ b, b ≠ bo → b ≠ bt → h2 b = h b := fun b q1 q2 => (k4 b q2).trans (g4 b q1)
  have hin : ∀ (nn q u : Nat), rfd (okB D E nn q) (bfB D) K kc = some u → isRt g h2 T D E u ∧ dOk D u ∧ u < 300 ∧ E u ≤ 300 := fun nn q u hu => by
    obtain ⟨j, y1, y2, -⟩ := rfd_in hu
    obtain ⟨w1, w2⟩ := hL j y1
    rw [y2] at w1 w2
    exact ⟨mvRt h2 hfr _ w1, w2⟩
  refine j_iconst (pc := 18) (v := (nI 0)) F dX1_countUnlike_18 (by decide) ?_
  refine j_istore_n (pc := 19) F dX1_countUnlike_19 (by decide) ?_
  refine j_iconst (pc := 20) (v := (nI 1)) F dX1_countUnlike_20 (by decide) ?_
  refine j_istore (pc := 21) F dX1_countUnlike_21 (by decide) ?_
  have loop : ∀ k i (lv : List (Nat × Value)), 511 < i + k → i ≤ 511 → lall lv [(0, .ref hi), (1, .int (nI n)), (2, .int (nI n2)), (3, .int (nI (cnt (fun j => unl D (rfd (okB D E n (j + 1)) (bfB D) K kc) (rfd (okB D E n2 (j + 1)) (bfB D) K kc)) i))), (4, .int (nI (i + 1)))] → J l X g A 5 (0 + 0 + 0) (0 + 0 + 0) h2 23 lv [] := by
    intro k
    induction k with
    | zero => intro i lv q1 q2; omega
    | succ k ih =>
      intro i lv q1 q2 q3
      refine j_lv _ q3 ?_
      refine j_iload (pc := 23) F dX1_countUnlike_23 rfl ?_
      refine j_sipush (pc := 25) (v := (nI 512)) F dX1_countUnlike_25 (by decide) ?_
      first | refine j_icmp_geN (pc := 28) F 60 dX1_countUnlike_28 (by decide) (by omega) (by omega) (fun c => ?_) (fun c => ?_) | refine j_icmp_geIN (pc := 28) F 60 dX1_countUnlike_28 (by decide) (by omega) (fun c => ?_) (fun c => ?_) | refine j_icmp_geNI (pc := 28) F 60 dX1_countUnlike_28 (by decide) (by omega) (fun c => ?_) (fun c => ?_) | refine j_icmp_geI (pc := 28) F 60 dX1_countUnlike_28 (by decide) (fun c => ?_) (fun c => ?_)
      · have : i = 511 := by omega
        subst this
        refine j_iload_n (pc := 60) F dX1_countUnlike_60 rfl ?_
        exact j_iret F hQ rfl rfl (by omega) (by omega) dX1_countUnlike_61 ⟨rfl, hfr, ⟨_, h2bo⟩, ⟨_, k2⟩⟩
      · first | refine j_aload_n (pc := 31) F dX1_countUnlike_31 rfl ?_ | refine j_aload_nq (pc := 31) F dX1_countUnlike_31 rfl ?_
        refine j_get (pc := 32) F fg_X1_28 (by first | assumption | exact hUp_s) (by rfl) dX1_countUnlike_32 ?_
        refine j_iload (pc := 35) F dX1_countUnlike_35 rfl ?_
        first | refine j_aldRN (pc := 37) F (by first | assumption | exact hUp_s) (by omega) (by decide) dX1_countUnlike_37 ?_ | refine j_aldEN (pc := 37) F (by first | assumption | exact hUp_s) (by omega) (by decide) dX1_countUnlike_37 ?_ | refine j_aldIIN (pc := 37) F (by first | assumption | exact hUp_s) (by omega) (by decide) dX1_countUnlike_37 ?_
        rw [g3 (i + 1) (by omega)]
        first | refine j_aload_n (pc := 38) F dX1_countUnlike_38 rfl ?_ | refine j_aload_nq (pc := 38) F dX1_countUnlike_38 rfl ?_
        refine j_get (pc := 39) F fg_X1_31 (by first | assumption | exact hUp_s) (by rfl) dX1_countUnlike_39 ?_
        refine j_iload (pc := 42) F dX1_countUnlike_42 rfl ?_
        first | refine j_aldRN (pc := 44) F (by first | assumption | exact hUp_s) (by omega) (by decide) dX1_countUnlike_44 ?_ | refine j_aldEN (pc := 44) F (by first | assumption | exact hUp_s) (by omega) (by decide) dX1_countUnlike_44 ?_ | refine j_aldIIN (pc := 44) F (by first | assumption | exact hUp_s) (by omega) (by decide) dX1_countUnlike_44 ?_
        rw [k3 (i + 1) (by omega)]
        refine j_ri (j_runS (pc := 45) F (c_X1_areUnlike (hin n (i + 1)) (hin n2 (i + 1))) m_X1_areUnlike ms_X1_areUnlike lk_X1_59 ⟨by decide, by decide⟩ (Nat.le_of_ble_eq_true rfl) ⟨by omega, by omega⟩ rfl dX1_countUnlike_45) (fun r h3 hp1 => ?_)
        obtain ⟨rfl, rfl⟩ := hp1
        first | refine j_if_eqB (pc := 48) F 54 dX1_countUnlike_48 (by decide) (fun c2 => ?_) (fun c2 => ?_) | refine j_if_eqN (pc := 48) F 54 dX1_countUnlike_48 (by decide) (by omega) (fun c2 => ?_) (fun c2 => ?_) | refine j_if_eqI (pc := 48) F 54 dX1_countUnlike_48 (by decide) (fun c2 => ?_) (fun c2 => ?_)
        · first | refine j_iincN (pc := 54) F dX1_countUnlike_54 rfl (by decide) ?_ | refine j_iincM (pc := 54) F dX1_countUnlike_54 rfl (by decide) ?_ | refine j_iinc (pc := 54) F dX1_countUnlike_54 rfl rfl (by decide) ?_
          refine j_goto (pc := 57) F 23 dX1_countUnlike_57 (by decide) ?_
          refine ih (i + 1) _ (by omega) (by omega) ⟨rfl, rfl, rfl, ?_, rfl, trivial⟩
          rw [cnt, if_neg (by rw [c2]; simp)]
          rfl
        · first | refine j_iincN (pc := 51) F dX1_countUnlike_51 rfl (by decide) ?_ | refine j_iincM (pc := 51) F dX1_countUnlike_51 rfl (by decide) ?_ | refine j_iinc (pc := 51) F dX1_countUnlike_51 rfl rfl (by decide) ?_
          first | refine j_iincN (pc := 54) F dX1_countUnlike_54 rfl (by decide) ?_ | refine j_iincM (pc := 54) F dX1_countUnlike_54 rfl (by decide) ?_ | refine j_iinc (pc := 54) F dX1_countUnlike_54 rfl rfl (by decide) ?_
          refine j_goto (pc := 57) F 23 dX1_countUnlike_57 (by decide) ?_
          refine ih (i + 1) _ (by omega) (by omega) ⟨rfl, rfl, rfl, ?_, rfl, trivial⟩
          rw [cnt, if_pos c2]
          rfl
  exact loop 512 0 _ (by omega) (by omega) ⟨rfl, rfl, rfl, rfl, rfl, trivial⟩
theorem c_X1_init {p : Nat} (hp : h p = some (.inr (1, [.null, .int 0, .null, .int 0, .null, .null]))) : MVo l g A h yX1_init cX1_init 1 1 4 1624 [.ref p] (fun h1 => ∃ ti ke bo bt, h ti = none ∧ h ke = none ∧ h bo = none ∧ h bt = none ∧ ti ≠ ke ∧ ti ≠ bo ∧ ti ≠ bt ∧ ke ≠ bo ∧ ke ≠ bt ∧ bo ≠ bt ∧ (∀ rA Tm K, isHist g h1 p ti ke bo bt rA 0 Tm 0 K) ∧ ∀ b, b ≠ p → b ≠ ti → b ≠ ke → b ≠ bo → b ≠ bt → h1 b = h b) := by
  refine j_met (by decide +kernel) (Nat.le_of_ble_eq_true rfl) (fun X F hn hQ => ?_)
  first | refine j_aload_n (pc := 0) F dX1_init_0 rfl ?_ | refine j_aload_nq (pc := 0) F dX1_init_0 rfl ?_
  refine j_objInit (pc := 1) F (by omega) lk_X1_3 (Nat.le_of_ble_eq_true rfl) dX1_init_1 ?_
  first | refine j_aload_n (pc := 4) F dX1_init_4 rfl ?_ | refine j_aload_nq (pc := 4) F dX1_init_4 rfl ?_
  refine j_sipush (pc := 5) (v := (nI 300)) F dX1_init_5 (by decide) ?_
  refine j_newaI (pc := 8) F (N := 300) (by decide) (by decide) (by decide) (by omega) (by omega) dX1_init_8 (fun ti hti _ => ?_)
  have a1 : p ≠ ti := Ne.symm (ne_of hti hp)
  generalize hh1 : hUp h ti (aI g 300 (fun _ => 0)) = h1
  have b1 : h1 p = some (.inr (1, [.null, .int 0, .null, .int 0, .null, .null])) := by rw [← hh1]; exact (hUp_n a1).trans hp
  refine j_putF (pc := 10) F fp_X1_9 hn rfl (by first | assumption | exact hUp_s) (by rfl) (by rfl) (Nat.le_of_ble_eq_true rfl) dX1_init_10 ?_
  first | refine j_aload_n (pc := 13) F dX1_init_13 rfl ?_ | refine j_aload_nq (pc := 13) F dX1_init_13 rfl ?_
  refine j_iconst (pc := 14) (v := (nI 0)) F dX1_init_14 (by decide) ?_
  refine j_put (pc := 15) F fp_X1_15 (by first | assumption | exact hUp_s) (by rfl) (by rfl) (Nat.le_of_ble_eq_true rfl) dX1_init_15 ?_
  first | refine j_aload_n (pc := 18) F dX1_init_18 rfl ?_ | refine j_aload_nq (pc := 18) F dX1_init_18 rfl ?_
  refine j_sipush (pc := 19) (v := (nI 300)) F dX1_init_19 (by decide) ?_
  generalize hh2 : hUp (hUp h1 p (.inr (1, [Value.null, Value.int 0, Value.null, Value.int 0, Value.null, Value.null].set 0 (.ref ti)))) p (.inr (1, ([Value.null, Value.int 0, Value.null, Value.int 0, Value.null, Value.null].set 0 (.ref ti)).set 1 (.int (nI 0)))) = h2
  have b2 : h2 p = some (.inr (1, [.ref ti, .int 0, .null, .int 0, .null, .null])) := by rw [← hh2]; exact hUp_s
  have c2 : h2 ti = some (aI g 300 (fun _ => 0)) := by rw [← hh2, hUp_n (Ne.symm a1), hUp_n (Ne.symm a1), ← hh1]; exact hUp_s
  have d2 : ∀ b, b ≠ p → b ≠ ti → h2 b = h b := fun b q1 q2 => by rw [← hh2, hUp_n q1, hUp_n q1, ← hh1, hUp_n q2]
  refine j_newaR (pc := 22) F (N := 300) lc_X1_19 (by decide) (by decide) (by decide) (by omega) (by omega) dX1_init_22 (fun ke hke _ => ?_)
  have a2 : p ≠ ke := Ne.symm (ne_of hke b2)
  have a3 : ti ≠ ke := Ne.symm (ne_of hke c2)
  have z2 : h ke = none := (d2 ke (Ne.symm a2) (Ne.symm a3)).symm.trans hke
  generalize hh3 : hUp h2 ke (aR g 300 (fun _ => none)) = h3
  have b3 : h3 p = some (.inr (1, [.ref ti, .int 0, .null, .int 0, .null, .null])) := by rw [← hh3]; exact (hUp_n a2).trans b2
  refine j_putF (pc := 25) F fp_X1_21 hn rfl (by first | assumption | exact hUp_s) (by rfl) (by rfl) (Nat.le_of_ble_eq_true rfl) dX1_init_25 ?_
  first | refine j_aload_n (pc := 28) F dX1_init_28 rfl ?_ | refine j_aload_nq (pc := 28) F dX1_init_28 rfl ?_
  refine j_iconst (pc := 29) (v := (nI 0)) F dX1_init_29 (by decide) ?_
  refine j_put (pc := 30) F fp_X1_25 (by first | assumption | exact hUp_s) (by rfl) (by rfl) (Nat.le_of_ble_eq_true rfl) dX1_init_30 ?_
  first | refine j_aload_n (pc := 33) F dX1_init_33 rfl ?_ | refine j_aload_nq (pc := 33) F dX1_init_33 rfl ?_
  refine j_sipush (pc := 34) (v := (nI 512)) F dX1_init_34 (by decide) ?_
  generalize hh4 : hUp (hUp h3 p (.inr (1, [Value.ref ti, Value.int 0, Value.null, Value.int 0, Value.null, Value.null].set 2 (.ref ke)))) p (.inr (1, ([Value.ref ti, Value.int 0, Value.null, Value.int 0, Value.null, Value.null].set 2 (.ref ke)).set 3 (.int (nI 0)))) = h4
  have b4 : h4 p = some (.inr (1, [.ref ti, .int 0, .ref ke, .int 0, .null, .null])) := by rw [← hh4]; exact hUp_s
  have c4 : h4 ti = some (aI g 300 (fun _ => 0)) := by rw [← hh4, hUp_n (Ne.symm a1), hUp_n (Ne.symm a1), ← hh3, hUp_n a3]; exact c2
  have e4 : h4 ke = some (aR g 300 (fun _ => none)) := by rw [← hh4, hUp_n (Ne.symm a2), hUp_n (Ne.symm a2), ← hh3]; exact hUp_s
  have d4 : ∀ b, b ≠ p → b ≠ ti → b ≠ ke → h4 b = h b := fun b q1 q2 q3 => by rw [← hh4, hUp_n q1, hUp_n q1, ← hh3, hUp_n q3, d2 b q1 q2]
  refine j_newaR (pc := 37) F (N := 512) lc_X1_19 (by decide) (by decide) (by decide) (by omega) (by omega) dX1_init_37 (fun bo hbo _ => ?_)
  have a4 : p ≠ bo := Ne.symm (ne_of hbo b4)
  have a5 : ti ≠ bo := Ne.symm (ne_of hbo c4)
  have a6 : ke ≠ bo := Ne.symm (ne_of hbo e4)
  have z4 : h bo = none := (d4 bo (Ne.symm a4) (Ne.symm a5) (Ne.symm a6)).symm.trans hbo
  generalize hh5 : hUp h4 bo (aR g 512 (fun _ => none)) = h5
  have b5 : h5 p = some (.inr (1, [.ref ti, .int 0, .ref ke, .int 0, .null, .null])) := by rw [← hh5]; exact (hUp_n a4).trans b4
  refine j_putF (pc := 40) F fp_X1_28 hn rfl (by first | assumption | exact hUp_s) (by rfl) (by rfl) (Nat.le_of_ble_eq_true rfl) dX1_init_40 ?_
  first | refine j_aload_n (pc := 43) F dX1_init_43 rfl ?_ | refine j_aload_nq (pc := 43) F dX1_init_43 rfl ?_
  refine j_sipush (pc := 44) (v := (nI 512)) F dX1_init_44 (by decide) ?_
  generalize hh6 : hUp h5 p (.inr (1, [Value.ref ti, Value.int 0, Value.ref ke, Value.int 0, Value.null, Value.null].set 4 (.ref bo))) = h6
  have b6 : h6 p = some (.inr (1, [.ref ti, .int 0, .ref ke, .int 0, .ref bo, .null])) := by rw [← hh6]; exact hUp_s
  have c6 : h6 ti = some (aI g 300 (fun _ => 0)) := by rw [← hh6, hUp_n (Ne.symm a1), ← hh5, hUp_n a5]; exact c4
  have e6 : h6 ke = some (aR g 300 (fun _ => none)) := by rw [← hh6, hUp_n (Ne.symm a2), ← hh5, hUp_n a6]; exact e4
  have f6 : h6 bo = some (aR g 512 (fun _ => none)) := by rw [← hh6, hUp_n (Ne.symm a4), ← hh5]; exact hUp_s
  have d6 : ∀ b, b ≠ p → b ≠ ti → b ≠ ke → b ≠ bo → h6 b = h b := fun b q1 q2 q3 q4 => by rw [← hh6, hUp_n q1, ← hh5, hUp_n q4, d4 b q1 q2 q3]
  refine j_newaR (pc := 47) F (N := 512) lc_X1_19 (by decide) (by decide) (by decide) (by omega) (by omega) dX1_init_47 (fun bt hbt _ => ?_)
  have a7 : p ≠ bt := Ne.symm (ne_of hbt b6)
  have a8 : ti ≠ bt := Ne.symm (ne_of hbt c6)
  have a9 : ke ≠ bt := Ne.symm (ne_of hbt e6)
  have a0 : bo ≠ bt := Ne.symm (ne_of hbt f6)
  have z6 : h bt = none := (d6 bt (Ne.symm a7) (Ne.symm a8) (Ne.symm a9) (Ne.symm a0)).symm.trans hbt
  generalize hh7 : hUp h6 bt (aR g 512 (fun _ => none)) = h7
  have b7 : h7 p = some (.inr (1, [.ref ti, .int 0, .ref ke, .int 0, .ref bo, .null])) := by rw [← hh7]; exact (hUp_n a7).trans b6
  refine j_putF (pc := 50) F fp_X1_31 hn rfl (by first | assumption | exact hUp_s) (by rfl) (by rfl) (Nat.le_of_ble_eq_true rfl) dX1_init_50 ?_
  refine j_vret F hQ rfl (by omega) (by omega) dX1_init_53 ⟨ti, ke, bo, bt, hti, z2, z4, z6, a3, a5, a8, a6, a9, a0, fun rA Tm K => ⟨hUp_s, ⟨fun _ => 0, ?_, fun u hu => by omega⟩, ⟨fun _ => none, ?_, fun j hj => by omega⟩, ⟨fun _ => none, ?_⟩, ⟨fun _ => none, ?_⟩, by omega, by omega⟩, fun b q1 q2 q3 q4 q5 => ?_⟩
  · rw [hUp_n (Ne.symm a1), ← hh7, hUp_n a8]; exact c6
  · rw [hUp_n (Ne.symm a2), ← hh7, hUp_n a9]; exact e6
  · rw [hUp_n (Ne.symm a4), ← hh7, hUp_n a0]; exact f6
  · rw [hUp_n (Ne.symm a7), ← hh7]; exact hUp_s
  · rw [hUp_n q1, ← hh7, hUp_n q5]; exact d6 b q1 q2 q3 q4
end HIST
