/-! ===== Bgpreplay$Relations: a square of 31 rows of 31 ===== -/
section JM
variable {l : Launch} {X : Cx} {g : GG} {A : Nat → Prop} {own : String} {cc : ByteArray} {nL : Nat} {ret : Option FieldType} {f mc ms : Nat} {k n : Nat} {h : HF} {pc : Nat} {lv : List (Nat × Value)} {st : List Value}
theorem j_mna (F : Fx l X g A own cc nL ret f mc ms) {index : Nat} (hcw : Cond.classLink own index "[[I" ∈ wU) (hcells : k + 32 ≤ mc) (hslots : n + 992 ≤ ms) (hdg : decode cc pc = .ok (.multianewarray index 2, 4))
    (kk : ∀ (q : Nat) (h' : HF), (∀ i, i < 32 → h (q + i) = none) → h' q = some (aII g 31 (fun i => if i < 31 then some (q + 1 + i) else none)) → (∀ i, i < 31 → h' (q + 1 + i) = some (aI g 31 (fun _ => 0))) → (∀ b, (b < q ∨ q + 31 < b) → h' b = h b) → J l X g A nL (k + 32) (n + 992) h' (pc + 4) lv (.ref q :: st)) : J l X g A nL k n h pc lv (.int (nI 31) :: .int (nI 31) :: st) := fun H locs ls h1 h2 h3 => by
  intro T hT Xs
  obtain ⟨vm₁, cA, comp, -, fA, fC, hO, -, X', step⟩ := Xs.multianewarray2F F.1 (own := own) (index := index) (ty := .int) F.ow (F.w hcw) (va_AOA.use F.E.2.2.2.2.1) (F.w aw_int) (g := F0 (xM X) pc ls (.int (nI 31) :: .int (nI 31) :: st)) rfl (by rw [F.2.1]; exact hdg) rfl (by decide) (by decide) (by decide) (by decide) (by decide) rfl rfl (by rw [F.ce]; exact hcells) (by rw [F.sl]; exact hslots)
  have ec : comp = g.2.1 := Option.some.inj (fC.symm.trans (F.K.2 0 _ rfl).2)
  have eA : cA = g.2.2.2.2.1 := Option.some.inj (fA.symm.trans (F.K.2 3 _ rfl).2)
  subst ec
  subst eA
  have e31 : (nI 31).toNatClampNeg = 31 := by decide
  rw [e31] at X' step
  generalize hF : Jvm.Free.Multi.fill (T.setVm vm₁) g.2.2.2.2.1 g.2.1 31 31 (defaultValue .int) 31 = F' at X' step
  have hTh : (T.setVm vm₁).heap = H := hT
  obtain ⟨f1, f2, -, -⟩ := Jvm.Free.Multi.fill_facts (T.setVm vm₁) g.2.2.2.2.1 g.2.1 31 31 (defaultValue .int) 31
  rw [hF, hTh] at f1 f2
  have hold : ∀ x : Nat, x < H.size → F'.heap[x]? = H[x]? := fun x hx => by
    have := Jvm.Free.Multi.fill_old (T.setVm vm₁) g.2.2.2.2.1 g.2.1 31 31 (defaultValue .int) (a := x) (by rw [hTh]; exact hx) 31
    rw [hF, hTh] at this
    exact this
  have hrow : ∀ j : Nat, j < 31 → F'.heap[H.size + 1 + j]? = some (vp_cell g.2.1 (31, .inl (fun _ => 0))) := fun j hj => by
    have := Jvm.Free.Multi.fill_inner (T.setVm vm₁) g.2.2.2.2.1 g.2.1 31 31 (defaultValue .int) 31 j hj
    rw [hF, hTh] at this
    rw [this, vp_cell_i, ← arrV_new]
    rfl
  have hout : Jvm.Free.Multi.outerC g.2.2.2.2.1 31 H.size 31 = vp_cell g.2.2.2.2.1 (31, .inr (.inr (.inr (.inr (fun i => if i < 31 then some (H.size + 1 + i) else none))))) := by
    rw [vp_cell_q]
    exact vr_outer g.2.2.2.2.1 31 H.size 31
  rw [hout] at f2
  have hA : ∀ q, H.size ≤ q → A q := fun q hq => F.ar q (Nat.le_trans h2.1 hq)
  have hfr : ∀ i, h (H.size + i) = none := fun i => by
    cases e : h (H.size + i) with
    | none => rfl
    | some x => exact absurd (h1 _ x e).1.lt (by show ¬ H.size + i < H.size; omega)
  obtain ⟨t, a1, b1⟩ := kk H.size (fun b => if b = H.size then some (aII g 31 (fun i => if i < 31 then some (H.size + 1 + i) else none)) else if H.size < b ∧ b ≤ H.size + 31 then some (aI g 31 (fun _ => 0)) else h b) (fun i _ => hfr i) (if_pos rfl) (fun i hi => by rw [if_neg (by omega), if_pos (by omega)]) (fun b hb => by rw [if_neg (by omega), if_neg (by omega)]) F'.heap locs ls (fun a e ha => by
    dsimp only at ha
    by_cases ha1 : a = H.size
    · rw [if_pos ha1] at ha
      cases ha
      subst ha1
      exact ⟨f2, hA _ (Nat.le_refl _)⟩
    · rw [if_neg ha1] at ha
      by_cases ha2 : H.size < a ∧ a ≤ H.size + 31
      · rw [if_pos ha2] at ha
        cases ha
        have := hrow (a - H.size - 1) (by omega)
        rw [show H.size + 1 + (a - H.size - 1) = a by omega] at this
        exact ⟨this, hA _ (by omega)⟩
      · rw [if_neg ha2] at ha
        obtain ⟨z1, z2⟩ := h1 a e ha
        exact ⟨z1.kept (hold _ z1.lt), z2⟩) ⟨by rw [f1]; have := h2.1; omega, fun x q1 q2 => (hold x (Nat.lt_of_lt_of_le q1 h2.1)).trans (h2.2.1 x q1 q2), h2.2.2⟩ h3 F' rfl X'
  refine ⟨t, step t ?_, b1⟩
  have e : T.heap.size = H.size := by rw [hT]
  rw [e]
  exact a1
end JM
def isRel (g : GG) (h : HF) (rl ra : Nat) (ad : Nat → Nat) (M : Nat → Nat → Nat) : Prop := h rl = some (.inr (5, [.ref ra])) ∧ (∃ r : Nat → Option Nat, h ra = some (aII g 31 r) ∧ ∀ i, i < 31 → r i = some (ad i)) ∧ (∀ i, i < 31 → ∃ f : Nat → Int32, h (ad i) = some (aI g 31 f) ∧ ∀ j, j < 31 → f j = nI (M i j)) ∧ ∀ i j, i < 31 → j < 31 → ad i = ad j → i = j
def rUp (M : Nat → Nat → Nat) (i j v : Nat) : Nat → Nat → Nat := fun a b => if a = i ∧ b = j then v else M a b
/-- what a path is like, from place i down: 0 without a valley, 1 with one, 2 uncertain -/
def shp (M : Nat → Nat → Nat) (N : Nat → Nat) : Nat → Bool → Bool → Nat
  | 0, _, u => if u = true then 2 else 0
  | i + 1, d, u => if N i = N (i + 1) then shp M N i d u else if M (N i) (N (i + 1)) = 0 then shp M N i d true else if d = true ∧ ¬ M (N i) (N (i + 1)) = 3 then 1 else shp M N i (d || decide (¬ M (N i) (N (i + 1)) = 1)) u
section REL
variable {l : Launch} {g : GG} {A : Nat → Prop} {h : HF}
theorem c_X5_init {p : Nat} (hp : h p = some (.inr (5, [.null]))) : MVo l g A h yX5_init cX5_init 1 1 32 992 [.ref p] (fun h1 => ∃ ra, (∀ i, i < 32 → h (ra + i) = none) ∧ isRel g h1 p ra (fun i => ra + 1 + i) (fun _ _ => 0) ∧ ∀ b, b ≠ p → (b < ra ∨ ra + 31 < b) → h1 b = h b) := by
  refine j_met (by decide +kernel) (Nat.le_of_ble_eq_true rfl) (fun X F hn hQ => ?_)
  first | refine j_aload_n (pc := 0) F dX5_init_0 rfl ?_ | refine j_aload_nq (pc := 0) F dX5_init_0 rfl ?_
  refine j_objInit (pc := 1) F (by omega) lk_X5_3 (Nat.le_of_ble_eq_true rfl) dX5_init_1 ?_
  first | refine j_aload_n (pc := 4) F dX5_init_4 rfl ?_ | refine j_aload_nq (pc := 4) F dX5_init_4 rfl ?_
  refine j_bipush (pc := 5) (v := (nI 31)) F dX5_init_5 (by decide) ?_
  refine j_bipush (pc := 7) (v := (nI 31)) F dX5_init_7 (by decide) ?_
  refine j_mna (pc := 9) F lc_X5_9 (by omega) (by omega) dX5_init_9 (fun q h1 w1 w2 w3 w4 => ?_)
  have hpq : p < q ∨ q + 31 < p := by
    rcases Nat.lt_or_ge p q with z | z
    · exact Or.inl z
    · rcases Nat.lt_or_ge (q + 31) p with z2 | z2
      · exact Or.inr z2
      · have := w1 (p - q) (by omega)
        rw [show q + (p - q) = p by omega, hp] at this
        cases this
  have e3 : h1 p = some (.inr (5, [.null])) := (w4 p hpq).trans hp
  refine j_putF (pc := 13) F fp_X5_11 hn rfl (by first | assumption | exact hUp_s) (by rfl) (by rfl) (Nat.le_of_ble_eq_true rfl) dX5_init_13 ?_
  refine j_vret F hQ rfl (by omega) (by omega) dX5_init_16 ⟨q, w1, ⟨hUp_s, ⟨_, by rw [hUp_n (by omega)]; exact w2, fun i hi => if_pos hi⟩, fun i hi => ⟨_, by rw [hUp_n (show q + 1 + i ≠ p by omega)]; exact w3 i hi, fun j hj => rfl⟩, fun i j _ _ z => by have z2 : q + 1 + i = q + 1 + j := z; omega⟩, fun b q1 q2 => ?_⟩
  rw [hUp_n q1, w4 b q2]
theorem okNet_nI {i : Nat} (h1 : 1 ≤ i) (h2 : i ≤ 30) : okNet (nI i) = true := decide_eq_true (by rw [nI_toInt (by omega)]; omega)
theorem c_X5_between {rl ra i j : Nat} {ad : Nat → Nat} {M : Nat → Nat → Nat} (hr : isRel g h rl ra ad M) (hi : 1 ≤ i ∧ i ≤ 30) (hj : 1 ≤ j ∧ j ≤ 30) : MI l g A h yX5_between cX5_between 3 (some .int) 1 0 0 [.ref rl, .int (nI i), .int (nI j)] (fun r h1 => r = nI (M i j) ∧ h1 = h) := by
  obtain ⟨e1, ⟨rr, e2, e3⟩, e4, e5⟩ := hr
  obtain ⟨ff, e6, e7⟩ := e4 i (by omega)
  refine j_met (by decide +kernel) (Nat.le_of_ble_eq_true rfl) (fun X F hn hQ => ?_)
  refine j_iload_n (pc := 0) F dX5_between_0 rfl ?_
  refine j_ri (j_runSN (pc := 1) F (c_X8_isNetwork (nI i)) m_X8_isNetwork ms_X8_isNetwork ln_X5_16 ⟨by decide, by decide⟩ (Nat.le_of_ble_eq_true rfl) ⟨by omega, by omega⟩ rfl dX5_between_1) (fun r h1 hp => ?_)
  obtain ⟨rfl, rfl⟩ := hp
  refine j_int (congrArg bI (okNet_nI hi.1 hi.2)) ?_
  first | refine j_if_eqB (pc := 4) F 25 dX5_between_4 (by decide) (fun c => ?_) (fun c => ?_) | refine j_if_eqN (pc := 4) F 25 dX5_between_4 (by decide) (by omega) (fun c => ?_) (fun c => ?_) | refine j_if_eqI (pc := 4) F 25 dX5_between_4 (by decide) (fun c => ?_) (fun c => ?_)
  · cases c
  · refine j_iload_n (pc := 7) F dX5_between_7 rfl ?_
    refine j_ri (j_runSN (pc := 8) F (c_X8_isNetwork (nI j)) m_X8_isNetwork ms_X8_isNetwork ln_X5_16 ⟨by decide, by decide⟩ (Nat.le_of_ble_eq_true rfl) ⟨by omega, by omega⟩ rfl dX5_between_8) (fun r h6 hp => ?_)
    obtain ⟨rfl, rfl⟩ := hp
    refine j_int (congrArg bI (okNet_nI hj.1 hj.2)) ?_
    first | refine j_if_eqB (pc := 11) F 25 dX5_between_11 (by decide) (fun c => ?_) (fun c => ?_) | refine j_if_eqN (pc := 11) F 25 dX5_between_11 (by decide) (by omega) (fun c => ?_) (fun c => ?_) | refine j_if_eqI (pc := 11) F 25 dX5_between_11 (by decide) (fun c => ?_) (fun c => ?_)
    · cases c
    · first | refine j_aload_n (pc := 14) F dX5_between_14 rfl ?_ | refine j_aload_nq (pc := 14) F dX5_between_14 rfl ?_
      refine j_get (pc := 15) F fg_X5_11 (by first | assumption | exact hUp_s) (by rfl) dX5_between_15 ?_
      refine j_iload_n (pc := 18) F dX5_between_18 rfl ?_
      first | refine j_aldRN (pc := 19) F (by first | assumption | exact hUp_s) (by omega) (by decide) dX5_between_19 ?_ | refine j_aldEN (pc := 19) F (by first | assumption | exact hUp_s) (by omega) (by decide) dX5_between_19 ?_ | refine j_aldIIN (pc := 19) F (by first | assumption | exact hUp_s) (by omega) (by decide) dX5_between_19 ?_
      refine j_refS (e3 i (by omega)) ?_
      refine j_iload_n (pc := 20) F dX5_between_20 rfl ?_
      refine j_ialdN (pc := 21) F (by first | assumption | exact hUp_s) (by omega) (by decide) dX5_between_21 ?_
      refine j_goto (pc := 22) F 26 dX5_between_22 (by decide) ?_
      exact j_iret F hQ rfl rfl (by omega) (by omega) dX5_between_26 ⟨e7 j (by omega), rfl⟩
theorem c_X5_put {rl ra i j v : Nat} {ad : Nat → Nat} {M : Nat → Nat → Nat} (hr : isRel g h rl ra ad M) (hi : 1 ≤ i ∧ i ≤ 30) (hj : 1 ≤ j ∧ j ≤ 30) : MVo l g A h yX5_put cX5_put 4 1 0 0 [.ref rl, .int (nI i), .int (nI j), .int (nI v)] (fun h1 => isRel g h1 rl ra ad (rUp M i j v) ∧ ∀ b, b ≠ ad i → h1 b = h b) := by
  obtain ⟨e1, ⟨rr, e2, e3⟩, e4, e5⟩ := hr
  obtain ⟨ff, e6, e7⟩ := e4 i (by omega)
  have n1 : rl ≠ ad i := ne_of2 e1 e6 (fun z => by cases z)
  refine j_met (by decide +kernel) (Nat.le_of_ble_eq_true rfl) (fun X F hn hQ => ?_)
  refine j_iload_n (pc := 0) F dX5_put_0 rfl ?_
  refine j_ri (j_runSN (pc := 1) F (c_X8_isNetwork (nI i)) m_X8_isNetwork ms_X8_isNetwork ln_X5_16 ⟨by decide, by decide⟩ (Nat.le_of_ble_eq_true rfl) ⟨by omega, by omega⟩ rfl dX5_put_1) (fun r h1 hp => ?_)
  obtain ⟨rfl, rfl⟩ := hp
  refine j_int (congrArg bI (okNet_nI hi.1 hi.2)) ?_
  first | refine j_if_eqB (pc := 4) F 23 dX5_put_4 (by decide) (fun c => ?_) (fun c => ?_) | refine j_if_eqN (pc := 4) F 23 dX5_put_4 (by decide) (by omega) (fun c => ?_) (fun c => ?_) | refine j_if_eqI (pc := 4) F 23 dX5_put_4 (by decide) (fun c => ?_) (fun c => ?_)
  · cases c
  · refine j_iload_n (pc := 7) F dX5_put_7 rfl ?_
    refine j_ri (j_runSN (pc := 8) F (c_X8_isNetwork (nI j)) m_X8_isNetwork ms_X8_isNetwork ln_X5_16 ⟨by decide, by decide⟩ (Nat.le_of_ble_eq_true rfl) ⟨by omega, by omega⟩ rfl dX5_put_8) (fun r h6 hp => ?_)
    obtain ⟨rfl, rfl⟩ := hp
    refine j_int (congrArg bI (okNet_nI hj.1 hj.2)) ?_
    first | refine j_if_eqB (pc := 11) F 23 dX5_put_11 (by decide) (fun c => ?_) (fun c => ?_) | refine j_if_eqN (pc := 11) F 23 dX5_put_11 (by decide) (by omega) (fun c => ?_) (fun c => ?_) | refine j_if_eqI (pc := 11) F 23 dX5_put_11 (by decide) (fun c => ?_) (fun c => ?_)
    · cases c
    · first | refine j_aload_n (pc := 14) F dX5_put_14 rfl ?_ | refine j_aload_nq (pc := 14) F dX5_put_14 rfl ?_
      refine j_get (pc := 15) F fg_X5_11 (by first | assumption | exact hUp_s) (by rfl) dX5_put_15 ?_
      refine j_iload_n (pc := 18) F dX5_put_18 rfl ?_
      first | refine j_aldRN (pc := 19) F (by first | assumption | exact hUp_s) (by omega) (by decide) dX5_put_19 ?_ | refine j_aldEN (pc := 19) F (by first | assumption | exact hUp_s) (by omega) (by decide) dX5_put_19 ?_ | refine j_aldIIN (pc := 19) F (by first | assumption | exact hUp_s) (by omega) (by decide) dX5_put_19 ?_
      refine j_refS (e3 i (by omega)) ?_
      refine j_iload_n (pc := 20) F dX5_put_20 rfl ?_
      refine j_iload_n (pc := 21) F dX5_put_21 rfl ?_
      refine j_iastN (pc := 22) F (by first | assumption | exact hUp_s) (by omega) (by decide) dX5_put_22 ?_
      have n2 : ra ≠ ad i := fun z => by
        rw [z, e6] at e2
        have := congrArg (fun o : Option va_E => match o with | some (.inl (_, _, .inl _)) => true | _ => false) e2
        simp at this
      refine j_vret F hQ rfl (by omega) (by omega) dX5_put_23 ⟨⟨?_, ⟨rr, ?_, e3⟩, fun i2 hi2 => ?_, e5⟩, fun b q1 => hUp_n q1⟩
      · rw [hUp_n n1, e1]
      · rw [hUp_n n2, e2]
      · by_cases hii : i2 = i
        · subst hii
          refine ⟨_, hUp_s, fun j2 hj2 => ?_⟩
          by_cases hjj : j2 = j
          · subst hjj; rw [pk_us, rUp, if_pos ⟨rfl, rfl⟩]
          · rw [pk_un hjj, e7 j2 hj2, rUp, if_neg (fun z => hjj z.2)]
        · obtain ⟨f2, g1, g2⟩ := e4 i2 hi2
          refine ⟨f2, ?_, fun j2 hj2 => ?_⟩
          · rw [hUp_n (fun z => hii (e5 _ _ hi2 (by omega) z)), g1]
          · rw [g2 j2 hj2, rUp, if_neg (fun z => hii z.1)]
theorem c_X5_shapeOf {rl ra p a z : Nat} {ad N : Nat → Nat} {M : Nat → Nat → Nat} (hr : isRel g h rl ra ad M) (hp : isPath g h p a z N) (hz : 0 < z) (hN : ∀ j, j < z → 1 ≤ N j ∧ N j ≤ 30) (hM : ∀ i j, M i j ≤ 3) : MI l g A h yX5_shapeOf cX5_shapeOf 8 (some .int) 2 0 0 [.ref rl, .ref p] (fun r h1 => r = nI (shp M N (z - 1) false false) ∧ h1 = h) := by
  obtain ⟨rr, e1, e2, hz8, hN2⟩ := id hp
  obtain ⟨w1, w2⟩ := id hr
  refine j_met (by decide +kernel) (Nat.le_of_ble_eq_true rfl) (fun X F hn hQ => ?_)
  refine j_iconst (pc := 0) (v := (nI 0)) F dX5_shapeOf_0 (by decide) ?_
  refine j_istore_n (pc := 1) F dX5_shapeOf_1 (by decide) ?_
  refine j_iconst (pc := 2) (v := (nI 0)) F dX5_shapeOf_2 (by decide) ?_
  refine j_istore_n (pc := 3) F dX5_shapeOf_3 (by decide) ?_
  first | refine j_aload_n (pc := 4) F dX5_shapeOf_4 rfl ?_ | refine j_aload_nq (pc := 4) F dX5_shapeOf_4 rfl ?_
  refine j_ri (j_runV (pc := 5) F (c_X2_size hp) m_X2_size mv_X2_size lk_X5_20 (by first | assumption | exact hUp_s) rfl ⟨by decide, by decide⟩ (Nat.le_of_ble_eq_true rfl) ⟨by omega, by omega⟩ rfl dX5_shapeOf_5) (fun r h1 hp1 => ?_)
  obtain ⟨rfl, rfl⟩ := hp1
  refine j_iconst (pc := 8) (v := (nI 1)) F dX5_shapeOf_8 (by decide) ?_
  first | refine j_isubN (pc := 9) F dX5_shapeOf_9 (by omega) ?_ | refine j_isub (pc := 9) F dX5_shapeOf_9 ?_
  refine j_istore (pc := 10) F dX5_shapeOf_10 (by decide) ?_
  have loop : ∀ i (d u : Bool) (lv : List (Nat × Value)), i < z → lall lv [(0, .ref rl), (1, .ref p), (2, .int (bI d)), (3, .int (bI u)), (4, .int (nI i))] → shp M N i d u = shp M N (z - 1) false false → J l X g A 8 (0 + 0) (0 + 0) h1 12 lv [] := by
    intro i
    induction i with
    | zero =>
      intro d u lv q1 q2 q3
      refine j_lv _ q2 ?_
      refine j_iload (pc := 12) F dX5_shapeOf_12 rfl ?_
      first | refine j_if_leN (pc := 14) F 91 dX5_shapeOf_14 (by decide) (by omega) (fun c => ?_) (fun c => ?_) | refine j_if_leI (pc := 14) F 91 dX5_shapeOf_14 (by decide) (fun c => ?_) (fun c => ?_)
      · refine j_iload_n (pc := 91) F dX5_shapeOf_91 rfl ?_
        first | refine j_if_eqB (pc := 92) F 99 dX5_shapeOf_92 (by decide) (fun c2 => ?_) (fun c2 => ?_) | refine j_if_eqN (pc := 92) F 99 dX5_shapeOf_92 (by decide) (by omega) (fun c2 => ?_) (fun c2 => ?_) | refine j_if_eqI (pc := 92) F 99 dX5_shapeOf_92 (by decide) (fun c2 => ?_) (fun c2 => ?_)
        · refine j_iconst (pc := 99) (v := (nI 0)) F dX5_shapeOf_99 (by decide) ?_
          refine j_iret F hQ rfl rfl (by omega) (by omega) dX5_shapeOf_100 ⟨?_, rfl⟩
          rw [← q3, shp, c2]; rfl
        · refine j_iconst (pc := 95) (v := (nI 2)) F dX5_shapeOf_95 (by decide) ?_
          refine j_goto (pc := 96) F 100 dX5_shapeOf_96 (by decide) ?_
          refine j_iret F hQ rfl rfl (by omega) (by omega) dX5_shapeOf_100 ⟨?_, rfl⟩
          rw [← q3, shp, c2]; rfl
      · omega
    | succ i ih =>
      intro d u lv q1 q2 q3
      have hb1 := hN i (by omega)
      have hb2 := hN (i + 1) (by omega)
      refine j_lv _ q2 ?_
      refine j_iload (pc := 12) F dX5_shapeOf_12 rfl ?_
      first | refine j_if_leN (pc := 14) F 91 dX5_shapeOf_14 (by decide) (by omega) (fun c => ?_) (fun c => ?_) | refine j_if_leI (pc := 14) F 91 dX5_shapeOf_14 (by decide) (fun c => ?_) (fun c => ?_)
      · omega
      · first | refine j_aload_n (pc := 17) F dX5_shapeOf_17 rfl ?_ | refine j_aload_nq (pc := 17) F dX5_shapeOf_17 rfl ?_
        refine j_iload (pc := 18) F dX5_shapeOf_18 rfl ?_
        refine j_ri (j_runV (pc := 20) F (c_X2_networkAt hp) m_X2_networkAt mv_X2_networkAt lk_X5_26 (by first | assumption | exact hUp_s) rfl ⟨by decide, by decide⟩ (Nat.le_of_ble_eq_true rfl) ⟨by omega, by omega⟩ rfl dX5_shapeOf_20) (fun r h6 hp6 => ?_)
        obtain ⟨rfl, rfl⟩ := hp6
        rw [nI_toInt (show i + 1 < 2 ^ 31 by omega), pAt_in (show i + 1 < z by omega)]
        refine j_istore (pc := 23) F dX5_shapeOf_23 (by decide) ?_
        first | refine j_aload_n (pc := 25) F dX5_shapeOf_25 rfl ?_ | refine j_aload_nq (pc := 25) F dX5_shapeOf_25 rfl ?_
        refine j_iload (pc := 26) F dX5_shapeOf_26 rfl ?_
        refine j_iconst (pc := 28) (v := (nI 1)) F dX5_shapeOf_28 (by decide) ?_
        first | refine j_isubN (pc := 29) F dX5_shapeOf_29 (by omega) ?_ | refine j_isub (pc := 29) F dX5_shapeOf_29 ?_
        refine j_ri (j_runV (pc := 30) F (c_X2_networkAt hp) m_X2_networkAt mv_X2_networkAt lk_X5_26 (by first | assumption | exact hUp_s) rfl ⟨by decide, by decide⟩ (Nat.le_of_ble_eq_true rfl) ⟨by omega, by omega⟩ rfl dX5_shapeOf_30) (fun r h7 hp6 => ?_)
        obtain ⟨rfl, rfl⟩ := hp6
        rw [Nat.add_sub_cancel, nI_toInt (show i < 2 ^ 31 by omega), pAt_in (show i < z by omega)]
        refine j_istore (pc := 33) F dX5_shapeOf_33 (by decide) ?_
        refine j_iload (pc := 35) F dX5_shapeOf_35 rfl ?_
        refine j_iload (pc := 37) F dX5_shapeOf_37 rfl ?_
        first | refine j_icmp_neN (pc := 39) F 45 dX5_shapeOf_39 (by decide) (by omega) (by omega) (fun c2 => ?_) (fun c2 => ?_) | refine j_icmp_neIN (pc := 39) F 45 dX5_shapeOf_39 (by decide) (by omega) (fun c2 => ?_) (fun c2 => ?_) | refine j_icmp_neNI (pc := 39) F 45 dX5_shapeOf_39 (by decide) (by omega) (fun c2 => ?_) (fun c2 => ?_) | refine j_icmp_ne (pc := 39) F 45 dX5_shapeOf_39 (by decide) (fun c2 => ?_) (fun c2 => ?_)
        · first | refine j_aload_n (pc := 45) F dX5_shapeOf_45 rfl ?_ | refine j_aload_nq (pc := 45) F dX5_shapeOf_45 rfl ?_
          refine j_iload (pc := 46) F dX5_shapeOf_46 rfl ?_
          refine j_iload (pc := 48) F dX5_shapeOf_48 rfl ?_
          refine j_ri (j_runV (pc := 50) F (c_X5_between hr hb1 hb2) m_X5_between mv_X5_between lk_X5_30 (by first | assumption | exact hUp_s) rfl ⟨by decide, by decide⟩ (Nat.le_of_ble_eq_true rfl) ⟨by omega, by omega⟩ rfl dX5_shapeOf_50) (fun r h8 hp6 => ?_)
          obtain ⟨rfl, rfl⟩ := hp6
          have hM1 := hM (N i) (N (i + 1))
          refine j_istore (pc := 53) F dX5_shapeOf_53 (by decide) ?_
          refine j_iload (pc := 55) F dX5_shapeOf_55 rfl ?_
          first | refine j_if_neB (pc := 57) F 65 dX5_shapeOf_57 (by decide) (fun c3 => ?_) (fun c3 => ?_) | refine j_if_neN (pc := 57) F 65 dX5_shapeOf_57 (by decide) (by omega) (fun c3 => ?_) (fun c3 => ?_) | refine j_if_neI (pc := 57) F 65 dX5_shapeOf_57 (by decide) (fun c3 => ?_) (fun c3 => ?_)
          · refine j_iload_n (pc := 65) F dX5_shapeOf_65 rfl ?_
            first | refine j_if_eqB (pc := 66) F 77 dX5_shapeOf_66 (by decide) (fun c4 => ?_) (fun c4 => ?_) | refine j_if_eqN (pc := 66) F 77 dX5_shapeOf_66 (by decide) (by omega) (fun c4 => ?_) (fun c4 => ?_) | refine j_if_eqI (pc := 66) F 77 dX5_shapeOf_66 (by decide) (fun c4 => ?_) (fun c4 => ?_)
            · refine j_iload (pc := 77) F dX5_shapeOf_77 rfl ?_
              refine j_iconst (pc := 79) (v := (nI 1)) F dX5_shapeOf_79 (by decide) ?_
              first | refine j_icmp_eqN (pc := 80) F 85 dX5_shapeOf_80 (by decide) (by omega) (by omega) (fun c5 => ?_) (fun c5 => ?_) | refine j_icmp_eqIN (pc := 80) F 85 dX5_shapeOf_80 (by decide) (by omega) (fun c5 => ?_) (fun c5 => ?_) | refine j_icmp_eqNI (pc := 80) F 85 dX5_shapeOf_80 (by decide) (by omega) (fun c5 => ?_) (fun c5 => ?_) | refine j_icmp_eq (pc := 80) F 85 dX5_shapeOf_80 (by decide) (fun c5 => ?_) (fun c5 => ?_)
              · first | refine j_iincN (pc := 85) F dX5_shapeOf_85 rfl (by decide) ?_ | refine j_iincM (pc := 85) F dX5_shapeOf_85 rfl (by decide) ?_ | refine j_iinc (pc := 85) F dX5_shapeOf_85 rfl rfl (by decide) ?_
                refine j_goto (pc := 88) F 12 dX5_shapeOf_88 (by decide) ?_
                refine ih d u _ (by omega) ⟨rfl, rfl, rfl, rfl, rfl, trivial⟩ ?_
                rw [← q3, shp, if_neg c2, if_neg c3, if_neg (by rw [c4]; simp), c4, c5]
                rfl
              · refine j_iconst (pc := 83) (v := (nI 1)) F dX5_shapeOf_83 (by decide) ?_
                refine j_istore_n (pc := 84) F dX5_shapeOf_84 (by decide) ?_
                first | refine j_iincN (pc := 85) F dX5_shapeOf_85 rfl (by decide) ?_ | refine j_iincM (pc := 85) F dX5_shapeOf_85 rfl (by decide) ?_ | refine j_iinc (pc := 85) F dX5_shapeOf_85 rfl rfl (by decide) ?_
                refine j_goto (pc := 88) F 12 dX5_shapeOf_88 (by decide) ?_
                refine ih true u _ (by omega) ⟨rfl, rfl, rfl, rfl, rfl, trivial⟩ ?_
                rw [← q3, shp, if_neg c2, if_neg c3, if_neg (by rw [c4]; simp), decide_eq_true c5, Bool.or_true]
            · refine j_iload (pc := 69) F dX5_shapeOf_69 rfl ?_
              refine j_iconst (pc := 71) (v := (nI 3)) F dX5_shapeOf_71 (by decide) ?_
              first | refine j_icmp_eqN (pc := 72) F 77 dX5_shapeOf_72 (by decide) (by omega) (by omega) (fun c5 => ?_) (fun c5 => ?_) | refine j_icmp_eqIN (pc := 72) F 77 dX5_shapeOf_72 (by decide) (by omega) (fun c5 => ?_) (fun c5 => ?_) | refine j_icmp_eqNI (pc := 72) F 77 dX5_shapeOf_72 (by decide) (by omega) (fun c5 => ?_) (fun c5 => ?_) | refine j_icmp_eq (pc := 72) F 77 dX5_shapeOf_72 (by decide) (fun c5 => ?_) (fun c5 => ?_)
              · refine j_iload (pc := 77) F dX5_shapeOf_77 rfl ?_
                refine j_iconst (pc := 79) (v := (nI 1)) F dX5_shapeOf_79 (by decide) ?_
                first | refine j_icmp_eqN (pc := 80) F 85 dX5_shapeOf_80 (by decide) (by omega) (by omega) (fun c6 => ?_) (fun c6 => ?_) | refine j_icmp_eqIN (pc := 80) F 85 dX5_shapeOf_80 (by decide) (by omega) (fun c6 => ?_) (fun c6 => ?_) | refine j_icmp_eqNI (pc := 80) F 85 dX5_shapeOf_80 (by decide) (by omega) (fun c6 => ?_) (fun c6 => ?_) | refine j_icmp_eq (pc := 80) F 85 dX5_shapeOf_80 (by decide) (fun c6 => ?_) (fun c6 => ?_)
                · omega
                · refine j_iconst (pc := 83) (v := (nI 1)) F dX5_shapeOf_83 (by decide) ?_
                  refine j_istore_n (pc := 84) F dX5_shapeOf_84 (by decide) ?_
                  first | refine j_iincN (pc := 85) F dX5_shapeOf_85 rfl (by decide) ?_ | refine j_iincM (pc := 85) F dX5_shapeOf_85 rfl (by decide) ?_ | refine j_iinc (pc := 85) F dX5_shapeOf_85 rfl rfl (by decide) ?_
                  refine j_goto (pc := 88) F 12 dX5_shapeOf_88 (by decide) ?_
                  refine ih true u _ (by omega) ⟨rfl, rfl, rfl, rfl, rfl, trivial⟩ ?_
                  rw [← q3, shp, if_neg c2, if_neg c3, if_neg (fun z => z.2 c5), decide_eq_true c6, Bool.or_true]
              · refine j_iconst (pc := 75) (v := (nI 1)) F dX5_shapeOf_75 (by decide) ?_
                refine j_iret F hQ rfl rfl (by omega) (by omega) dX5_shapeOf_76 ⟨?_, rfl⟩
                rw [← q3, shp, if_neg c2, if_neg c3, if_pos ⟨c4, c5⟩]
          · refine j_iconst (pc := 60) (v := (nI 1)) F dX5_shapeOf_60 (by decide) ?_
            refine j_istore_n (pc := 61) F dX5_shapeOf_61 (by decide) ?_
            refine j_goto (pc := 62) F 85 dX5_shapeOf_62 (by decide) ?_
            first | refine j_iincN (pc := 85) F dX5_shapeOf_85 rfl (by decide) ?_ | refine j_iincM (pc := 85) F dX5_shapeOf_85 rfl (by decide) ?_ | refine j_iinc (pc := 85) F dX5_shapeOf_85 rfl rfl (by decide) ?_
            refine j_goto (pc := 88) F 12 dX5_shapeOf_88 (by decide) ?_
            refine ih d true _ (by omega) ⟨rfl, rfl, rfl, rfl, rfl, trivial⟩ ?_
            rw [← q3, shp, if_neg c2, if_pos c3]
        · refine j_goto (pc := 42) F 85 dX5_shapeOf_42 (by decide) ?_
          first | refine j_iincN (pc := 85) F dX5_shapeOf_85 rfl (by decide) ?_ | refine j_iincM (pc := 85) F dX5_shapeOf_85 rfl (by decide) ?_ | refine j_iinc (pc := 85) F dX5_shapeOf_85 rfl rfl (by decide) ?_
          refine j_goto (pc := 88) F 12 dX5_shapeOf_88 (by decide) ?_
          refine ih d u _ (by omega) ⟨rfl, rfl, rfl, rfl, rfl, trivial⟩ ?_
          rw [← q3, shp, if_pos c2]
  exact loop (z - 1) false false _ (by omega) ⟨rfl, rfl, rfl, rfl, rfl, trivial⟩ rfl
end REL
