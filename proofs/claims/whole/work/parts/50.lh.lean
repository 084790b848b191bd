/-! THE CLAIM OUT OF ONE WALK OF THE LAW'S BODY. Your part is whole_start (and what it stands on); all else here is the same for every law, but numbers. -/
def R_law : String := "BgpreplayLaw"
def lw_P (b : Addr) (xs : List Int32) (args : Array Value) (s : State) : Prop := args = #[.ref b] ∧ s.IntsAt b xs ∧ xs.length ≤ 2560 ∧ (Jvm.Cond.and given_1 narrow_1).before args s = true
def lw_Q (_ : Array Value) (s : State) (o : Outcome) (t : State) : Prop := o = .returned (some (.int 1)) ∧ Framed s o t [] 601024 7293034
def lw_Z (below : List Frame) (a : Array Value) (s : State) : State → Prop := fun t => ∃ o, t.status = .running ∧ Ended t below o ∧ lw_Q a s o t
/-- the law's own end, with 1 on the stack, nothing written that was there before, its room as the claim has it -/
theorem lw_ret {p : Program} {l : Launch} {e : Env} {s : State} {m : MethodId} {below : List Frame} {meth : Method} {c : Code} {b : Nat} (hx : p.tables.exec = Jvm.exec) (hb : c.code = code) (hr : meth.sig.returnType = ret) (hlocks : meth.locks = false) {pc : Nat} {H : Heap} {ls : Array Slot} (hdg : decode code pc = .ok (.ireturn, 1)) : W p l e room_1 s m #[Value.ref b] below meth c H [] 601024 7293034 (lw_Z below #[Value.ref b] s) (F0 m pc ls [.int 1]) := by
  intro T hT X
  obtain ⟨fs, hret, hrun, hended, hW, hframe⟩ := X.leave (v := some (.int 1)) (hlocks := hlocks) (fun h => by rw [hr] at h; cases h)
  have hmeth' : T.vm.method? m = some meth := X.method'
  refine ⟨T.setFrames fs, ?_, .returned (some (.int 1)), hrun, hended, rfl, ⟨_, rfl⟩, hW, hframe⟩
  jvm_step X.here [X.here.top, hx, hb, hdg, hmeth', hr, ret, narrow_b1]
  (try refine ⟨rfl, ?_⟩); (try refine ⟨rfl, ?_⟩)
  first | (intro acts; rw [hret _ acts rfl rfl rfl]) | rw [hret _ _ rfl rfl rfl]
  exact Steps.refl _
/-- what holds at the law's entry: the machine, the code, the tables' words (any of lw_tbl by 'hts w (by decide +kernel)'), the script of L ints xs at the cell b, what the Statement gives of the start (any of its parts by flat_of_before) -/
def lw_At (p : Program) (s : State) (m : MethodId) (meth : Method) (c : Code) (b L : Nat) (xs : Nat → Int32) : Prop :=
  p.tables.exec = Jvm.exec ∧ c.code = code ∧ meth.sig.returnType = ret ∧ c.maxLocals = 7 ∧ s.vm.findClass R_law = some m.cls ∧ (∀ w ∈ lw_tbl, w.before #[Value.ref b] s = true) ∧ va_X b L xs s s.heap ∧ b < s.heap.size ∧ meth.locks = false ∧ (Jvm.Cond.and given_1 narrow_1).before #[Value.ref b] s = true
theorem mg_as {a b c : HF} : mg a (mg b c) = mg (mg a b) c := by
  funext x
  unfold mg
  cases a x <;> rfl
theorem mg_cm {a b : HF} (d : dj a b) : mg a b = mg b a := by
  funext x
  unfold mg
  cases ha : a x with
  | none => cases hb : b x <;> rfl
  | some e =>
    cases hb : b x with
    | none => rfl
    | some e2 => have := d x e2 hb; rw [ha] at this; cases this
theorem dj_cm {a b : HF} (d : dj a b) : dj b a := fun x e h => by
  cases hb : b x with
  | none => rfl
  | some e2 => have := d x e2 hb; rw [h] at this; cases this
theorem dj_l {a b c : HF} (d : dj a (mg b c)) (d2 : dj b c) : dj (mg a b) c := fun x e h => by
  have h1 := d x e (mg_u d2 h)
  unfold mg
  rw [h1]
  exact d2 x e h
theorem dj_r {a b u c : HF} (d : dj a (mg b c)) (d2 : dj (mg a b) u) : dj b u ∧ dj a (mg b u) := by
  have k : ∀ x e, u x = some e → a x = none ∧ b x = none := fun x e h => by
    have h1 := d2 x e h
    unfold mg at h1
    cases ha : a x with
    | none => rw [ha] at h1; exact ⟨rfl, h1⟩
    | some z => rw [ha] at h1; cases h1
  refine ⟨fun x e h => (k x e h).2, fun x e h => ?_⟩
  unfold mg at h
  cases hb : b x with
  | some z => exact d x z (mg_o hb)
  | none => rw [hb] at h; exact (k x e h).1
theorem and31 (x : Int32) : ∃ w, w < 32 ∧ x &&& nI 31 = nI w := by
  refine ⟨x.toBitVec.toNat &&& 31, Nat.lt_of_le_of_lt Nat.and_le_right (by decide), ?_⟩
  have e : x = nI x.toBitVec.toNat := by
    apply Int32.toBitVec_inj.mp
    show x.toBitVec = BitVec.ofNat 32 x.toBitVec.toNat
    rw [BitVec.ofNat_toNat, BitVec.setWidth_eq]
  conv => lhs; rw [e]
  exact fa_and _ _
/-- the states keep well -/
theorem wf_pass {s : SG} {v : Int32} (w : wf s) : wf (nxt (tcode s v) (sPass s (pN v)) s) := by
  by_cases c : tcode s v = 0
  · rw [c, nxt_0]
    have h : 1 ≤ v.toInt ∧ v.toInt ≤ 1000 ∧ ¬ 1000000 < sT s + pN v := by
      unfold tcode at c
      split at c
      · rename_i h1
        split at c
        · cases c
        · rename_i h2; exact ⟨h1.1, h1.2, h2⟩
      · cases c
    obtain ⟨w1, w2, ⟨w3, w4, w5⟩, w6⟩ := w
    refine ⟨?_, w2, ⟨w3, fun u hu => ?_, w5⟩, w6⟩
    · show sT s + pN v ≤ 1000000; omega
    · show sTm s u ≤ sT s + pN v; exact Nat.le_trans (w4 u hu) (Nat.le_add_right _ _)
  · rw [nxt_n c]; exact w
theorem wf_hop {s : SG} {v : Int32} (w : wf s) : wf (nxt (hcode s v) (sHop s (pN v)) s) := by
  by_cases c : hcode s v = 0
  · rw [c, nxt_0]
    have h : okNet v = true ∧ ¬ 8 ≤ sz s := by
      unfold hcode at c
      split at c
      · rename_i h1
        split at c
        · cases c
        · rename_i h2; exact ⟨h1, fun t => h2 (Or.inl t)⟩
      · cases c
    obtain ⟨n1, n2⟩ := okNet.n h.1
    obtain ⟨w1, ⟨w2, w2'⟩, w3⟩ := w
    refine ⟨w1, ⟨by show sz s + 1 ≤ 8; omega, fun j hj => ?_⟩, w3⟩
    have hj : j < sz s + 1 := hj
    show 1 ≤ (if j = sz s then pN v else sN s j) ∧ (if j = sz s then pN v else sN s j) ≤ 30
    by_cases e : j = sz s
    · rw [if_pos e]; exact n2
    · rw [if_neg e]; exact w2' j (by omega)
  · rw [nxt_n c]; exact w
theorem wf_clr {s : SG} (w : wf s) : wf (sClr s) := ⟨w.1, ⟨Nat.zero_le _, fun j hj => absurd hj (Nat.not_lt_zero j)⟩, w.2.2⟩
theorem wf_ann {s : SG} {p a b : Int32} (w : wf s) : wf (nxt (ncode s p a b) (sUp s (pN p) (pqN a b) (sz s)) s) := by
  by_cases c : ncode s p a b = 0
  · rw [c, nxt_0]
    have h : okPeer p = true ∧ okPfx a b = true ∧ ¬ 300 ≤ sm s := by
      unfold ncode at c
      split at c
      · cases c
      · rename_i h1
        split at c
        · cases c
        · rename_i h2
          split at c
          · cases c
          · rename_i h3
            exact ⟨by cases e : okPeer p <;> simp_all, by cases e : okPfx a b <;> simp_all, fun t => h3 (Or.inr t)⟩
    have m4 := (okPfx.n h.2.1).2.2.2.1
    exact w.up (by omega) (okPeer.n h.1).2 m4.2 (Or.inr ⟨rfl, m4.1⟩)
  · rw [nxt_n c]; exact w
theorem wf_wd {s : SG} {p a b : Int32} (w : wf s) : wf (nxt (wcode s p a b) (sUp s (pN p) (pqN a b) 0) s) := by
  by_cases c : wcode s p a b = 0
  · rw [c, nxt_0]
    have h : rcode s p a b = 0 ∧ ¬ 300 ≤ sm s := by
      unfold wcode at c
      split at c
      · rename_i h1
        split at c
        · cases c
        · rename_i h2; exact ⟨h1, h2⟩
      · rename_i h1; exact absurd c h1
    obtain ⟨k1, k2, -⟩ := rtv_0 h.1
    exact w.up (by omega) (okPeer.n k1).2 (okPfx.n k2).2.2.2.1.2 (Or.inl rfl)
  · rw [nxt_n c]; exact w
theorem wf_drop {s : SG} {p : Int32} (w : wf s) : wf (nxt (dcode s p) (sUp s (pN p) 0 0) s) := by
  by_cases c : dcode s p = 0
  · rw [c, nxt_0]
    have h : okPeer p = true ∧ ¬ 300 ≤ sm s := by
      unfold dcode at c
      split at c
      · rename_i h1
        split at c
        · cases c
        · rename_i h2; exact ⟨h1, h2⟩
      · cases c
    exact w.up (by omega) (okPeer.n h.1).2 (by decide) (Or.inl rfl)
  · rw [nxt_n c]; exact w
theorem wf_rel {s : SG} {a b v : Int32} (w : wf s) : wf (nxt (lcode a b v) (sRel s (pN a) (pN b) (pN v)) s) := by
  by_cases c : lcode a b v = 0
  · rw [c, nxt_0]
    have h : okNet a = true ∧ okNet b = true ∧ ¬ a = b ∧ 0 ≤ v.toInt ∧ v.toInt ≤ 3 := by
      unfold lcode at c
      split at c
      · rename_i h1; exact h1
      · cases c
    have n1 := (okNet.n h.1).1
    have n2 := (okNet.n h.2.1).1
    have hne : pN a ≠ pN b := fun e => h.2.2.1 (by rw [n1, n2, e])
    have hv : pN v ≤ 3 := by unfold pN; omega
    have hr : revN (pN v) ≤ 3 := by rcases (show pN v = 0 ∨ pN v = 1 ∨ pN v = 2 ∨ pN v = 3 by omega) with e | e | e | e <;> rw [e] <;> decide
    obtain ⟨w1, w2, w3, w4, w5, w6⟩ := w
    refine ⟨w1, w2, w3, w4, fun i j => ?_, fun i => ?_⟩
    · show rUp (rUp (sM s) (pN a) (pN b) (pN v)) (pN b) (pN a) (revN (pN v)) i j ≤ 3
      unfold rUp
      by_cases c1 : i = pN b ∧ j = pN a
      · rw [if_pos c1]; exact hr
      · rw [if_neg c1]
        by_cases c2 : i = pN a ∧ j = pN b
        · rw [if_pos c2]; exact hv
        · rw [if_neg c2]; exact w5 i j
    · show rUp (rUp (sM s) (pN a) (pN b) (pN v)) (pN b) (pN a) (revN (pN v)) i i = 0
      unfold rUp
      rw [if_neg (fun t => hne (t.2.symm.trans t.1)), if_neg (fun t => hne (t.1.symm.trans t.2))]
      exact w6 i
  · rw [nxt_n c]; exact w
theorem wf_al {s : SG} {a b lo og : Int32} (w : wf s) : wf (nxt (acode s a b lo og) (sAl s (pqN a b) (pN lo) (pN og)) s) := by
  by_cases c : acode s a b lo og = 0
  · rw [c, nxt_0]
    have h : (okPfx a b = true ∧ okNet og = true ∧ b.toInt ≤ lo.toInt ∧ lo.toInt ≤ 8) ∧ ¬ (sPl s (pqN a b) (pN lo) (pN og) = none ∧ 20 ≤ sn s) := by
      unfold acode at c
      split at c
      · rename_i h1
        split at c
        · cases c
        · rename_i h2; exact ⟨h1, h2⟩
      · cases c
    obtain ⟨⟨h1, h2, h3, h4⟩, h5⟩ := h
    obtain ⟨w1, w2, w3, ⟨w4, w4'⟩, w5⟩ := w
    unfold sAl
    cases e : sPl s (pqN a b) (pN lo) (pN og) with
    | some i =>
      have hi := (fp_at e).1
      refine ⟨w1, w2, w3, ⟨by show sn s - 1 ≤ 20; omega, fun j hj => ?_⟩, w5⟩
      have hj : j < sn s - 1 := hj
      show 1 ≤ (if j = i then sQ s (sn s - 1) else sQ s j) ∧ (if j = i then sQ s (sn s - 1) else sQ s j) < 512 ∧ (if j = i then sL s (sn s - 1) else sL s j) ≤ 8 ∧ 1 ≤ (if j = i then sO s (sn s - 1) else sO s j) ∧ (if j = i then sO s (sn s - 1) else sO s j) ≤ 30
      by_cases c1 : j = i
      · simp only [c1, if_true]; exact w4' (sn s - 1) (by omega)
      · simp only [c1, if_false]; exact w4' j (by omega)
    | none =>
      have hn : ¬ 20 ≤ sn s := fun t => h5 ⟨e, t⟩
      have m4 := (okPfx.n h1).2.2.2.1
      have o4 := (okNet.n h2).2
      have hb0 : 0 ≤ b.toInt := (of_decide_eq_true h1).2.1.1
      have hl : pN lo ≤ 8 := by unfold pN; omega
      refine ⟨w1, w2, w3, ⟨by show sn s + 1 ≤ 20; omega, fun j hj => ?_⟩, w5⟩
      have hj : j < sn s + 1 := hj
      show 1 ≤ (if j = sn s then pqN a b else sQ s j) ∧ (if j = sn s then pqN a b else sQ s j) < 512 ∧ (if j = sn s then pN lo else sL s j) ≤ 8 ∧ 1 ≤ (if j = sn s then pN og else sO s j) ∧ (if j = sn s then pN og else sO s j) ≤ 30
      by_cases c1 : j = sn s
      · simp only [c1, if_true]; exact ⟨m4.1, m4.2, hl, o4⟩
      · simp only [c1, if_false]; exact w4' j (by omega)
  · rw [nxt_n c]; exact w
theorem wf_s {s : SG} {c : Nat} (w : wf s) : wf (nxt c s s) := by
  by_cases e : c = 0
  · rw [e]; exact w
  · rw [nxt_n e]; exact w
section LH
variable {l : Launch} {X : Cx} {g : GG} {A : Nat → Prop} {own : String} {cc : ByteArray} {nL : Nat} {ret : Option FieldType} {f mc ms : Nat} {k n : Nat} {h : HF} {pc : Nat} {lv : List (Nat × Value)} {st : List Value}
theorem j_sld (F : Fx l X g A own cc nL ret f mc ms) {b L : Nat} {xs : Nat → Int32} (hX : va_X b L xs (xS X) (xS X).heap) (hbl : b < (xS X).heap.size) (hbA : ¬ A b) {i : Nat} (hi : i < L) (hL : L ≤ 2560) (hdg : decode cc pc = .ok (.iaload, 1)) (kk : J l X g A nL k n h (pc + 1) lv (.int (xs i) :: st)) : J l X g A nL k n h pc lv (.int (nI i) :: .ref b :: st) := fun H locs ls h1 h2 h3 =>
  va_sld F.1 F.2.1 hX hbl hbA h2 (vp_in_nI hi (by omega)) hdg (by rw [nI_clamp (by omega)]; exact kk H locs ls h1 h2 h3)
theorem j_slen (F : Fx l X g A own cc nL ret f mc ms) {b L : Nat} {xs : Nat → Int32} (hX : va_X b L xs (xS X) (xS X).heap) (hbl : b < (xS X).heap.size) (hbA : ¬ A b) (hdg : decode cc pc = .ok (.arraylength, 1)) (kk : J l X g A nL k n h (pc + 1) lv (.int (nI L) :: st)) : J l X g A nL k n h pc lv (.ref b :: st) := fun H locs ls h1 h2 h3 =>
  va_slen F.1 F.2.1 hX hbl hbA h2 hdg (kk H locs ls h1 h2 h3)
end LH
