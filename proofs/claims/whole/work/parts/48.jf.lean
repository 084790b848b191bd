/-! ===== calls framed: the callee sees its own heap hc, all else ho stays ===== -/
def mg (ho u : HF) : HF := fun a => match ho a with
  | some e => some e
  | none => u a
def dj (ho u : HF) : Prop := ∀ a e, u a = some e → ho a = none
def Ac (A : Nat → Prop) (ho : HF) : Nat → Prop := fun a => A a ∧ ho a = none
theorem mg_o {ho u : HF} {a : Nat} {e : va_E} (h : ho a = some e) : mg ho u a = some e := by unfold mg; rw [h]
theorem mg_u {ho u : HF} {a : Nat} {e : va_E} (d : dj ho u) (h : u a = some e) : mg ho u a = some e := by unfold mg; rw [d a e h]; exact h
theorem HX.fr {g : GG} {ho hc : HF} {A : Nat → Prop} {H : Heap} (h1 : HX g (mg ho hc) A H) (d : dj ho hc) : HX g hc (Ac A ho) H := fun a e ha => ⟨(h1 a e (mg_u d ha)).1, (h1 a e (mg_u d ha)).2, d a e ha⟩
theorem HX.bk {g : GG} {ho hc u : HF} {A : Nat → Prop} {H H1 : Heap} (h1 : HX g (mg ho hc) A H) (h2 : HX g u (Ac A ho) H1) (hk : ∀ q : Nat, q < H.size → ¬ Ac A ho q → H1[q]? = H[q]?) : HX g (mg ho u) A H1 ∧ dj ho u := by
  refine ⟨fun a e ha => ?_, fun a e ha => (h2 a e ha).2.2⟩
  unfold mg at ha
  cases hc2 : ho a with
  | none => rw [hc2] at ha; exact ⟨(h2 a e ha).1, (h2 a e ha).2.1⟩
  | some x =>
    rw [hc2] at ha
    cases ha
    obtain ⟨z1, z2⟩ := h1 a e (mg_o hc2)
    exact ⟨z1.kept (hk a z1.lt (fun t => by have t2 := t.2; rw [hc2] at t2; cases t2)), z2⟩
def NC (U : State) : Prop := va_Nc IAE IOOB U ∧ va_Nc ISE IOOB U ∧ va_Nc NSEE IOOB U ∧ va_Nc ISE IAE U ∧ va_Nc NSEE IAE U ∧ va_Nc ISE NSEE U
theorem NC.moved {u U : State} (hvm : u.vm.Alike U.vm) (h : NC u) : NC U := ⟨va_Nc.moved hvm h.1, va_Nc.moved hvm h.2.1, va_Nc.moved hvm h.2.2.1, va_Nc.moved hvm h.2.2.2.1, va_Nc.moved hvm h.2.2.2.2.1, va_Nc.moved hvm h.2.2.2.2.2⟩
def PRn (g : GG) (h : HF) (A : Nat → Prop) (U : State) : Prop := PR g h A U ∧ NC U
section JF
variable {l : Launch} {X : Cx} {g : GG} {A : Nat → Prop} {own : String} {cc : ByteArray} {nL : Nat} {ret : Option FieldType} {f mc ms : Nat} {k n : Nat} {h hc ho : HF} {pc : Nat} {lv : List (Nat × Value)} {st : List Value}
theorem FXBn {A : Nat → Prop} {h : HF} {av : List Value} : FrameBlind (va_Pc av (PRn g h A)) := fun a U fr mk q => ⟨q.1, ⟨q.2.1.1, q.2.1.2.1, va_K.moved (u := U) (U := U.calling fr mk a) (Vm.Alike.refl U.vm) q.2.1.2.2.1, EV.sm q.2.1.2.2.2 rfl⟩, NC.moved (u := U) (U := U.calling fr mk a) (Vm.Alike.refl U.vm) q.2.2⟩
theorem Fx.prf (F : Fx l X g A own cc nL ret f mc ms) {H : Heap} {locs : List Loc} (h1 : HX g (mg ho hc) A H) (d : dj ho hc) (h2 : va_S A (xS X).heap H locs) : ∀ U : State, U.heap = H → (xS X).WarmedH U.vm → PR g hc (Ac A ho) U := fun U hU hW => by
  subst hU
  refine ⟨h1.fr d, fun q hq => ⟨F.ar q (Nat.le_trans h2.1 hq), ?_⟩, va_K.moved hW.alike F.K, (EV.mv F.E hW h2.2.1).nw (fun q z => z.1)⟩
  cases e : ho q with
  | none => rfl
  | some x => exact absurd (h1 q x (mg_o e)).1.lt (Nat.not_lt.mpr hq)
def JFn (l : Launch) (X : Cx) (g : GG) (A : Nat → Prop) (nL k n : Nat) (ho hc : HF) (pc : Nat) (lv : List (Nat × Value)) (st rest : List Value) (mc2 ms2 : Nat) (Qa : State → Outcome → State → Prop) : Prop :=
  ∀ (H : Heap) (locs : List Loc) (ls : Array Slot), HX g (mg ho hc) A H → va_S A (xS X).heap H locs → lvh ls nL lv → va_Run (xP X) l (xE X) (xR X) (xS X) (xM X) (xA X) (xB X) (xN X) (xC X) H locs k n mc2 ms2 (F0 (xM X) pc ls st) rest Qa (Ac A ho)
def JFx (l : Launch) (X : Cx) (g : GG) (A : Nat → Prop) (nL k n : Nat) (ho hc : HF) (pc : Nat) (lv : List (Nat × Value)) (st rest : List Value) (mc2 ms2 : Nat) (Qa : State → Outcome → State → Prop) (px : HF × String → Prop) : Prop :=
  ∀ (H : Heap) (locs : List Loc) (ls : Array Slot), HX g (mg ho hc) A H → va_S A (xS X).heap H locs → lvh ls nL lv → vx_Run (xP X) l (xE X) (xR X) (xS X) (xM X) (xA X) (xB X) (xN X) (xC X) H locs k n mc2 ms2 (F0 (xM X) pc ls st) rest Qa (vx_X px (BX g (Ac A ho)) (Ac A ho)) (Ac A ho)
theorem jf_runV (F : Fx l X g A own cc nL ret f mc ms) (d : dj ho hc) {y : MethodName} {c2 : ByteArray} {nL2 : Nat} {ret2 : Option FieldType} {f2 mc2 ms2 : Nat} {Qc : Array Value → State → Outcome → State → Prop} {idx : Nat} {As rest : List Value} {b ci N : Nat} {T : u_T} {fs : List Value} (hM : Met l y (.code y c2 nL2 ret2 :: wU) (rmF f2 mc2 ms2) (va_Pc (.ref b :: As) (PR g hc (Ac A ho))) Qc mc2 ms2 (Ac A ho)) (hw : MW y c2 nL2 ret2 As.length) (hv : MV y) (hl : Cond.methodLink own idx y ∈ wU) (hb : hc b = some (.inr (ci, fs))) (hci : vwCl[ci]? = some (y.cls, T, N)) (hf : f2 + 1 ≤ f ∧ nL2 ≤ 16) (hcat : (rest.map fun v => v.category).sum ≤ 8) (hkm : k + mc2 ≤ mc ∧ n + ms2 ≤ ms) (hst : st = As.reverse ++ .ref b :: rest) (hdg : decode cc pc = .ok (.invokevirtual idx, 3)) : JFn l X g A nL k n ho hc pc lv st rest mc2 ms2 (Qc (.ref b :: As).toArray) := fun H locs ls h1 h2 h3 =>
  va_runV F.xfix hM ⟨⟨rfl, rfl, Nat.le_trans hf.1 F.fr, (by have := F.lo; have := hf.1; have := hf.2; show 8 + (nL2 + 11) + 35 * f2 ≤ _; omega), pay_in F.2.2.2.2.1 (wU_in (yc := .code y c2 nL2 ret2) hw.1), List.mem_cons_self, F.w hw.1, F.w hw.2.1, ⟨hw.2.2.1, hw.2.2.2.1⟩, fun sig e => (by have h2 := hw.2.2.2.2; rw [e] at h2; exact (Option.some.inj h2).symm), F.w hl⟩, F.w hv.1, F.w hv.2⟩ ⟨FXB, va_recv (q0 := 0) F.K ((h1.fr d).p1 hb) hci rfl, fun U hU hW => ⟨rfl, F.prf h1 d h2 U hU hW⟩⟩ rfl rfl h3.1.1 hst (lv_room hcat) hdg ⟨by rw [F.ce]; exact hkm.1, by rw [F.sl]; exact hkm.2⟩
theorem jf_runI (F : Fx l X g A own cc nL ret f mc ms) (d : dj ho hc) {y : MethodName} {c2 : ByteArray} {nL2 : Nat} {f2 mc2 ms2 : Nat} {Qc : Array Value → State → Outcome → State → Prop} {idx : Nat} {As rest : List Value} {b : Nat} (hM : Met l y (.code y c2 nL2 none :: wU) (rmF f2 mc2 ms2) (va_Pc (.ref b :: As) (PR g hc (Ac A ho))) Qc mc2 ms2 (Ac A ho)) (hw : MW y c2 nL2 none As.length) (hy : y.name = "<init>") (hv : Cond.instanceMethod y ∈ wU) (hl : Cond.methodLink own idx y ∈ wU) (hf : f2 + 1 ≤ f ∧ nL2 ≤ 16) (hcat : (rest.map fun v => v.category).sum ≤ 8) (hkm : k + mc2 ≤ mc ∧ n + ms2 ≤ ms) (hst : st = As.reverse ++ .ref b :: rest) (hdg : decode cc pc = .ok (.invokespecial idx, 3)) : JFn l X g A nL k n ho hc pc lv st rest mc2 ms2 (Qc (.ref b :: As).toArray) := fun H locs ls h1 h2 h3 =>
  va_runI F.xfix hM ⟨⟨rfl, rfl, Nat.le_trans hf.1 F.fr, (by have := F.lo; have := hf.1; have := hf.2; show 8 + (nL2 + 11) + 35 * f2 ≤ _; omega), pay_in F.2.2.2.2.1 (wU_in (yc := .code y c2 nL2 none) hw.1), List.mem_cons_self, F.w hw.1, F.w hw.2.1, ⟨hw.2.2.1, hw.2.2.2.1⟩, fun sig e => (by have h2 := hw.2.2.2.2; rw [e] at h2; exact (Option.some.inj h2).symm), F.w hl⟩, hy, F.w hv⟩ ⟨FXB, fun U hU hW => ⟨rfl, F.prf h1 d h2 U hU hW⟩⟩ rfl rfl h3.1.1 hst (lv_room hcat) hdg ⟨by rw [F.ce]; exact hkm.1, by rw [F.sl]; exact hkm.2⟩
theorem jfx_runV (F : Fx l X g A own cc nL ret f mc ms) (d : dj ho hc) {y : MethodName} {c2 : ByteArray} {nL2 : Nat} {ret2 : Option FieldType} {f2 mc2 ms2 : Nat} {Qc : Array Value → State → Outcome → State → Prop} {idx : Nat} {As rest : List Value} {b ci N : Nat} {T : u_T} {fs : List Value} {px : HF × String → Prop} (hM : vx_Met l y (.code y c2 nL2 ret2 :: wU) (rmF f2 mc2 ms2) (va_Pc (.ref b :: As) (PR g hc (Ac A ho))) Qc (vx_X px (BX g (Ac A ho)) (Ac A ho)) mc2 ms2 (Ac A ho)) (hw : MW y c2 nL2 ret2 As.length) (hv : MV y) (hl : Cond.methodLink own idx y ∈ wU) (hb : hc b = some (.inr (ci, fs))) (hci : vwCl[ci]? = some (y.cls, T, N)) (hf : f2 + 1 ≤ f ∧ nL2 ≤ 16) (hcat : (rest.map fun v => v.category).sum ≤ 8) (hkm : k + mc2 ≤ mc ∧ n + ms2 ≤ ms) (hst : st = As.reverse ++ .ref b :: rest) (hdg : decode cc pc = .ok (.invokevirtual idx, 3)) : JFx l X g A nL k n ho hc pc lv st rest mc2 ms2 (Qc (.ref b :: As).toArray) px := fun H locs ls h1 h2 h3 =>
  vx_runV F.xfix hM ⟨⟨rfl, rfl, Nat.le_trans hf.1 F.fr, (by have := F.lo; have := hf.1; have := hf.2; show 8 + (nL2 + 11) + 35 * f2 ≤ _; omega), pay_in F.2.2.2.2.1 (wU_in (yc := .code y c2 nL2 ret2) hw.1), List.mem_cons_self, F.w hw.1, F.w hw.2.1, ⟨hw.2.2.1, hw.2.2.2.1⟩, fun sig e => (by have h2 := hw.2.2.2.2; rw [e] at h2; exact (Option.some.inj h2).symm), F.w hl⟩, F.w hv.1, F.w hv.2⟩ ⟨FXB, va_recv (q0 := 0) F.K ((h1.fr d).p1 hb) hci rfl, fun U hU hW => ⟨rfl, F.prf h1 d h2 U hU hW⟩⟩ rfl rfl h3.1.1 hst (lv_room hcat) hdg ⟨by rw [F.ce]; exact hkm.1, by rw [F.sl]; exact hkm.2⟩
theorem jf_ri {post : Int32 → HF → Prop} {rest : List Value} {mc2 ms2 : Nat} {a : Array Value} (hr : JFn l X g A nL k n ho hc pc lv st rest mc2 ms2 (va_Qi post (BQ g (Ac A ho)) (Ac A ho) a)) (kk : ∀ (r : Int32) (u : HF), post r u → dj ho u → J l X g A nL (k + mc2) (n + ms2) (mg ho u) (pc + 3) lv (.int r :: rest)) : J l X g A nL k n (mg ho hc) pc lv st := fun H locs ls h1 h2 h3 =>
  va_calli (hr H locs ls h1 h2 h3) h2 (fun q _ h => h.1) (fun q h => h.1) (fun r u t H1 locs1 ht hvm hp hB hz hk hS => (by
    obtain ⟨z1, z2⟩ := h1.bk (show HX g u (Ac A ho) H1 by rw [← ht]; exact hB) hk
    exact kk r u hp z2 H1 locs1 ls z1 hS h3))
theorem jf_rv {post : HF → Prop} {rest : List Value} {mc2 ms2 : Nat} {a : Array Value} (hr : JFn l X g A nL k n ho hc pc lv st rest mc2 ms2 (va_Qv post (BQ g (Ac A ho)) (Ac A ho) a)) (kk : ∀ u : HF, post u → dj ho u → J l X g A nL (k + mc2) (n + ms2) (mg ho u) (pc + 3) lv rest) : J l X g A nL k n (mg ho hc) pc lv st := fun H locs ls h1 h2 h3 =>
  va_callv (hr H locs ls h1 h2 h3) h2 (fun q _ h => h.1) (fun q h => h.1) (fun u t H1 locs1 ht hvm hp hB hz hk hS => (by
    obtain ⟨z1, z2⟩ := h1.bk (show HX g u (Ac A ho) H1 by rw [← ht]; exact hB) hk
    exact kk u hp z2 H1 locs1 ls z1 hS h3))
theorem jfx_ri {post : Int32 → HF → Prop} {px : HF × String → Prop} {rest : List Value} {mc2 ms2 : Nat} {a : Array Value} (hr : JFx l X g A nL k n ho hc pc lv st rest mc2 ms2 (va_Qi post (BQ g (Ac A ho)) (Ac A ho) a) px) (kx : ∀ (E : String) (u : HF), px (u, E) → dj ho u → JX l X g A nL (k + mc2) (n + ms2) (mg ho u) pc lv rest E) (kk : ∀ (r : Int32) (u : HF), post r u → dj ho u → J l X g A nL (k + mc2) (n + ms2) (mg ho u) (pc + 3) lv (.int r :: rest)) : J l X g A nL k n (mg ho hc) pc lv st := fun H locs ls h1 h2 h3 =>
  vx_calli (hr H locs ls h1 h2 h3) h2 (fun q _ h => h.1) (fun q h => h.1) (fun q _ h => h.1) (fun E ce q9 u t H1 locs1 ht hvm hp hB hz hk hS e1 e2 e3 => (by
    obtain ⟨z1, z2⟩ := h1.bk (show HX g u.1 (Ac A ho) H1 by rw [← ht]; exact hB.2) hk
    exact kx E u.1 (by rw [← hB.1]; exact hp) z2 H1 locs1 ls q9 ce z1 hS h3 e1 e2 e3)) (fun r u t H1 locs1 ht hvm hp hB hz hk hS => (by
    obtain ⟨z1, z2⟩ := h1.bk (show HX g u (Ac A ho) H1 by rw [← ht]; exact hB) hk
    exact kk r u hp z2 H1 locs1 ls z1 hS h3))
/-- a method with handlers that returns whatever comes -/
theorem jw_met {y : MethodName} {av : List Value} {Qc : Array Value → State → Outcome → State → Prop} {hh : List (Nat × Nat × Nat × Nat)} (hy : plainName y.cls = true) (hn : (lg_sl av).length ≤ nL)
    (body : ∀ X : Cx, Fx l X g A y.cls cc nL ret f mc ms → (xC X).exceptionTable.toList = tableOf hh → NC (xS X) → xQ X = MQ (xB X) Qc (xA X) (xS X) mc ms A → J l X g A nL 0 0 h 0 (lv_args 0 av) []) (hac : acat av = true := by rfl) : Met l y (.codeWith y cc nL ret hh :: wU) (rmF f mc ms) (va_Pc av (PRn g h A)) Qc mc ms A := by
  refine MetFree.of_bodyS (code := cc) (maxLocals := nL) (ret := ret) hy ?_ ?_
  · intro args s m h hn
    obtain ⟨m9, meth, c, hn9, h1, h2, h3, h4, -, h5, h6, -⟩ := Cond.codeWith_spec (atoms_spec (ws := Cond.codeWith y cc nL ret hh :: wU) h _ List.mem_cons_self)
    cases hn.symm.trans hn9
    exact ⟨meth, c, h1, h2, h3, h4, h5, h6⟩
  · intro p e s m args below meth c s₁ B hml hP _
    have hh0 : s₁.heap = s.heap := by rw [B.state]; rfl
    obtain ⟨rfl, ⟨hP, hA, hK, hE⟩, hN⟩ := hP
    have hts := atoms_spec (ws := Cond.codeWith y cc nL ret hh :: wU) B.pre
    have htab := vx_table (x := y) B (hts _ List.mem_cons_self)
    have hl := lv_entry av (n := nL) hn
    have K := body (p, e, rmF f mc ms, s, m, av.toArray, below, meth, c, MQ below Qc av.toArray s mc ms A) ⟨B.exec, B.bytes, hml, findClass_of_methodNamed B.named, fun w hw => hts w (List.mem_cons_of_mem _ hw), hK, hA, hE, B.notSynchronized, B.returns, Nat.le_refl _, Nat.le_refl _, rfl, rfl⟩ htab hN rfl s.heap [] _ hP va_S.rf ⟨hl, lvh_args av 0 (acat_ok hac)⟩
    rw [← lg_entry_eq] at K
    obtain ⟨t, a1, o, b1, b2, b3⟩ := K s₁ hh0 (Stand.of_body B)
    exact ⟨t, o, a1, b1, b2, b3⟩
theorem jw_run (F : Fx l X g A own cc nL ret f mc ms) (d : dj ho hc) (hN : NC (xS X)) {y : MethodName} {c2 : ByteArray} {nL2 : Nat} {ret2 : Option FieldType} {hh : List (Nat × Nat × Nat × Nat)} {f2 mc2 ms2 : Nat} {Qc : Array Value → State → Outcome → State → Prop} {idx : Nat} {As rest : List Value} (hM : Met l y (.codeWith y c2 nL2 ret2 hh :: wU) (rmF f2 mc2 ms2) (va_Pc As (PRn g hc (Ac A ho))) Qc mc2 ms2 (Ac A ho)) (hw : Cond.codeWith y c2 nL2 ret2 hh ∈ wU ∧ Cond.initialized y.cls ∈ wU ∧ y.cls ≠ "java/lang/invoke/MethodHandle" ∧ y.cls ≠ "java/lang/invoke/VarHandle" ∧ (parseMethodDescriptor y.desc).map (fun d => d.parameters.length) = some As.length) (hv : Cond.static y ∈ wU) (hl : Cond.methodLink own idx y ∈ wU) (hf : f2 + 1 ≤ f ∧ nL2 ≤ 16) (hcat : (rest.map fun v => v.category).sum ≤ 8) (hkm : k + mc2 ≤ mc ∧ n + ms2 ≤ ms) (hst : st = As.reverse ++ rest) (hdg : decode cc pc = .ok (.invokestatic idx, 3)) : JFn l X g A nL k n ho hc pc lv st rest mc2 ms2 (Qc As.toArray) := fun H locs ls h1 h2 h3 =>
  vx_runSW F.xfix hM ⟨⟨rfl, rfl, Nat.le_trans hf.1 F.fr, (by have := F.lo; have := hf.1; have := hf.2; show 8 + (nL2 + 11) + 35 * f2 ≤ _; omega), pay_in F.2.2.2.2.1 (wU_in (yc := .codeWith y c2 nL2 ret2 hh) hw.1), List.mem_cons_self⟩, F.w hw.1, F.w hw.2.1, ⟨hw.2.2.1, hw.2.2.2.1⟩, fun sig e => (by have h2 := hw.2.2.2.2; rw [e] at h2; exact (Option.some.inj h2).symm), F.w hl, F.w hv⟩ ⟨FXBn, fun U hU hW => ⟨rfl, F.prf h1 d h2 U hU hW, NC.moved hW.alike hN⟩⟩ rfl rfl h3.1.1 hst (lv_room hcat) hdg ⟨by rw [F.ce]; exact hkm.1, by rw [F.sl]; exact hkm.2⟩
/-- a handler takes it -/
theorem j_catch (F : Fx l X g A own cc nL ret f mc ms) {rest : List Value} {E name : String} (pre : List ExceptionTableEntry) (x : ExceptionTableEntry) (suf : List ExceptionTableEntry) (hsplit : (xC X).exceptionTable.toList = pre ++ x :: suf)
    (hpass : ∀ z ∈ pre, covers z pc = false ∨ (z.catchType ≠ 0 ∧ ∃ nm : String, Cond.classLink own z.catchType nm ∈ wU ∧ va_Nc E nm (xS X))) (hx : covers x pc = true) (h0 : x.catchType ≠ 0) (hlink : Cond.classLink own x.catchType name ∈ wU) (hcast : Cond.castable E name ∈ eBad) (kk : ∀ q : Nat, J l X g A nL k n h x.handlerPc lv [.ref q]) : JX l X g A nL k n h pc lv rest E := fun H locs ls q ce h1 h2 h3 e1 e2 e3 =>
  vx_catch F.ow pre x suf hsplit (fun z hz => (hpass z hz).imp id (fun ⟨t1, nm, t2, t3⟩ => ⟨t1, nm, F.w t2, t3⟩)) hx h0 (F.w hlink) (va_Nw.use (by rfl) (F.E.1 _ hcast)) e1 e2 e3 (kk q H locs ls h1 h2 h3)
end JF
