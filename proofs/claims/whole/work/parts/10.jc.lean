section VXQ
variable {p : Program} {l : Launch} {e : Env} {R : Room} {s : State} {m : MethodId} {args : Array Value} {below : List Frame} {meth : Method} {c : Code} {H : Heap} {locs : List Loc} {cells slots : Nat} {Q : State → Prop}
variable {pc : Nat} {ls : Array Slot} {rest st0 : List Value} {a : Array Value} {A0 A1 : Nat → Prop} {H0 : Heap} {mc ms : Nat} {free : Addr → Prop}
theorem vx_callq {S SX : Type} {post : Option Nat → S → Prop} {px : SX → Prop} {B : S → State → Prop} {BX : String → SX → State → Prop} {AX : Nat → Prop} (hr : vx_Run p l e R s m args below meth c H locs cells slots mc ms (F0 m pc ls st0) rest (va_Qq post B A1 a) (vx_X px BX AX) free) (hS : va_S A0 H0 H locs) (hA : ∀ q, q < H.size → A1 q → A0 q) (hf : ∀ q, free q → A0 q) (hAX : ∀ q, q < H.size → AX q → A0 q)
    (kx : ∀ (E : String) (ce : Cell) (q9 : Addr) (u : SX) (t : State) (H1 : Heap) (locs1 : List Loc), t.heap = H1 → s.vm.Alike t.vm → px u → BX E u t → H.size ≤ H1.size → (∀ q : Nat, q < H.size → ¬ AX q → H1[q]? = H[q]?) → va_S A0 H0 H1 locs1 → H1[q9]? = some ce → ce.vm = .none → s.vm.findClass E = some ce.cls → vx_W p l e R s m args below meth c H1 locs1 (cells + mc) (slots + ms) Q (F0 m pc ls rest) q9)
    (kk : ∀ (r : Option Nat) (u : S) (t : State) (H1 : Heap) (locs1 : List Loc), t.heap = H1 → s.vm.Alike t.vm → post r u → B u t → H.size ≤ H1.size → (∀ q : Nat, q < H.size → ¬ A1 q → H1[q]? = H[q]?) → va_S A0 H0 H1 locs1 → W p l e R s m args below meth c H1 locs1 (cells + mc) (slots + ms) Q (F0 m (pc + 3) ls (va_rf r :: rest))) : W p l e R s m args below meth c H locs cells slots Q (F0 m pc ls st0) := by
  intro T hT X
  rcases hr T hT X with ⟨v, st₀, t, T', L, h0, X', hL, e1, e2, ⟨⟨r, u, hv, hp, hb⟩, hF⟩, st⟩ | ⟨q, st₀, t, T', L, E, ce, h0, X', hL, e1, e2, ⟨u, hp, hb, hF⟩, hce, hcv, hcl, st⟩
  · cases hv
    obtain ⟨k1, k2, k3⟩ := vx_keep h0 e1 hS hA hf hL hF
    obtain ⟨t2, a1, b1⟩ := kk r u t T'.heap (locs ++ L) e1.symm (by rw [← e2]; exact X'.warmed.alike) hp hb k1 k2 k3 T' rfl X'
    exact ⟨t2, st t2 a1, b1⟩
  · obtain ⟨k1, k2, k3⟩ := vx_keep h0 e1 hS hAX hf hL hF
    obtain ⟨t2, a1, b1⟩ := kx E ce q u t T'.heap (locs ++ L) e1.symm (by rw [← e2]; exact X'.warmed.alike) hp hb k1 k2 k3 (by rw [e1]; exact hce) hcv hcl T' rfl X'
    exact ⟨t2, st.trans a1, b1⟩
end VXQ
section JC
variable {l : Launch} {X : Cx} {g : GG} {A : Nat → Prop} {own : String} {cc : ByteArray} {nL : Nat} {ret : Option FieldType} {f mc ms : Nat} {k n : Nat} {h : HF} {pc : Nat} {lv : List (Nat × Value)} {st : List Value}
def bI (b : Bool) : Int32 := cond b 1 0
theorem bI_n (b : Bool) : narrow .boolean (.int (bI b)) = .int (bI b) := by cases b <;> rfl
theorem bI_0 {b : Bool} : bI b = 0 ↔ b = false := by cases b <;> simp [bI]
theorem bI_1 {b : Bool} : ¬ bI b = 0 ↔ b = true := by cases b <;> simp [bI]
theorem FXB {av : List Value} : FrameBlind (va_Pc av (PR g h A)) := fun a U fr mk q => ⟨q.1, q.2.1, q.2.2.1, va_K.moved (u := U) (U := U.calling fr mk a) (Vm.Alike.refl U.vm) q.2.2.2.1, EV.sm q.2.2.2.2 rfl⟩
theorem Fx.pr (F : Fx l X g A own cc nL ret f mc ms) {H : Heap} {locs : List Loc} (h1 : HX g h A H) (h2 : va_S A (xS X).heap H locs) {av : List Value} : ∀ U : State, U.heap = H → (xS X).WarmedH U.vm → va_Pc av (PR g h A) av.toArray U := fun U hU hW => by
  subst hU
  exact ⟨rfl, h1, fun q hq => F.ar q (Nat.le_trans h2.1 hq), va_K.moved hW.alike F.K, EV.mv F.E hW h2.2.1⟩
def JRn (l : Launch) (X : Cx) (g : GG) (A : Nat → Prop) (nL k n : Nat) (h : HF) (pc : Nat) (lv : List (Nat × Value)) (st rest : List Value) (mc2 ms2 : Nat) (Qa : State → Outcome → State → Prop) : Prop :=
  ∀ (H : Heap) (locs : List Loc) (ls : Array Slot), HX g h A H → va_S A (xS X).heap H locs → lvh ls nL lv → va_Run (xP X) l (xE X) (xR X) (xS X) (xM X) (xA X) (xB X) (xN X) (xC X) H locs k n mc2 ms2 (F0 (xM X) pc ls st) rest Qa A
def JRx (l : Launch) (X : Cx) (g : GG) (A : Nat → Prop) (nL k n : Nat) (h : HF) (pc : Nat) (lv : List (Nat × Value)) (st rest : List Value) (mc2 ms2 : Nat) (Qa : State → Outcome → State → Prop) (px : HF × String → Prop) : Prop :=
  ∀ (H : Heap) (locs : List Loc) (ls : Array Slot), HX g h A H → va_S A (xS X).heap H locs → lvh ls nL lv → vx_Run (xP X) l (xE X) (xR X) (xS X) (xM X) (xA X) (xB X) (xN X) (xC X) H locs k n mc2 ms2 (F0 (xM X) pc ls st) rest Qa (vx_X px (BX g A) A) A
def JX (l : Launch) (X : Cx) (g : GG) (A : Nat → Prop) (nL k n : Nat) (h : HF) (pc : Nat) (lv : List (Nat × Value)) (rest : List Value) (E : String) : Prop :=
  ∀ (H : Heap) (locs : List Loc) (ls : Array Slot) (q : Addr) (ce : Cell), HX g h A H → va_S A (xS X).heap H locs → lvh ls nL lv → H[q]? = some ce → ce.vm = .none → (xS X).vm.findClass E = some ce.cls → vx_W (xP X) l (xE X) (xR X) (xS X) (xM X) (xA X) (xB X) (xN X) (xC X) H locs k n (xQ X) (F0 (xM X) pc ls rest) q
theorem j_runV (F : Fx l X g A own cc nL ret f mc ms) {y : MethodName} {c2 : ByteArray} {nL2 : Nat} {ret2 : Option FieldType} {f2 mc2 ms2 : Nat} {Qc : Array Value → State → Outcome → State → Prop} {idx : Nat} {As rest : List Value} {b ci N : Nat} {T : u_T} {fs : List Value} (hM : Met l y (.code y c2 nL2 ret2 :: wU) (rmF f2 mc2 ms2) (va_Pc (.ref b :: As) (PR g h A)) Qc mc2 ms2 A) (hw : MW y c2 nL2 ret2 As.length) (hv : MV y) (hl : Cond.methodLink own idx y ∈ wU) (hb : h b = some (.inr (ci, fs))) (hc : vwCl[ci]? = some (y.cls, T, N)) (hf : f2 + 1 ≤ f ∧ nL2 ≤ 16) (hcat : (rest.map fun v => v.category).sum ≤ 8) (hkm : k + mc2 ≤ mc ∧ n + ms2 ≤ ms) (hst : st = As.reverse ++ .ref b :: rest) (hdg : decode cc pc = .ok (.invokevirtual idx, 3)) : JRn l X g A nL k n h pc lv st rest mc2 ms2 (Qc (.ref b :: As).toArray) := fun H locs ls h1 h2 h3 =>
  va_runV F.xfix hM ⟨⟨rfl, rfl, Nat.le_trans hf.1 F.fr, (by have := F.lo; have := hf.1; have := hf.2; show 8 + (nL2 + 11) + 35 * f2 ≤ _; omega), pay_in F.2.2.2.2.1 (wU_in (yc := .code y c2 nL2 ret2) hw.1), List.mem_cons_self, F.w hw.1, F.w hw.2.1, ⟨hw.2.2.1, hw.2.2.2.1⟩, fun sig e => (by have h2 := hw.2.2.2.2; rw [e] at h2; exact (Option.some.inj h2).symm), F.w hl⟩, F.w hv.1, F.w hv.2⟩ ⟨FXB, va_recv (q0 := 0) F.K (h1.p1 hb) hc rfl, F.pr h1 h2⟩ rfl rfl h3.1.1 hst (lv_room hcat) hdg ⟨by rw [F.ce]; exact hkm.1, by rw [F.sl]; exact hkm.2⟩
theorem j_runS (F : Fx l X g A own cc nL ret f mc ms) {y : MethodName} {c2 : ByteArray} {nL2 : Nat} {ret2 : Option FieldType} {f2 mc2 ms2 : Nat} {Qc : Array Value → State → Outcome → State → Prop} {idx : Nat} {As rest : List Value} (hM : Met l y (.code y c2 nL2 ret2 :: wU) (rmF f2 mc2 ms2) (va_Pc As (PR g h A)) Qc mc2 ms2 A) (hw : MW y c2 nL2 ret2 As.length) (hv : Cond.static y ∈ wU) (hl : Cond.methodLink own idx y ∈ wU) (hf : f2 + 1 ≤ f ∧ nL2 ≤ 16) (hcat : (rest.map fun v => v.category).sum ≤ 8) (hkm : k + mc2 ≤ mc ∧ n + ms2 ≤ ms) (hst : st = As.reverse ++ rest) (hdg : decode cc pc = .ok (.invokestatic idx, 3)) : JRn l X g A nL k n h pc lv st rest mc2 ms2 (Qc As.toArray) := fun H locs ls h1 h2 h3 =>
  va_runS F.xfix hM ⟨⟨rfl, rfl, Nat.le_trans hf.1 F.fr, (by have := F.lo; have := hf.1; have := hf.2; show 8 + (nL2 + 11) + 35 * f2 ≤ _; omega), pay_in F.2.2.2.2.1 (wU_in (yc := .code y c2 nL2 ret2) hw.1), List.mem_cons_self, F.w hw.1, F.w hw.2.1, ⟨hw.2.2.1, hw.2.2.2.1⟩, fun sig e => (by have h2 := hw.2.2.2.2; rw [e] at h2; exact (Option.some.inj h2).symm), F.w hl⟩, F.w hv⟩ ⟨FXB, F.pr h1 h2⟩ rfl rfl h3.1.1 hst (lv_room hcat) hdg ⟨by rw [F.ce]; exact hkm.1, by rw [F.sl]; exact hkm.2⟩
theorem j_runSN (F : Fx l X g A own cc nL ret f mc ms) {y : MethodName} {c2 : ByteArray} {nL2 : Nat} {ret2 : Option FieldType} {f2 mc2 ms2 : Nat} {Qc : Array Value → State → Outcome → State → Prop} {idx : Nat} {As rest : List Value} (hM : Met l y (.code y c2 nL2 ret2 :: wU) (rmF f2 mc2 ms2) (va_Pc As (PR g h A)) Qc mc2 ms2 A) (hw : MW y c2 nL2 ret2 As.length) (hv : Cond.static y ∈ wU) (hl : Cond.methodLinkNest own idx y "Bgpreplay" ∈ eBad) (hf : f2 + 1 ≤ f ∧ nL2 ≤ 16) (hcat : (rest.map fun v => v.category).sum ≤ 8) (hkm : k + mc2 ≤ mc ∧ n + ms2 ≤ ms) (hst : st = As.reverse ++ rest) (hdg : decode cc pc = .ok (.invokestatic idx, 3)) : JRn l X g A nL k n h pc lv st rest mc2 ms2 (Qc As.toArray) := fun H locs ls h1 h2 h3 =>
  va_runSN F.xfix hM ⟨⟨⟨rfl, rfl, Nat.le_trans hf.1 F.fr, (by have := F.lo; have := hf.1; have := hf.2; show 8 + (nL2 + 11) + 35 * f2 ≤ _; omega), pay_in F.2.2.2.2.1 (wU_in (yc := .code y c2 nL2 ret2) hw.1), List.mem_cons_self⟩, F.w hw.1, F.w hw.2.1, ⟨hw.2.2.1, hw.2.2.2.1⟩, fun sig e => (by have h2 := hw.2.2.2.2; rw [e] at h2; exact (Option.some.inj h2).symm), va_Nw.use (by rfl) (F.E.1 _ hl)⟩, F.w hv, trivial⟩ ⟨FXB, F.pr h1 h2⟩ rfl rfl h3.1.1 hst (lv_room hcat) hdg ⟨by rw [F.ce]; exact hkm.1, by rw [F.sl]; exact hkm.2⟩
theorem j_runI (F : Fx l X g A own cc nL ret f mc ms) {y : MethodName} {c2 : ByteArray} {nL2 : Nat} {f2 mc2 ms2 : Nat} {Qc : Array Value → State → Outcome → State → Prop} {idx : Nat} {As rest : List Value} {b : Nat} (hM : Met l y (.code y c2 nL2 none :: wU) (rmF f2 mc2 ms2) (va_Pc (.ref b :: As) (PR g h A)) Qc mc2 ms2 A) (hw : MW y c2 nL2 none As.length) (hy : y.name = "<init>") (hv : Cond.instanceMethod y ∈ wU) (hl : Cond.methodLink own idx y ∈ wU) (hf : f2 + 1 ≤ f ∧ nL2 ≤ 16) (hcat : (rest.map fun v => v.category).sum ≤ 8) (hkm : k + mc2 ≤ mc ∧ n + ms2 ≤ ms) (hst : st = As.reverse ++ .ref b :: rest) (hdg : decode cc pc = .ok (.invokespecial idx, 3)) : JRn l X g A nL k n h pc lv st rest mc2 ms2 (Qc (.ref b :: As).toArray) := fun H locs ls h1 h2 h3 =>
  va_runI F.xfix hM ⟨⟨rfl, rfl, Nat.le_trans hf.1 F.fr, (by have := F.lo; have := hf.1; have := hf.2; show 8 + (nL2 + 11) + 35 * f2 ≤ _; omega), pay_in F.2.2.2.2.1 (wU_in (yc := .code y c2 nL2 none) hw.1), List.mem_cons_self, F.w hw.1, F.w hw.2.1, ⟨hw.2.2.1, hw.2.2.2.1⟩, fun sig e => (by have h2 := hw.2.2.2.2; rw [e] at h2; exact (Option.some.inj h2).symm), F.w hl⟩, hy, F.w hv⟩ ⟨FXB, F.pr h1 h2⟩ rfl rfl h3.1.1 hst (lv_room hcat) hdg ⟨by rw [F.ce]; exact hkm.1, by rw [F.sl]; exact hkm.2⟩
theorem j_runIN (F : Fx l X g A own cc nL ret f mc ms) {y : MethodName} {c2 : ByteArray} {nL2 : Nat} {f2 mc2 ms2 : Nat} {Qc : Array Value → State → Outcome → State → Prop} {idx : Nat} {As rest : List Value} {b : Nat} (hM : Met l y (.code y c2 nL2 none :: wU) (rmF f2 mc2 ms2) (va_Pc (.ref b :: As) (PR g h A)) Qc mc2 ms2 A) (hw : MW y c2 nL2 none As.length) (hy : y.name = "<init>") (hv : Cond.instanceMethod y ∈ wU) (hl : Cond.methodLinkNest own idx y "Bgpreplay" ∈ eBad) (hf : f2 + 1 ≤ f ∧ nL2 ≤ 16) (hcat : (rest.map fun v => v.category).sum ≤ 8) (hkm : k + mc2 ≤ mc ∧ n + ms2 ≤ ms) (hst : st = As.reverse ++ .ref b :: rest) (hdg : decode cc pc = .ok (.invokespecial idx, 3)) : JRn l X g A nL k n h pc lv st rest mc2 ms2 (Qc (.ref b :: As).toArray) := fun H locs ls h1 h2 h3 =>
  va_runIN F.xfix hM ⟨⟨⟨rfl, rfl, Nat.le_trans hf.1 F.fr, (by have := F.lo; have := hf.1; have := hf.2; show 8 + (nL2 + 11) + 35 * f2 ≤ _; omega), pay_in F.2.2.2.2.1 (wU_in (yc := .code y c2 nL2 none) hw.1), List.mem_cons_self⟩, F.w hw.1, F.w hw.2.1, ⟨hw.2.2.1, hw.2.2.2.1⟩, fun sig e => (by have h2 := hw.2.2.2.2; rw [e] at h2; exact (Option.some.inj h2).symm), va_Nw.use (by rfl) (F.E.1 _ hl)⟩, hy, F.w hv⟩ ⟨FXB, F.pr h1 h2⟩ rfl rfl h3.1.1 hst (lv_room hcat) hdg ⟨by rw [F.ce]; exact hkm.1, by rw [F.sl]; exact hkm.2⟩
theorem jx_runV (F : Fx l X g A own cc nL ret f mc ms) {y : MethodName} {c2 : ByteArray} {nL2 : Nat} {ret2 : Option FieldType} {f2 mc2 ms2 : Nat} {Qc : Array Value → State → Outcome → State → Prop} {idx : Nat} {As rest : List Value} {b ci N : Nat} {T : u_T} {fs : List Value} {px : HF × String → Prop} (hM : vx_Met l y (.code y c2 nL2 ret2 :: wU) (rmF f2 mc2 ms2) (va_Pc (.ref b :: As) (PR g h A)) Qc (vx_X px (BX g A) A) mc2 ms2 A) (hw : MW y c2 nL2 ret2 As.length) (hv : MV y) (hl : Cond.methodLink own idx y ∈ wU) (hb : h b = some (.inr (ci, fs))) (hc : vwCl[ci]? = some (y.cls, T, N)) (hf : f2 + 1 ≤ f ∧ nL2 ≤ 16) (hcat : (rest.map fun v => v.category).sum ≤ 8) (hkm : k + mc2 ≤ mc ∧ n + ms2 ≤ ms) (hst : st = As.reverse ++ .ref b :: rest) (hdg : decode cc pc = .ok (.invokevirtual idx, 3)) : JRx l X g A nL k n h pc lv st rest mc2 ms2 (Qc (.ref b :: As).toArray) px := fun H locs ls h1 h2 h3 =>
  vx_runV F.xfix hM ⟨⟨rfl, rfl, Nat.le_trans hf.1 F.fr, (by have := F.lo; have := hf.1; have := hf.2; show 8 + (nL2 + 11) + 35 * f2 ≤ _; omega), pay_in F.2.2.2.2.1 (wU_in (yc := .code y c2 nL2 ret2) hw.1), List.mem_cons_self, F.w hw.1, F.w hw.2.1, ⟨hw.2.2.1, hw.2.2.2.1⟩, fun sig e => (by have h2 := hw.2.2.2.2; rw [e] at h2; exact (Option.some.inj h2).symm), F.w hl⟩, F.w hv.1, F.w hv.2⟩ ⟨FXB, va_recv (q0 := 0) F.K (h1.p1 hb) hc rfl, F.pr h1 h2⟩ rfl rfl h3.1.1 hst (lv_room hcat) hdg ⟨by rw [F.ce]; exact hkm.1, by rw [F.sl]; exact hkm.2⟩
theorem j_ri {post : Int32 → HF → Prop} {rest : List Value} {mc2 ms2 : Nat} {a : Array Value} (hr : JRn l X g A nL k n h pc lv st rest mc2 ms2 (va_Qi post (BQ g A) A a)) (kk : ∀ (r : Int32) (h' : HF), post r h' → J l X g A nL (k + mc2) (n + ms2) h' (pc + 3) lv (.int r :: rest)) : J l X g A nL k n h pc lv st := fun H locs ls h1 h2 h3 =>
  va_calli (hr H locs ls h1 h2 h3) h2 (fun q _ h => h) (fun q h => h) (fun r u t H1 locs1 ht hvm hp hB hz hk hS => kk r u hp H1 locs1 ls (by rw [← ht]; exact hB) hS h3)
theorem jx_ri {post : Int32 → HF → Prop} {px : HF × String → Prop} {rest : List Value} {mc2 ms2 : Nat} {a : Array Value} (hr : JRx l X g A nL k n h pc lv st rest mc2 ms2 (va_Qi post (BQ g A) A a) px) (kx : ∀ (E : String) (h' : HF), px (h', E) → JX l X g A nL (k + mc2) (n + ms2) h' pc lv rest E) (kk : ∀ (r : Int32) (h' : HF), post r h' → J l X g A nL (k + mc2) (n + ms2) h' (pc + 3) lv (.int r :: rest)) : J l X g A nL k n h pc lv st := fun H locs ls h1 h2 h3 =>
  vx_calli (hr H locs ls h1 h2 h3) h2 (fun q _ h => h) (fun q h => h) (fun q _ h => h) (fun E ce q9 u t H1 locs1 ht hvm hp hB hz hk hS e1 e2 e3 => kx E u.1 (by rw [← hB.1]; exact hp) H1 locs1 ls q9 ce (by rw [← ht]; exact hB.2) hS h3 e1 e2 e3) (fun r u t H1 locs1 ht hvm hp hB hz hk hS => kk r u hp H1 locs1 ls (by rw [← ht]; exact hB) hS h3)
theorem j_rq {post : Option Nat → HF → Prop} {rest : List Value} {mc2 ms2 : Nat} {a : Array Value} (hr : JRn l X g A nL k n h pc lv st rest mc2 ms2 (va_Qq post (BQ g A) A a)) (kk : ∀ (r : Option Nat) (h' : HF), post r h' → J l X g A nL (k + mc2) (n + ms2) h' (pc + 3) lv (va_rf r :: rest)) : J l X g A nL k n h pc lv st := fun H locs ls h1 h2 h3 =>
  va_callq (hr H locs ls h1 h2 h3) h2 (fun q _ h => h) (fun q h => h) (fun r u t H1 locs1 ht hvm hp hB hz hk hS => kk r u hp H1 locs1 ls (by rw [← ht]; exact hB) hS h3)
theorem jx_rq {post : Option Nat → HF → Prop} {px : HF × String → Prop} {rest : List Value} {mc2 ms2 : Nat} {a : Array Value} (hr : JRx l X g A nL k n h pc lv st rest mc2 ms2 (va_Qq post (BQ g A) A a) px) (kx : ∀ (E : String) (h' : HF), px (h', E) → JX l X g A nL (k + mc2) (n + ms2) h' pc lv rest E) (kk : ∀ (r : Option Nat) (h' : HF), post r h' → J l X g A nL (k + mc2) (n + ms2) h' (pc + 3) lv (va_rf r :: rest)) : J l X g A nL k n h pc lv st := fun H locs ls h1 h2 h3 =>
  vx_callq (hr H locs ls h1 h2 h3) h2 (fun q _ h => h) (fun q h => h) (fun q _ h => h) (fun E ce q9 u t H1 locs1 ht hvm hp hB hz hk hS e1 e2 e3 => kx E u.1 (by rw [← hB.1]; exact hp) H1 locs1 ls q9 ce (by rw [← ht]; exact hB.2) hS h3 e1 e2 e3) (fun r u t H1 locs1 ht hvm hp hB hz hk hS => kk r u hp H1 locs1 ls (by rw [← ht]; exact hB) hS h3)
theorem j_rv {post : HF → Prop} {rest : List Value} {mc2 ms2 : Nat} {a : Array Value} (hr : JRn l X g A nL k n h pc lv st rest mc2 ms2 (va_Qv post (BQ g A) A a)) (kk : ∀ h' : HF, post h' → J l X g A nL (k + mc2) (n + ms2) h' (pc + 3) lv rest) : J l X g A nL k n h pc lv st := fun H locs ls h1 h2 h3 =>
  va_callv (hr H locs ls h1 h2 h3) h2 (fun q _ h => h) (fun q h => h) (fun u t H1 locs1 ht hvm hp hB hz hk hS => kk u hp H1 locs1 ls (by rw [← ht]; exact hB) hS h3)
theorem jx_rv {post : HF → Prop} {px : HF × String → Prop} {rest : List Value} {mc2 ms2 : Nat} {a : Array Value} (hr : JRx l X g A nL k n h pc lv st rest mc2 ms2 (va_Qv post (BQ g A) A a) px) (kx : ∀ (E : String) (h' : HF), px (h', E) → JX l X g A nL (k + mc2) (n + ms2) h' pc lv rest E) (kk : ∀ h' : HF, post h' → J l X g A nL (k + mc2) (n + ms2) h' (pc + 3) lv rest) : J l X g A nL k n h pc lv st := fun H locs ls h1 h2 h3 =>
  vx_callv (hr H locs ls h1 h2 h3) h2 (fun q _ h => h) (fun q h => h) (fun q _ h => h) (fun E ce q9 u t H1 locs1 ht hvm hp hB hz hk hS e1 e2 e3 => kx E u.1 (by rw [← hB.1]; exact hp) H1 locs1 ls q9 ce (by rw [← ht]; exact hB.2) hS h3 e1 e2 e3) (fun u t H1 locs1 ht hvm hp hB hz hk hS => kk u hp H1 locs1 ls (by rw [← ht]; exact hB) hS h3)
theorem j_iret (F : Fx l X g A own cc nL ret f mc ms) {post : Int32 → HF → Prop} {ty : FieldType} {r : Int32} (hQ : xQ X = MQ (xB X) (va_Qi post (BQ g A) A) (xA X) (xS X) mc ms A) (hr : ret = some ty) (hnw : narrow ty (.int r) = .int r) (hk : k ≤ mc) (hn : n ≤ ms) (hdg : decode cc pc = .ok (.ireturn, 1)) (hp : post r h) : J l X g A nL k n h pc lv [.int r] := fun H locs ls h1 h2 h3 => by
  rw [hQ]
  exact W.widen hk hn (W.zret F.1 F.2.1 (F.rt.trans hr) hnw (fun t ht hW => ⟨⟨r, h, rfl, hp, by show HX g h A t.heap; rw [ht]; exact h1⟩, h2.F ht⟩) h2.2.2 hdg F.lk)
theorem j_vret (F : Fx l X g A own cc nL ret f mc ms) {post : HF → Prop} (hQ : xQ X = MQ (xB X) (va_Qv post (BQ g A) A) (xA X) (xS X) mc ms A) (hr : ret = none) (hk : k ≤ mc) (hn : n ≤ ms) (hdg : decode cc pc = .ok (.return_, 1)) (hp : post h) : J l X g A nL k n h pc lv [] := fun H locs ls h1 h2 h3 => by
  rw [hQ]
  exact W.widen hk hn (W.vret F.1 F.2.1 (F.rt.trans hr) (fun t ht hW => ⟨⟨h, rfl, hp, by show HX g h A t.heap; rw [ht]; exact h1⟩, h2.F ht⟩) h2.2.2 hdg F.lk)
theorem j_aret (F : Fx l X g A own cc nL ret f mc ms) {post : Option Nat → HF → Prop} {nm : String} {r : Option Nat} (hQ : xQ X = MQ (xB X) (va_Qq post (BQ g A) A) (xA X) (xS X) mc ms A) (hr : ret = some (.object nm)) (hk : k ≤ mc) (hn : n ≤ ms) (hdg : decode cc pc = .ok (.areturn, 1)) (hp : post r h) : J l X g A nL k n h pc lv [va_rf r] := fun H locs ls h1 h2 h3 => by
  rw [hQ]
  exact W.widen hk hn (W.aret F.1 F.2.1 (F.rt.trans hr) (Or.inl ⟨nm, rfl⟩) (va_rf_or r) (fun t ht hW => ⟨⟨r, h, rfl, hp, by show HX g h A t.heap; rw [ht]; exact h1⟩, h2.F ht⟩) h2.2.2 hdg F.lk)
theorem jx_iret (F : Fx l X g A own cc nL ret f mc ms) {post : Int32 → HF → Prop} {px : HF × String → Prop} {ty : FieldType} {r : Int32} (hQ : xQ X = vx_MQ (xB X) (va_Qi post (BQ g A) A) (vx_X px (BX g A) A) (xA X) (xS X) mc ms A) (hr : ret = some ty) (hnw : narrow ty (.int r) = .int r) (hk : k ≤ mc) (hn : n ≤ ms) (hdg : decode cc pc = .ok (.ireturn, 1)) (hp : post r h) : J l X g A nL k n h pc lv [.int r] := fun H locs ls h1 h2 h3 => by
  rw [hQ]
  exact vx_ret (W.widen hk hn (W.zret F.1 F.2.1 (F.rt.trans hr) hnw (fun t ht hW => ⟨⟨r, h, rfl, hp, by show HX g h A t.heap; rw [ht]; exact h1⟩, h2.F ht⟩) h2.2.2 hdg F.lk))
theorem jx_vret (F : Fx l X g A own cc nL ret f mc ms) {post : HF → Prop} {px : HF × String → Prop} (hQ : xQ X = vx_MQ (xB X) (va_Qv post (BQ g A) A) (vx_X px (BX g A) A) (xA X) (xS X) mc ms A) (hr : ret = none) (hk : k ≤ mc) (hn : n ≤ ms) (hdg : decode cc pc = .ok (.return_, 1)) (hp : post h) : J l X g A nL k n h pc lv [] := fun H locs ls h1 h2 h3 => by
  rw [hQ]
  exact vx_ret (W.widen hk hn (W.vret F.1 F.2.1 (F.rt.trans hr) (fun t ht hW => ⟨⟨h, rfl, hp, by show HX g h A t.heap; rw [ht]; exact h1⟩, h2.F ht⟩) h2.2.2 hdg F.lk))
theorem jx_aret (F : Fx l X g A own cc nL ret f mc ms) {post : Option Nat → HF → Prop} {px : HF × String → Prop} {nm : String} {r : Option Nat} (hQ : xQ X = vx_MQ (xB X) (va_Qq post (BQ g A) A) (vx_X px (BX g A) A) (xA X) (xS X) mc ms A) (hr : ret = some (.object nm)) (hk : k ≤ mc) (hn : n ≤ ms) (hdg : decode cc pc = .ok (.areturn, 1)) (hp : post r h) : J l X g A nL k n h pc lv [va_rf r] := fun H locs ls h1 h2 h3 => by
  rw [hQ]
  exact vx_ret (W.widen hk hn (W.aret F.1 F.2.1 (F.rt.trans hr) (Or.inl ⟨nm, rfl⟩) (va_rf_or r) (fun t ht hW => ⟨⟨r, h, rfl, hp, by show HX g h A t.heap; rw [ht]; exact h1⟩, h2.F ht⟩) h2.2.2 hdg F.lk))
theorem jx_out (F : Fx l X g A own cc nL ret f mc ms) {Qc : Array Value → State → Outcome → State → Prop} {px : HF × String → Prop} {rest : List Value} {E : String} (hQ : xQ X = vx_MQ (xB X) Qc (vx_X px (BX g A) A) (xA X) (xS X) mc ms A) (hex : ∀ x ∈ (xC X).exceptionTable.toList, False) (hk : k ≤ mc) (hn : n ≤ ms) (hp : px (h, E)) : JX l X g A nL k n h pc lv rest E := fun H locs ls q ce h1 h2 h3 e1 e2 e3 => by
  rw [hQ]
  exact vx_out (fun x hx => (hex x hx).elim) F.lk e1 e2 e3 (fun t ht hvm => ⟨(h, E), hp, ⟨rfl, by show HX g h A t.heap; rw [ht]; exact h1⟩, h2.F ht⟩) h2.2.2 hk hn
theorem jx_met {y : MethodName} {av : List Value} {Qc : Array Value → State → Outcome → State → Prop} {XC : String → State → State → Prop} (hy : plainName y.cls = true) (hn : (lg_sl av).length ≤ nL)
    (body : ∀ X : Cx, Fx l X g A y.cls cc nL ret f mc ms → (∀ x ∈ (xC X).exceptionTable.toList, False) → xQ X = vx_MQ (xB X) Qc XC (xA X) (xS X) mc ms A → J l X g A nL 0 0 h 0 (lv_args 0 av) []) (hac : acat av = true := by rfl) : vx_Met l y (.code y cc nL ret :: wU) (rmF f mc ms) (va_Pc av (PR g h A)) Qc XC mc ms A := by
  refine vx_ofW (cc := cc) (maxL := nL) (ret := ret) hy rfl ?_
  intro p e s m args below meth c s₁ B hml hex hv
  obtain ⟨rfl, hP, hA, hK, hE⟩ := hv
  have hts := atoms_spec (ws := Cond.code y cc nL ret :: wU) B.pre
  have hl := lv_entry av (n := nL) hn
  rw [lg_entry_eq]
  exact body (p, e, rmF f mc ms, s, m, av.toArray, below, meth, c, _) ⟨B.exec, B.bytes, hml, findClass_of_methodNamed B.named, fun w hw => hts w (List.mem_cons_of_mem _ hw), hK, hA, hE, B.notSynchronized, B.returns, Nat.le_refl _, Nat.le_refl _, rfl, rfl⟩ hex rfl s.heap [] _ hP va_S.rf ⟨hl, lvh_args av 0 (acat_ok hac)⟩
/-- the words of a throw, new E(text), by its constructor's place -/
def nmsX : List String := ["java/lang/RuntimeException", "java/lang/Exception"]
def TW (ic : Nat) (cls : String) : Prop := Bundle.fit cls = true ∧ (∀ n ∈ nmsX, Bundle.fit n = true) ∧ (∀ w ∈ (vx_atS RX8 ic cls nmsX).filter goodWord, w ∈ wU) ∧ (∀ w ∈ (vx_atS RX8 ic cls nmsX).filter (fun w => !goodWord w), w ∈ eBad) ∧ (∀ w ∈ vx_atS RX8 ic cls nmsX, vx_ot w = true)
theorem tw_hat {ic : Nat} {cls : String} {cc : ByteArray} (F : Fx l X g A RX8 cc nL ret f mc ms) (t : TW ic cls) : ∀ w ∈ vx_atS RX8 ic cls nmsX, w.before (xA X) (xS X) = true := fun w hw => by
  by_cases gw : goodWord w = true
  · exact F.w (t.2.2.1 w (List.mem_filter.mpr ⟨hw, gw⟩))
  · have hb := t.2.2.2.1 w (List.mem_filter.mpr ⟨hw, by cases e : goodWord w <;> simp_all⟩)
    have ht : w.onTables = true := by
      have := t.2.2.2.2 w hw
      simp only [vx_ot, Bool.or_eq_true] at this
      exact this.elim id (fun z => absurd z gw)
    exact va_Nw.use ht (F.E.1 w hb)
theorem j_throwS {cc : ByteArray} (F : Fx l X g A RX8 cc nL ret f mc ms) (hst : l.stackTraces = false) {Qc : Array Value → State → Outcome → State → Prop} {px : HF × String → Prop} {ik is ic : Nat} {cls text : String} (hQ : xQ X = vx_MQ (xB X) Qc (vx_X px (BX g A) A) (xA X) (xS X) mc ms A) (hex : ∀ x ∈ (xC X).exceptionTable.toList, False) (t : TW ic cls) (hs : (RX8, is, text) ∈ eStr) (hk : Cond.classLink RX8 ik cls ∈ wU) (hi : Cond.initialized cls ∈ wU) (hf : 6 ≤ f) (hcat : (st.map fun v => v.category).sum ≤ 8) (hkm : k + 1 ≤ mc ∧ n + 6 ≤ ms)
    (d0 : decode cc pc = .ok (.new ik, 3)) (d3 : decode cc (pc + 3) = .ok (.dup, 1)) (d4 : decode cc (pc + 4) = .ok (.ldc is, 2)) (d6 : decode cc (pc + 6) = .ok (.invokespecial ic, 3)) (d9 : decode cc (pc + 9) = .ok (.athrow, 1)) (hp : px (h, cls)) : J l X g A nL k n h pc lv st := fun H locs ls h1 h2 h3 => by
  rw [hQ]
  obtain ⟨sa, hsa⟩ := F.E.2.1 _ hs
  have q1 := F.fr
  have q2 := F.lo
  refine vx_throwS F.1 F.2.1 hst F.ow t.1 t.2.1 (F.w hk) (F.w hi) hsa (tw_hat F t) (fun w hw => ?_) F.E.2.2.2.2.2.1 F.E.2.2.2.2.2.2 h2 (h3.1.1.trans F.2.2.1.symm) d0 d3 d4 d6 d9 (fun x hx => (hex x hx).elim) (by show 2 + 3 < _; omega) (by show _ + (13 * (2 + 1) + 43) ≤ _; omega) (by rw [F.ce]; exact hkm.1) (by rw [F.sl]; exact hkm.2) F.lk (fun t ht hz hk => ⟨(h, cls), hp, ⟨rfl, fun a e ha => ?_⟩, ?_⟩) h2.2.2 hkm.1 hkm.2
  · rcases List.mem_cons.mp hw with e | hw
    · subst e; rfl
    · rcases List.mem_cons.mp hw with e | hw
      · subst e; rfl
      · exact t.2.2.2.2 w hw
  · obtain ⟨z1, z2⟩ := h1 a e ha
    exact ⟨z1.kept (hk _ z1.lt), z2⟩
  · exact ⟨Nat.le_trans h2.1 hz, fun q z1 z2 => by rw [hk q (Nat.lt_of_lt_of_le z1 h2.1)]; exact h2.2.1 q z1 z2⟩
theorem j_throwSW {cc : ByteArray} (F : Fx l X g A RX8 cc nL ret f mc ms) (hst : l.stackTraces = false) {Qc : Array Value → State → Outcome → State → Prop} {px : HF × String → Prop} {ik is ic : Nat} {cls text : String} (hQ : xQ X = vx_MQ (xB X) Qc (vx_X px (BX g A) A) (xA X) (xS X) mc ms A) (hex : ∀ x ∈ (xC X).exceptionTable.toList, False) (t : TW ic cls) (hs : (RX8, is, text) ∈ eStr) (hk : Cond.classLink RX8 ik cls ∈ wU) (hi : Cond.initialized cls ∈ wU) (hf : 6 ≤ f) (hcat : (st.map fun v => v.category).sum ≤ 8) (hkm : k + 1 ≤ mc ∧ n + 6 ≤ ms)
    (d0 : decode cc pc = .ok (.new ik, 3)) (d3 : decode cc (pc + 3) = .ok (.dup, 1)) (d4 : decode cc (pc + 4) = .ok (.ldc_w is, 3)) (d6 : decode cc (pc + 7) = .ok (.invokespecial ic, 3)) (d9 : decode cc (pc + 10) = .ok (.athrow, 1)) (hp : px (h, cls)) : J l X g A nL k n h pc lv st := fun H locs ls h1 h2 h3 => by
  rw [hQ]
  obtain ⟨sa, hsa⟩ := F.E.2.1 _ hs
  have q1 := F.fr
  have q2 := F.lo
  refine vx_throwSW F.1 F.2.1 hst F.ow t.1 t.2.1 (F.w hk) (F.w hi) hsa (tw_hat F t) (fun w hw => ?_) F.E.2.2.2.2.2.1 F.E.2.2.2.2.2.2 h2 (h3.1.1.trans F.2.2.1.symm) d0 d3 d4 d6 d9 (fun x hx => (hex x hx).elim) (by show 2 + 3 < _; omega) (by show _ + (13 * (2 + 1) + 43) ≤ _; omega) (by rw [F.ce]; exact hkm.1) (by rw [F.sl]; exact hkm.2) F.lk (fun t ht hz hk => ⟨(h, cls), hp, ⟨rfl, fun a e ha => ?_⟩, ?_⟩) h2.2.2 hkm.1 hkm.2
  · rcases List.mem_cons.mp hw with e | hw
    · subst e; rfl
    · rcases List.mem_cons.mp hw with e | hw
      · subst e; rfl
      · exact t.2.2.2.2 w hw
  · obtain ⟨z1, z2⟩ := h1 a e ha
    exact ⟨z1.kept (hk _ z1.lt), z2⟩
  · exact ⟨Nat.le_trans h2.1 hz, fun q z1 z2 => by rw [hk q (Nat.lt_of_lt_of_le z1 h2.1)]; exact h2.2.1 q z1 z2⟩
set_option maxRecDepth 20000 in
theorem tw_52 : TW 52 "java/lang/IllegalArgumentException" := ⟨by decide +kernel, by decide +kernel, fun w hw => List.mem_filter.mpr ⟨(show ∀ w ∈ (vx_atS RX8 52 "java/lang/IllegalArgumentException" nmsX).filter goodWord, w ∈ lw_tbl by decide +kernel) w hw, (List.mem_filter.mp hw).2⟩, by decide +kernel, by decide +kernel⟩
set_option maxRecDepth 20000 in
theorem tw_60 : TW 60 "java/lang/IllegalStateException" := ⟨by decide +kernel, by decide +kernel, fun w hw => List.mem_filter.mpr ⟨(show ∀ w ∈ (vx_atS RX8 60 "java/lang/IllegalStateException" nmsX).filter goodWord, w ∈ lw_tbl by decide +kernel) w hw, (List.mem_filter.mp hw).2⟩, by decide +kernel, by decide +kernel⟩
set_option maxRecDepth 20000 in
theorem tw_154 : TW 154 "java/lang/IndexOutOfBoundsException" := ⟨by decide +kernel, by decide +kernel, fun w hw => List.mem_filter.mpr ⟨(show ∀ w ∈ (vx_atS RX8 154 "java/lang/IndexOutOfBoundsException" nmsX).filter goodWord, w ∈ lw_tbl by decide +kernel) w hw, (List.mem_filter.mp hw).2⟩, by decide +kernel, by decide +kernel⟩
theorem xi_IllegalArgumentException : Cond.initialized "java/lang/IllegalArgumentException" ∈ wU := wU_at 33 (by decide +kernel) rfl
theorem xi_IllegalStateException : Cond.initialized "java/lang/IllegalStateException" ∈ wU := wU_at 34 (by decide +kernel) rfl
theorem xi_IndexOutOfBoundsException : Cond.initialized "java/lang/IndexOutOfBoundsException" ∈ wU := wU_at 35 (by decide +kernel) rfl
theorem xi_NoSuchElementException : Cond.initialized "java/util/NoSuchElementException" ∈ wU := wU_at 38 (by decide +kernel) rfl
end JC
