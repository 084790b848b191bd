/-! ===== a layer of our own: the heap as a partial function of addresses, and a judgement J over it ===== -/
abbrev HF : Type := Nat → Option va_E
def hUp (h : HF) (a : Nat) (e : va_E) : HF := fun q => if q = a then some e else h q
theorem hUp_s {h : HF} {a : Nat} {e : va_E} : hUp h a e a = some e := if_pos rfl
theorem hUp_n {h : HF} {a b : Nat} {e : va_E} (n : b ≠ a) : hUp h a e b = h b := if_neg n
/-- the classes' numbers, the slots; the array classes: int[], Route[], Entry[], int[][], long[] -/
abbrev GG : Type := va_G × (ClassId × ClassId × ClassId × ClassId × ClassId)
def gT (g : GG) : List (ClassId × FieldType) := [(g.2.1, .int), (g.2.2.1, .object RX6), (g.2.2.2.1, .object RX0), (g.2.2.2.2.1, .array .int), (g.2.2.2.2.2, .long)]
abbrev aI (g : GG) (n : Nat) (f : Nat → Int32) : va_E := .inl (g.2.1, n, .inl f)
abbrev aR (g : GG) (n : Nat) (f : Nat → Option Nat) : va_E := .inl (g.2.2.1, n, .inr (.inr (.inr (.inr f))))
abbrev aE (g : GG) (n : Nat) (f : Nat → Option Nat) : va_E := .inl (g.2.2.2.1, n, .inr (.inr (.inr (.inr f))))
abbrev aII (g : GG) (n : Nat) (f : Nat → Option Nat) : va_E := .inl (g.2.2.2.2.1, n, .inr (.inr (.inr (.inr f))))
abbrev aJ (g : GG) (n : Nat) (f : Nat → Int64) : va_E := .inl (g.2.2.2.2.2, n, .inr (.inl f))
def HX (g : GG) (h : HF) (A : Nat → Prop) (H : Heap) : Prop := ∀ (a : Nat) (e : va_E), h a = some e → va_at g.1 vwCl (a, e) H ∧ A a
/-- what the world outside holds: words that are no good ones, texts, the statics of Throwable, classes of arrays -/
def EV (A : Nat → Prop) (U : State) (H : Heap) : Prop := (∀ w ∈ eBad, va_Nw w U) ∧ (∀ x ∈ eStr, ∃ a, vk_R x.1 x.2.1 x.2.2 a U) ∧ va_AO RX6 U ∧ va_AO RX0 U ∧ va_AOA .int U ∧ vx_Zq Bundle.tN "UNASSIGNED_STACK" Bundle.steD A U H ∧ vx_Zq Bundle.tN "SUPPRESSED_SENTINEL" Bundle.listD A U H
def wkBad : Cond → Bool
  | .fieldLinkNest .. | .methodLinkNest .. | .castable .. | .declares _ => true
  | _ => false
theorem wkBad_warm {w : Cond} (h : wkBad w = true) {s U : State} (hW : s.WarmedH U.vm) (hZ : va_Nw w s) : va_Nw w U := by
  cases w <;> first
    | exact va_Nw.warmF hW hZ
    | exact va_Nw.warmM hW hZ
    | exact va_Nw.warmC hW hZ
    | exact va_Nw.warmD hW hZ
    | (simp [wkBad] at h; done)
theorem eBad_ok : ∀ w ∈ eBad, wkBad w = true := by
  intro w hw
  exact List.all_eq_true.mp (show eBad.all wkBad = true by rfl) w hw
theorem va_AOA.moved {ty : FieldType} {u U : State} (hvm : u.vm.Alike U.vm) (h : va_AOA ty u) : va_AOA ty U := arrayOver_alikeB hvm h
theorem EV.mv {A : Nat → Prop} {s U : State} {H H1 : Heap} (h : EV A s H) (hW : s.WarmedH U.vm) (hk : ∀ q, q < H.size → ¬ A q → H1[q]? = H[q]?) : EV A U H1 := by
  obtain ⟨h1, h2, h3, h4, h5, h6, h7⟩ := h
  refine ⟨fun w hw => wkBad_warm (eBad_ok w hw) hW (h1 w hw), fun x hx => ?_, va_AO.moved hW.alike h3, va_AO.moved hW.alike h4, va_AOA.moved hW.alike h5, vx_Zq.moved hW.alike (h6.kept hk), vx_Zq.moved hW.alike (h7.kept hk)⟩
  obtain ⟨a, ha⟩ := h2 x hx
  exact ⟨a, vk_R.warm hW ha⟩
theorem EV.sm {A : Nat → Prop} {s U : State} {H : Heap} (h : EV A s H) (hv : U.vm = s.vm) : EV A U H := EV.mv h (hv ▸ State.WarmedH.refl s) (fun _ _ _ => rfl)
theorem EV.nw {A B : Nat → Prop} {s : State} {H : Heap} (h : EV A s H) (hAB : ∀ q, B q → A q) : EV B s H := by
  obtain ⟨h1, h2, h3, h4, h5, h6, h7⟩ := h
  exact ⟨h1, h2, h3, h4, h5, h6.narrow hAB, h7.narrow hAB⟩
def PR (g : GG) (h : HF) (A : Nat → Prop) (U : State) : Prop := HX g h A U.heap ∧ (∀ q, U.heap.size ≤ q → A q) ∧ va_K g.1 vwCl (gT g) U ∧ EV A U U.heap
def BQ (g : GG) (A : Nat → Prop) (h : HF) (t : State) : Prop := HX g h A t.heap
def BX (g : GG) (A : Nat → Prop) (E : String) (u : HF × String) (t : State) : Prop := u.2 = E ∧ HX g u.1 A t.heap
abbrev rmF (f mc ms : Nat) : Room := { frames := f, cells := mc, slots := ms, locals := 35 * f }
/-- contracts: a method of int (void, reference) that returns; and one that may throw -/
abbrev MI (l : Launch) (g : GG) (A : Nat → Prop) (h : HF) (y : MethodName) (c : ByteArray) (nL : Nat) (ret : Option FieldType) (f mc ms : Nat) (av : List Value) (post : Int32 → HF → Prop) : Prop := Met l y (.code y c nL ret :: wU) (rmF f mc ms) (va_Pc av (PR g h A)) (va_Qi post (BQ g A) A) mc ms A
abbrev MVo (l : Launch) (g : GG) (A : Nat → Prop) (h : HF) (y : MethodName) (c : ByteArray) (nL : Nat) (f mc ms : Nat) (av : List Value) (post : HF → Prop) : Prop := Met l y (.code y c nL none :: wU) (rmF f mc ms) (va_Pc av (PR g h A)) (va_Qv post (BQ g A) A) mc ms A
abbrev MQo (l : Launch) (g : GG) (A : Nat → Prop) (h : HF) (y : MethodName) (c : ByteArray) (nL : Nat) (ret : Option FieldType) (f mc ms : Nat) (av : List Value) (post : Option Nat → HF → Prop) : Prop := Met l y (.code y c nL ret :: wU) (rmF f mc ms) (va_Pc av (PR g h A)) (va_Qq post (BQ g A) A) mc ms A
abbrev XI (l : Launch) (g : GG) (A : Nat → Prop) (h : HF) (y : MethodName) (c : ByteArray) (nL : Nat) (ret : Option FieldType) (f mc ms : Nat) (av : List Value) (post : Int32 → HF → Prop) (px : HF × String → Prop) : Prop := vx_Met l y (.code y c nL ret :: wU) (rmF f mc ms) (va_Pc av (PR g h A)) (va_Qi post (BQ g A) A) (vx_X px (BX g A) A) mc ms A
abbrev XV (l : Launch) (g : GG) (A : Nat → Prop) (h : HF) (y : MethodName) (c : ByteArray) (nL : Nat) (f mc ms : Nat) (av : List Value) (post : HF → Prop) (px : HF × String → Prop) : Prop := vx_Met l y (.code y c nL none :: wU) (rmF f mc ms) (va_Pc av (PR g h A)) (va_Qv post (BQ g A) A) (vx_X px (BX g A) A) mc ms A
abbrev XQ (l : Launch) (g : GG) (A : Nat → Prop) (h : HF) (y : MethodName) (c : ByteArray) (nL : Nat) (ret : Option FieldType) (f mc ms : Nat) (av : List Value) (post : Option Nat → HF → Prop) (px : HF × String → Prop) : Prop := vx_Met l y (.code y c nL ret :: wU) (rmF f mc ms) (va_Pc av (PR g h A)) (va_Qq post (BQ g A) A) (vx_X px (BX g A) A) mc ms A
/-- the fixed things of a walk -/
abbrev Cx : Type := Program × Env × Room × State × MethodId × Array Value × List Frame × Method × Code × (State → Prop)
abbrev xP (X : Cx) : Program := X.1
abbrev xE (X : Cx) : Env := X.2.1
abbrev xR (X : Cx) : Room := X.2.2.1
abbrev xS (X : Cx) : State := X.2.2.2.1
abbrev xM (X : Cx) : MethodId := X.2.2.2.2.1
abbrev xA (X : Cx) : Array Value := X.2.2.2.2.2.1
abbrev xB (X : Cx) : List Frame := X.2.2.2.2.2.2.1
abbrev xN (X : Cx) : Method := X.2.2.2.2.2.2.2.1
abbrev xC (X : Cx) : Code := X.2.2.2.2.2.2.2.2.1
abbrev xQ (X : Cx) : State → Prop := X.2.2.2.2.2.2.2.2.2
def lvh (ls : Array Slot) (nL : Nat) (lv : List (Nat × Value)) : Prop := lv_has ls nL lv ∧ ∀ q ∈ lv, q.2.category = 1
theorem lvh_args : ∀ (av : List Value) (i : Nat), (∀ v ∈ av, v.category = 1) → ∀ q ∈ lv_args i av, q.2.category = 1
  | [], _, _, q, hq => by cases hq
  | v :: t, i, h, q, hq => by
    unfold lv_args at hq
    rcases List.mem_cons.mp hq with e | hq
    · rw [e]; exact h v List.mem_cons_self
    · exact lvh_args t _ (fun w hw => h w (List.mem_cons_of_mem _ hw)) q hq
def acat : List Value → Bool
  | [] => true
  | v :: t => (match v with | .int _ => true | .ref _ => true | .null => true | _ => false) && acat t
theorem acat_ok : ∀ {av : List Value}, acat av = true → ∀ v ∈ av, v.category = 1
  | [], _, v, hv => by cases hv
  | w :: t, h, v, hv => by
    unfold acat at h
    rw [Bool.and_eq_true] at h
    rcases List.mem_cons.mp hv with e | hv
    · subst e
      have h1 := h.1
      cases v <;> first | rfl | (simp at h1)
    · exact acat_ok h.2 v hv
def J (l : Launch) (X : Cx) (g : GG) (A : Nat → Prop) (nL k n : Nat) (h : HF) (pc : Nat) (lv : List (Nat × Value)) (st : List Value) : Prop :=
  ∀ (H : Heap) (locs : List Loc) (ls : Array Slot), HX g h A H → va_S A (xS X).heap H locs → lvh ls nL lv → W (xP X) l (xE X) (xR X) (xS X) (xM X) (xA X) (xB X) (xN X) (xC X) H locs k n (xQ X) (F0 (xM X) pc ls st)
/-- the facts of a walk: the machine, the code, the words, the classes, the room -/
def Fx (l : Launch) (X : Cx) (g : GG) (A : Nat → Prop) (own : String) (cc : ByteArray) (nL : Nat) (ret : Option FieldType) (f mc ms : Nat) : Prop :=
  (xP X).tables.exec = Jvm.exec ∧ (xC X).code = cc ∧ (xC X).maxLocals = nL ∧ (xS X).vm.findClass own = some (xM X).cls ∧ (∀ w ∈ wU, w.before (xA X) (xS X) = true) ∧ va_K g.1 vwCl (gT g) (xS X) ∧ (∀ q, (xS X).heap.size ≤ q → A q) ∧ EV A (xS X) (xS X).heap ∧ (xN X).locks = false ∧ (xN X).sig.returnType = ret ∧ f ≤ (xR X).frames ∧ 35 * f ≤ (xR X).locals ∧ (xR X).cells = mc ∧ (xR X).slots = ms
theorem j_met {l : Launch} {g : GG} {A : Nat → Prop} {h : HF} {y : MethodName} {cc : ByteArray} {nL : Nat} {ret : Option FieldType} {f mc ms : Nat} {av : List Value} {Qc : Array Value → State → Outcome → State → Prop} (hy : plainName y.cls = true) (hn : (lg_sl av).length ≤ nL)
    (body : ∀ X : Cx, Fx l X g A y.cls cc nL ret f mc ms → ((xN X).name = y.name) → xQ X = MQ (xB X) Qc (xA X) (xS X) mc ms A → J l X g A nL 0 0 h 0 (lv_args 0 av) []) (hac : acat av = true := by rfl) : Met l y (.code y cc nL ret :: wU) (rmF f mc ms) (va_Pc av (PR g h A)) Qc mc ms A := by
  refine Met.ofW (cc := cc) (maxL := nL) (ret := ret) hy rfl ?_
  intro p e s m args below meth c s₁ B hml hv
  obtain ⟨rfl, hP, hA, hK, hE⟩ := hv
  have hts := atoms_spec (ws := Cond.code y cc nL ret :: wU) B.pre
  have hin : meth.name = y.name := (name_of_methodNamed B.named B.method).1
  have hl := lv_entry av (n := nL) hn
  rw [lg_entry_eq]
  exact body (p, e, rmF f mc ms, s, m, av.toArray, below, meth, c, _) ⟨B.exec, B.bytes, hml, findClass_of_methodNamed B.named, fun w hw => hts w (List.mem_cons_of_mem _ hw), hK, hA, hE, B.notSynchronized, B.returns, Nat.le_refl _, Nat.le_refl _, rfl, rfl⟩ hin rfl s.heap [] _ hP va_S.rf ⟨hl, lvh_args av 0 (acat_ok hac)⟩
section JR
variable {l : Launch} {X : Cx} {g : GG} {A : Nat → Prop} {own : String} {cc : ByteArray} {nL : Nat} {ret : Option FieldType} {f mc ms : Nat} {k n : Nat} {h : HF} {pc : Nat} {lv : List (Nat × Value)} {st : List Value}
def lget : List (Nat × Value) → Nat → Option Value
  | [], _ => none
  | (j, v) :: t, i => cond (Nat.beq j i) (some v) (lget t i)
def lset (lv : List (Nat × Value)) (i : Nat) (v : Value) : List (Nat × Value) := (i, v) :: lv.filter (fun q => !(Nat.beq q.1 i))
theorem lset_ok {ls : Array Slot} {i : Nat} {v : Value} (hc : ∀ q ∈ lv, q.2.category = 1) (hv : v.category = 1) (h : lv_has ls nL ((i, v) :: lv.filter (fun q => !(q.1 == i) && !(q.1 + 1 == i && q.2.category == 2)))) : lvh ls nL (lset lv i v) := by
  have e : lv.filter (fun q => !(q.1 == i) && !(q.1 + 1 == i && q.2.category == 2)) = lv.filter (fun q => !(Nat.beq q.1 i)) := by
    apply List.filter_congr
    intro q hq
    rw [hc q hq]
    cases e : Nat.beq q.1 i with
    | true => simp [Nat.eq_of_beq_eq_true e]
    | false => simp [Nat.ne_of_beq_eq_false e]
  rw [e] at h
  refine ⟨h, fun q hq => ?_⟩
  rcases List.mem_cons.mp hq with e | hq
  · rw [e]; exact hv
  · exact hc q (List.mem_filter.mp hq).1
theorem lget_mem {i : Nat} {v : Value} : ∀ {lv : List (Nat × Value)}, lget lv i = some v → (i, v) ∈ lv
  | [], h => by cases h
  | (j, w) :: t, h => by
    unfold lget at h
    cases hb : Nat.beq j i with
    | true =>
      rw [hb] at h
      have e := Nat.eq_of_beq_eq_true hb
      cases h
      subst e
      exact List.mem_cons_self
    | false =>
      rw [hb] at h
      exact List.mem_cons_of_mem _ (lget_mem h)
theorem lget_at {ls : Array Slot} {i : Nat} {v : Value} (h : lvh ls nL lv) (e : lget lv i = some v) : ls[i]? = some (.val v) := h.1.2.2 (i, v) (lget_mem e)
/-- fewer locals -/
def lall (lv : List (Nat × Value)) : List (Nat × Value) → Prop
  | [] => True
  | (i, v) :: t => lget lv i = some v ∧ lall lv t
theorem lall_mem {lv : List (Nat × Value)} : ∀ {lv' : List (Nat × Value)}, lall lv lv' → ∀ q ∈ lv', lget lv q.1 = some q.2
  | [], _, q, hq => by cases hq
  | (i, v) :: t, h, q, hq => by
    rcases List.mem_cons.mp hq with e | hq
    · subst e; exact h.1
    · exact lall_mem h.2 q hq
theorem lv_all {ls : Array Slot} {lv' : List (Nat × Value)} (h : lvh ls nL lv) (e : lall lv lv') : lvh ls nL lv' := ⟨⟨h.1.1, h.1.2.1, fun q hq => lget_at h (lall_mem e q hq)⟩, fun q hq => h.2 _ (lget_mem (lall_mem e q hq))⟩
theorem j_lv (lv' : List (Nat × Value)) (e : lall lv lv') (kk : J l X g A nL k n h pc lv' st) : J l X g A nL k n h pc lv st := fun H locs ls h1 h2 h3 => kk H locs ls h1 h2 (lv_all h3 e)
theorem j_forget (h' : HF) (e : ∀ a x, h' a = some x → h a = some x) (kk : J l X g A nL k n h' pc lv st) : J l X g A nL k n h pc lv st := fun H locs ls h1 h2 h3 => kk H locs ls (fun a x q => h1 a x (e a x q)) h2 h3
theorem j_widen {k' n' : Nat} (hk : k ≤ k') (hn : n ≤ n') (kk : J l X g A nL k' n' h pc lv st) : J l X g A nL k n h pc lv st := fun H locs ls h1 h2 h3 => W.widen hk hn (kk H locs ls h1 h2 h3)
theorem Fx.xfix (F : Fx l X g A own cc nL ret f mc ms) : CallFix (xP X) (xM X) (xC X) cc nL (xS X) (xA X) wU own := ⟨F.1, F.2.1, F.2.2.1, F.2.2.2.1, F.2.2.2.2.1⟩
theorem Fx.ow (F : Fx l X g A own cc nL ret f mc ms) : (xS X).vm.findClass own = some (xM X).cls := F.2.2.2.1
theorem Fx.w (F : Fx l X g A own cc nL ret f mc ms) {w : Cond} (h : w ∈ wU) : w.before (xA X) (xS X) = true := F.2.2.2.2.1 w h
theorem Fx.K (F : Fx l X g A own cc nL ret f mc ms) : va_K g.1 vwCl (gT g) (xS X) := F.2.2.2.2.2.1
theorem Fx.ar (F : Fx l X g A own cc nL ret f mc ms) : ∀ q, (xS X).heap.size ≤ q → A q := F.2.2.2.2.2.2.1
theorem Fx.E (F : Fx l X g A own cc nL ret f mc ms) : EV A (xS X) (xS X).heap := F.2.2.2.2.2.2.2.1
theorem Fx.lk (F : Fx l X g A own cc nL ret f mc ms) : (xN X).locks = false := F.2.2.2.2.2.2.2.2.1
theorem Fx.rt (F : Fx l X g A own cc nL ret f mc ms) : (xN X).sig.returnType = ret := F.2.2.2.2.2.2.2.2.2.1
theorem Fx.fr (F : Fx l X g A own cc nL ret f mc ms) : f ≤ (xR X).frames := F.2.2.2.2.2.2.2.2.2.2.1
theorem Fx.lo (F : Fx l X g A own cc nL ret f mc ms) : 35 * f ≤ (xR X).locals := F.2.2.2.2.2.2.2.2.2.2.2.1
theorem Fx.ce (F : Fx l X g A own cc nL ret f mc ms) : (xR X).cells = mc := F.2.2.2.2.2.2.2.2.2.2.2.2.1
theorem Fx.sl (F : Fx l X g A own cc nL ret f mc ms) : (xR X).slots = ms := F.2.2.2.2.2.2.2.2.2.2.2.2.2
theorem HX.p1 {H : Heap} (h1 : HX g h A H) {a : Nat} {e : va_E} (ha : h a = some e) : va_P g.1 vwCl [(a, e)] H := fun i q hq => by
  cases i with
  | zero => cases hq; exact (h1 a e ha).1
  | succ i => simp at hq
theorem HX.up {H H1 : Heap} (h1 : HX g h A H) {a : Nat} {e : va_E} (hA : A a) (he : va_at g.1 vwCl (a, e) H1) (ho : ∀ q : Nat, q ≠ a → H1[q]? = H[q]?) : HX g (hUp h a e) A H1 := fun b x hb => by
  by_cases hba : b = a
  · subst hba
    rw [hUp_s] at hb
    cases hb
    exact ⟨he, hA⟩
  · rw [hUp_n hba] at hb
    obtain ⟨q1, q2⟩ := h1 b x hb
    exact ⟨q1.kept (ho b hba), q2⟩
/-- a new cell -/
theorem HX.nw {H H1 : Heap} (h1 : HX g h A H) {e : va_E} (hA : A H.size) (he : va_at g.1 vwCl (H.size, e) H1) (ho : ∀ q : Nat, q < H.size → H1[q]? = H[q]?) : HX g (hUp h H.size e) A H1 := fun b x hb => by
  by_cases hba : b = H.size
  · subst hba
    rw [hUp_s] at hb
    cases hb
    exact ⟨he, hA⟩
  · rw [hUp_n hba] at hb
    obtain ⟨q1, q2⟩ := h1 b x hb
    exact ⟨q1.kept (ho b q1.lt), q2⟩
theorem HX.fresh {H : Heap} (h1 : HX g h A H) : h H.size = none := by
  cases e : h H.size with
  | none => rfl
  | some x => exact absurd (h1 _ x e).1.lt (Nat.lt_irrefl _)

theorem j_iconst (F : Fx l X g A own cc nL ret f mc ms) {z : Int} {v : Int32} (hdg : decode cc pc = .ok (.iconst z, 1)) (hv : Int32.ofInt z = v) (kk : J l X g A nL k n h (pc + 1) lv (.int v :: st)) : J l X g A nL k n h pc lv st := fun H locs ls h1 h2 h3 => lv_iconst F.1 F.2.1 hdg hv (kk H locs ls h1 h2 h3)
theorem j_bipush (F : Fx l X g A own cc nL ret f mc ms) {z : Int} {v : Int32} (hdg : decode cc pc = .ok (.bipush z, 2)) (hv : (Int8.ofInt z).toInt32 = v) (kk : J l X g A nL k n h (pc + 2) lv (.int v :: st)) : J l X g A nL k n h pc lv st := fun H locs ls h1 h2 h3 => lv_bipush F.1 F.2.1 hdg hv (kk H locs ls h1 h2 h3)
theorem j_sipush (F : Fx l X g A own cc nL ret f mc ms) {z : Int} {v : Int32} (hdg : decode cc pc = .ok (.sipush z, 3)) (hv : (Int16.ofInt z).toInt32 = v) (kk : J l X g A nL k n h (pc + 3) lv (.int v :: st)) : J l X g A nL k n h pc lv st := fun H locs ls h1 h2 h3 => lv_sipush F.1 F.2.1 hdg hv (kk H locs ls h1 h2 h3)
theorem j_lconst (F : Fx l X g A own cc nL ret f mc ms) {z : Fin 2} {v : Int64} (hdg : decode cc pc = .ok (.lconst z, 1)) (hv : Int64.ofNat (z : Nat) = v) (kk : J l X g A nL k n h (pc + 1) lv (.long v :: st)) : J l X g A nL k n h pc lv st := fun H locs ls h1 h2 h3 => lv_lconst F.1 F.2.1 hdg hv (kk H locs ls h1 h2 h3)
theorem j_iload_n (F : Fx l X g A own cc nL ret f mc ms) {i : Fin 4} {x : Int32} (hdg : decode cc pc = .ok (.iload_n i, 1)) (hl : lget lv (i : Nat) = some (.int x)) (kk : J l X g A nL k n h (pc + 1) lv (.int x :: st)) : J l X g A nL k n h pc lv st := fun H locs ls h1 h2 h3 => lv_iload_n F.1 F.2.1 hdg rfl (lget_at h3 hl) (kk H locs ls h1 h2 h3)
theorem j_iload (F : Fx l X g A own cc nL ret f mc ms) {i : Nat} {x : Int32} (hdg : decode cc pc = .ok (.iload i, 2)) (hl : lget lv i = some (.int x)) (kk : J l X g A nL k n h (pc + 2) lv (.int x :: st)) : J l X g A nL k n h pc lv st := fun H locs ls h1 h2 h3 => lv_iload F.1 F.2.1 hdg (lget_at h3 hl) (kk H locs ls h1 h2 h3)
theorem j_aload_n (F : Fx l X g A own cc nL ret f mc ms) {i : Fin 4} {x : Nat} (hdg : decode cc pc = .ok (.aload_n i, 1)) (hl : lget lv (i : Nat) = some (.ref x)) (kk : J l X g A nL k n h (pc + 1) lv (.ref x :: st)) : J l X g A nL k n h pc lv st := fun H locs ls h1 h2 h3 => lv_aload_n F.1 F.2.1 hdg rfl (lget_at h3 hl) (kk H locs ls h1 h2 h3)
theorem j_aload (F : Fx l X g A own cc nL ret f mc ms) {i : Nat} {x : Nat} (hdg : decode cc pc = .ok (.aload i, 2)) (hl : lget lv i = some (.ref x)) (kk : J l X g A nL k n h (pc + 2) lv (.ref x :: st)) : J l X g A nL k n h pc lv st := fun H locs ls h1 h2 h3 => lv_aload F.1 F.2.1 hdg (lget_at h3 hl) (kk H locs ls h1 h2 h3)
theorem j_aload_nN (F : Fx l X g A own cc nL ret f mc ms) {i : Fin 4} (hdg : decode cc pc = .ok (.aload_n i, 1)) (hl : lget lv (i : Nat) = some .null) (kk : J l X g A nL k n h (pc + 1) lv (.null :: st)) : J l X g A nL k n h pc lv st := fun H locs ls h1 h2 h3 => lv_aload_nN F.1 F.2.1 hdg rfl (lget_at h3 hl) (kk H locs ls h1 h2 h3)
theorem j_aloadN (F : Fx l X g A own cc nL ret f mc ms) {i : Nat} (hdg : decode cc pc = .ok (.aload i, 2)) (hl : lget lv i = some .null) (kk : J l X g A nL k n h (pc + 2) lv (.null :: st)) : J l X g A nL k n h pc lv st := fun H locs ls h1 h2 h3 => lv_aloadN F.1 F.2.1 hdg (lget_at h3 hl) (kk H locs ls h1 h2 h3)
theorem j_aload_nq (F : Fx l X g A own cc nL ret f mc ms) {i : Fin 4} {x : Option Nat} (hdg : decode cc pc = .ok (.aload_n i, 1)) (hl : lget lv (i : Nat) = some (va_rf x)) (kk : J l X g A nL k n h (pc + 1) lv (va_rf x :: st)) : J l X g A nL k n h pc lv st := by
  cases x with
  | none => exact j_aload_nN F hdg hl kk
  | some a => exact j_aload_n F hdg hl kk
theorem j_aloadq (F : Fx l X g A own cc nL ret f mc ms) {i : Nat} {x : Option Nat} (hdg : decode cc pc = .ok (.aload i, 2)) (hl : lget lv i = some (va_rf x)) (kk : J l X g A nL k n h (pc + 2) lv (va_rf x :: st)) : J l X g A nL k n h pc lv st := by
  cases x with
  | none => exact j_aloadN F hdg hl kk
  | some a => exact j_aload F hdg hl kk
theorem j_istore_n (F : Fx l X g A own cc nL ret f mc ms) {i : Fin 4} {x : Int32} (hdg : decode cc pc = .ok (.istore_n i, 1)) (hi : (i : Nat) < nL) (kk : J l X g A nL k n h (pc + 1) (lset lv (i : Nat) (.int x)) st) : J l X g A nL k n h pc lv (.int x :: st) := fun H locs ls h1 h2 h3 => lv_istore_n F.1 F.2.1 hdg rfl h3.1 hi rfl (fun ls h4 => kk H locs ls h1 h2 (lset_ok h3.2 rfl h4))
theorem j_istore (F : Fx l X g A own cc nL ret f mc ms) {i : Nat} {x : Int32} (hdg : decode cc pc = .ok (.istore i, 2)) (hi : i < nL) (kk : J l X g A nL k n h (pc + 2) (lset lv i (.int x)) st) : J l X g A nL k n h pc lv (.int x :: st) := fun H locs ls h1 h2 h3 => lv_istore F.1 F.2.1 hdg h3.1 hi rfl (fun ls h4 => kk H locs ls h1 h2 (lset_ok h3.2 rfl h4))
theorem j_astore_n (F : Fx l X g A own cc nL ret f mc ms) {i : Fin 4} {x : Nat} (hdg : decode cc pc = .ok (.astore_n i, 1)) (hi : (i : Nat) < nL) (kk : J l X g A nL k n h (pc + 1) (lset lv (i : Nat) (.ref x)) st) : J l X g A nL k n h pc lv (.ref x :: st) := fun H locs ls h1 h2 h3 => lv_astore_n F.1 F.2.1 hdg rfl h3.1 hi rfl (fun ls h4 => kk H locs ls h1 h2 (lset_ok h3.2 rfl h4))
theorem j_astore (F : Fx l X g A own cc nL ret f mc ms) {i : Nat} {x : Nat} (hdg : decode cc pc = .ok (.astore i, 2)) (hi : i < nL) (kk : J l X g A nL k n h (pc + 2) (lset lv i (.ref x)) st) : J l X g A nL k n h pc lv (.ref x :: st) := fun H locs ls h1 h2 h3 => lv_astore F.1 F.2.1 hdg h3.1 hi rfl (fun ls h4 => kk H locs ls h1 h2 (lset_ok h3.2 rfl h4))
theorem j_astore_nN (F : Fx l X g A own cc nL ret f mc ms) {i : Fin 4}  (hdg : decode cc pc = .ok (.astore_n i, 1)) (hi : (i : Nat) < nL) (kk : J l X g A nL k n h (pc + 1) (lset lv (i : Nat) (.null)) st) : J l X g A nL k n h pc lv (.null :: st) := fun H locs ls h1 h2 h3 => lv_astore_nN F.1 F.2.1 hdg rfl h3.1 hi rfl (fun ls h4 => kk H locs ls h1 h2 (lset_ok h3.2 rfl h4))
theorem j_astoreN (F : Fx l X g A own cc nL ret f mc ms) {i : Nat}  (hdg : decode cc pc = .ok (.astore i, 2)) (hi : i < nL) (kk : J l X g A nL k n h (pc + 2) (lset lv i (.null)) st) : J l X g A nL k n h pc lv (.null :: st) := fun H locs ls h1 h2 h3 => lv_astoreN F.1 F.2.1 hdg h3.1 hi rfl (fun ls h4 => kk H locs ls h1 h2 (lset_ok h3.2 rfl h4))
theorem j_astore_nq (F : Fx l X g A own cc nL ret f mc ms) {i : Fin 4} {x : Option Nat} (hdg : decode cc pc = .ok (.astore_n i, 1)) (hi : (i : Nat) < nL) (kk : J l X g A nL k n h (pc + 1) (lset lv (i : Nat) (va_rf x)) st) : J l X g A nL k n h pc lv (va_rf x :: st) := by
  cases x with
  | none => exact j_astore_nN F hdg hi kk
  | some a => exact j_astore_n F hdg hi kk
theorem j_astoreq (F : Fx l X g A own cc nL ret f mc ms) {i : Nat} {x : Option Nat} (hdg : decode cc pc = .ok (.astore i, 2)) (hi : i < nL) (kk : J l X g A nL k n h (pc + 2) (lset lv i (va_rf x)) st) : J l X g A nL k n h pc lv (va_rf x :: st) := by
  cases x with
  | none => exact j_astoreN F hdg hi kk
  | some a => exact j_astore F hdg hi kk
theorem j_iinc (F : Fx l X g A own cc nL ret f mc ms) {i : Nat} {z : Int} {x v : Int32} (hdg : decode cc pc = .ok (.iinc i z, 3)) (hl : lget lv i = some (.int x)) (hv : x + Int32.ofInt z = v) (hi : i < nL) (kk : J l X g A nL k n h (pc + 3) (lset lv i (.int v)) st) : J l X g A nL k n h pc lv st := fun H locs ls h1 h2 h3 => by
  obtain ⟨j, hj⟩ := List.getElem?_of_mem (lget_mem hl)
  exact lv_iinc F.1 F.2.1 hdg h3.1 hj hv hi rfl (fun ls h4 => kk H locs ls h1 h2 (lset_ok h3.2 rfl h4))
theorem j_iadd (F : Fx l X g A own cc nL ret f mc ms) {x y : Int32} (hdg : decode cc pc = .ok (.iadd, 1)) (kk : J l X g A nL k n h (pc + 1) lv (.int (x + y) :: st)) : J l X g A nL k n h pc lv (.int y :: .int x :: st) := fun H locs ls h1 h2 h3 => lv_iadd F.1 F.2.1 hdg (kk H locs ls h1 h2 h3)
theorem j_isub (F : Fx l X g A own cc nL ret f mc ms) {x y : Int32} (hdg : decode cc pc = .ok (.isub, 1)) (kk : J l X g A nL k n h (pc + 1) lv (.int (x - y) :: st)) : J l X g A nL k n h pc lv (.int y :: .int x :: st) := fun H locs ls h1 h2 h3 => lv_isub F.1 F.2.1 hdg (kk H locs ls h1 h2 h3)
theorem j_imul (F : Fx l X g A own cc nL ret f mc ms) {x y : Int32} (hdg : decode cc pc = .ok (.imul, 1)) (kk : J l X g A nL k n h (pc + 1) lv (.int (x * y) :: st)) : J l X g A nL k n h pc lv (.int y :: .int x :: st) := fun H locs ls h1 h2 h3 => lv_imul F.1 F.2.1 hdg (kk H locs ls h1 h2 h3)
theorem j_iand (F : Fx l X g A own cc nL ret f mc ms) {x y : Int32} (hdg : decode cc pc = .ok (.iand, 1)) (kk : J l X g A nL k n h (pc + 1) lv (.int (x &&& y) :: st)) : J l X g A nL k n h pc lv (.int y :: .int x :: st) := fun H locs ls h1 h2 h3 => lv_iand F.1 F.2.1 hdg (kk H locs ls h1 h2 h3)
theorem j_ior (F : Fx l X g A own cc nL ret f mc ms) {x y : Int32} (hdg : decode cc pc = .ok (.ior, 1)) (kk : J l X g A nL k n h (pc + 1) lv (.int (x ||| y) :: st)) : J l X g A nL k n h pc lv (.int y :: .int x :: st) := fun H locs ls h1 h2 h3 => lv_ior F.1 F.2.1 hdg (kk H locs ls h1 h2 h3)
theorem j_idiv (F : Fx l X g A own cc nL ret f mc ms) {x y : Int32} (hdg : decode cc pc = .ok (.idiv, 1)) (hne : ¬ y = 0) (kk : J l X g A nL k n h (pc + 1) lv (.int (x / y) :: st)) : J l X g A nL k n h pc lv (.int y :: .int x :: st) := fun H locs ls h1 h2 h3 => lv_idiv F.1 F.2.1 hdg hne (kk H locs ls h1 h2 h3)
theorem j_ishl (F : Fx l X g A own cc nL ret f mc ms) {x y : Int32} (hdg : decode cc pc = .ok (.ishl, 1)) (kk : J l X g A nL k n h (pc + 1) lv (.int (x <<< (y &&& 31)) :: st)) : J l X g A nL k n h pc lv (.int y :: .int x :: st) := fun H locs ls h1 h2 h3 => lv_ishl F.1 F.2.1 hdg (kk H locs ls h1 h2 h3)
theorem j_ishr (F : Fx l X g A own cc nL ret f mc ms) {x y : Int32} (hdg : decode cc pc = .ok (.ishr, 1)) (kk : J l X g A nL k n h (pc + 1) lv (.int (x >>> (y &&& 31)) :: st)) : J l X g A nL k n h pc lv (.int y :: .int x :: st) := fun H locs ls h1 h2 h3 => lv_ishr F.1 F.2.1 hdg (kk H locs ls h1 h2 h3)
theorem j_iushr (F : Fx l X g A own cc nL ret f mc ms) {x y v : Int32} (hdg : decode cc pc = .ok (.iushr, 1)) (hv : (x.toUInt32 >>> (y.toUInt32 &&& Int32.toUInt32 31)).toInt32 = v) (kk : J l X g A nL k n h (pc + 1) lv (.int v :: st)) : J l X g A nL k n h pc lv (.int y :: .int x :: st) := fun H locs ls h1 h2 h3 => lv_iushr F.1 F.2.1 hdg hv (kk H locs ls h1 h2 h3)
theorem j_i2l (F : Fx l X g A own cc nL ret f mc ms) {x : Int32} (hdg : decode cc pc = .ok (.i2l, 1)) (kk : J l X g A nL k n h (pc + 1) lv (.long x.toInt64 :: st)) : J l X g A nL k n h pc lv (.int x :: st) := fun H locs ls h1 h2 h3 => lv_i2l F.1 F.2.1 hdg rfl (kk H locs ls h1 h2 h3)
theorem j_dup (F : Fx l X g A own cc nL ret f mc ms) {va : Value} (hdg : decode cc pc = .ok (.dup, 1)) (hva : va.category = 1) (kk : J l X g A nL k n h (pc + 1) lv (va :: va :: st)) : J l X g A nL k n h pc lv (va :: st) := fun H locs ls h1 h2 h3 => lv_dup F.1 F.2.1 hdg hva (kk H locs ls h1 h2 h3)
theorem j_dup2_11 (F : Fx l X g A own cc nL ret f mc ms) {va vb : Value} (hdg : decode cc pc = .ok (.dup2, 1)) (hva : va.category = 1) (hvb : vb.category = 1) (kk : J l X g A nL k n h (pc + 1) lv (va :: vb :: va :: vb :: st)) : J l X g A nL k n h pc lv (va :: vb :: st) := fun H locs ls h1 h2 h3 => lv_dup2_11 F.1 F.2.1 hdg hva hvb (kk H locs ls h1 h2 h3)
theorem j_pop (F : Fx l X g A own cc nL ret f mc ms) {va : Value} (hdg : decode cc pc = .ok (.pop, 1)) (hva : va.category = 1) (kk : J l X g A nL k n h (pc + 1) lv st) : J l X g A nL k n h pc lv (va :: st) := fun H locs ls h1 h2 h3 => lv_pop F.1 F.2.1 hdg hva (kk H locs ls h1 h2 h3)
theorem j_lcmp (F : Fx l X g A own cc nL ret f mc ms) {x y : Int64} (hdg : decode cc pc = .ok (.lcmp, 1)) (kk : J l X g A nL k n h (pc + 1) lv (.int (lg_cmp x y) :: st)) : J l X g A nL k n h pc lv (.long y :: .long x :: st) := fun H locs ls h1 h2 h3 => W.lcmp F.1 F.2.1 hdg (kk H locs ls h1 h2 h3)
/-- a number gets another face -/
theorem j_int {x y : Int32} (e : x = y) (kk : J l X g A nL k n h pc lv (.int y :: st)) : J l X g A nL k n h pc lv (.int x :: st) := by rw [e]; exact kk
theorem j_goto (F : Fx l X g A own cc nL ret f mc ms) {off : Int} (tgt : Nat) (hdg : decode cc pc = .ok (.goto off, 3)) (ht : (pc : Int) + off = (tgt : Int)) (kk : J l X g A nL k n h tgt lv st) : J l X g A nL k n h pc lv st := fun H locs ls h1 h2 h3 => lv_goto F.1 F.2.1 hdg ht (kk H locs ls h1 h2 h3)
theorem j_if_eq (F : Fx l X g A own cc nL ret f mc ms) {x : Int32} {off : Int} (tgt : Nat) (hdg : decode cc pc = .ok (.ifCond .eq off, 3)) (ht : (pc : Int) + off = (tgt : Int)) (kt : x = 0 → J l X g A nL k n h tgt lv st) (kf : ¬ x = 0 → J l X g A nL k n h (pc + 3) lv st) : J l X g A nL k n h pc lv (.int x :: st) := fun H locs ls h1 h2 h3 => lv_if_eq F.1 F.2.1 hdg ht (fun c => kt c H locs ls h1 h2 h3) (fun c => kf c H locs ls h1 h2 h3)
theorem j_icmp_eq (F : Fx l X g A own cc nL ret f mc ms) {x y : Int32} {off : Int} (tgt : Nat) (hdg : decode cc pc = .ok (.if_icmp .eq off, 3)) (ht : (pc : Int) + off = (tgt : Int)) (kt : x = y → J l X g A nL k n h tgt lv st) (kf : ¬ x = y → J l X g A nL k n h (pc + 3) lv st) : J l X g A nL k n h pc lv (.int y :: .int x :: st) := fun H locs ls h1 h2 h3 => lv_icmp_eq F.1 F.2.1 hdg ht (fun c => kt c H locs ls h1 h2 h3) (fun c => kf c H locs ls h1 h2 h3)
theorem j_if_ne (F : Fx l X g A own cc nL ret f mc ms) {x : Int32} {off : Int} (tgt : Nat) (hdg : decode cc pc = .ok (.ifCond .ne off, 3)) (ht : (pc : Int) + off = (tgt : Int)) (kt : ¬ x = 0 → J l X g A nL k n h tgt lv st) (kf : x = 0 → J l X g A nL k n h (pc + 3) lv st) : J l X g A nL k n h pc lv (.int x :: st) := fun H locs ls h1 h2 h3 => lv_if_ne F.1 F.2.1 hdg ht (fun c => kt c H locs ls h1 h2 h3) (fun c => kf c H locs ls h1 h2 h3)
theorem j_icmp_ne (F : Fx l X g A own cc nL ret f mc ms) {x y : Int32} {off : Int} (tgt : Nat) (hdg : decode cc pc = .ok (.if_icmp .ne off, 3)) (ht : (pc : Int) + off = (tgt : Int)) (kt : ¬ x = y → J l X g A nL k n h tgt lv st) (kf : x = y → J l X g A nL k n h (pc + 3) lv st) : J l X g A nL k n h pc lv (.int y :: .int x :: st) := fun H locs ls h1 h2 h3 => lv_icmp_ne F.1 F.2.1 hdg ht (fun c => kt c H locs ls h1 h2 h3) (fun c => kf c H locs ls h1 h2 h3)
theorem j_if_lt (F : Fx l X g A own cc nL ret f mc ms) {x : Int32} {off : Int} (tgt : Nat) (hdg : decode cc pc = .ok (.ifCond .lt off, 3)) (ht : (pc : Int) + off = (tgt : Int)) (kt : x < 0 → J l X g A nL k n h tgt lv st) (kf : ¬ x < 0 → J l X g A nL k n h (pc + 3) lv st) : J l X g A nL k n h pc lv (.int x :: st) := fun H locs ls h1 h2 h3 => lv_if_lt F.1 F.2.1 hdg ht (fun c => kt c H locs ls h1 h2 h3) (fun c => kf c H locs ls h1 h2 h3)
theorem j_icmp_lt (F : Fx l X g A own cc nL ret f mc ms) {x y : Int32} {off : Int} (tgt : Nat) (hdg : decode cc pc = .ok (.if_icmp .lt off, 3)) (ht : (pc : Int) + off = (tgt : Int)) (kt : x < y → J l X g A nL k n h tgt lv st) (kf : ¬ x < y → J l X g A nL k n h (pc + 3) lv st) : J l X g A nL k n h pc lv (.int y :: .int x :: st) := fun H locs ls h1 h2 h3 => lv_icmp_lt F.1 F.2.1 hdg ht (fun c => kt c H locs ls h1 h2 h3) (fun c => kf c H locs ls h1 h2 h3)
theorem j_if_ge (F : Fx l X g A own cc nL ret f mc ms) {x : Int32} {off : Int} (tgt : Nat) (hdg : decode cc pc = .ok (.ifCond .ge off, 3)) (ht : (pc : Int) + off = (tgt : Int)) (kt : 0 ≤ x → J l X g A nL k n h tgt lv st) (kf : ¬ 0 ≤ x → J l X g A nL k n h (pc + 3) lv st) : J l X g A nL k n h pc lv (.int x :: st) := fun H locs ls h1 h2 h3 => lv_if_ge F.1 F.2.1 hdg ht (fun c => kt c H locs ls h1 h2 h3) (fun c => kf c H locs ls h1 h2 h3)
theorem j_icmp_ge (F : Fx l X g A own cc nL ret f mc ms) {x y : Int32} {off : Int} (tgt : Nat) (hdg : decode cc pc = .ok (.if_icmp .ge off, 3)) (ht : (pc : Int) + off = (tgt : Int)) (kt : y ≤ x → J l X g A nL k n h tgt lv st) (kf : ¬ y ≤ x → J l X g A nL k n h (pc + 3) lv st) : J l X g A nL k n h pc lv (.int y :: .int x :: st) := fun H locs ls h1 h2 h3 => lv_icmp_ge F.1 F.2.1 hdg ht (fun c => kt c H locs ls h1 h2 h3) (fun c => kf c H locs ls h1 h2 h3)
theorem j_if_gt (F : Fx l X g A own cc nL ret f mc ms) {x : Int32} {off : Int} (tgt : Nat) (hdg : decode cc pc = .ok (.ifCond .gt off, 3)) (ht : (pc : Int) + off = (tgt : Int)) (kt : 0 < x → J l X g A nL k n h tgt lv st) (kf : ¬ 0 < x → J l X g A nL k n h (pc + 3) lv st) : J l X g A nL k n h pc lv (.int x :: st) := fun H locs ls h1 h2 h3 => lv_if_gt F.1 F.2.1 hdg ht (fun c => kt c H locs ls h1 h2 h3) (fun c => kf c H locs ls h1 h2 h3)
theorem j_icmp_gt (F : Fx l X g A own cc nL ret f mc ms) {x y : Int32} {off : Int} (tgt : Nat) (hdg : decode cc pc = .ok (.if_icmp .gt off, 3)) (ht : (pc : Int) + off = (tgt : Int)) (kt : y < x → J l X g A nL k n h tgt lv st) (kf : ¬ y < x → J l X g A nL k n h (pc + 3) lv st) : J l X g A nL k n h pc lv (.int y :: .int x :: st) := fun H locs ls h1 h2 h3 => lv_icmp_gt F.1 F.2.1 hdg ht (fun c => kt c H locs ls h1 h2 h3) (fun c => kf c H locs ls h1 h2 h3)
theorem j_if_le (F : Fx l X g A own cc nL ret f mc ms) {x : Int32} {off : Int} (tgt : Nat) (hdg : decode cc pc = .ok (.ifCond .le off, 3)) (ht : (pc : Int) + off = (tgt : Int)) (kt : x ≤ 0 → J l X g A nL k n h tgt lv st) (kf : ¬ x ≤ 0 → J l X g A nL k n h (pc + 3) lv st) : J l X g A nL k n h pc lv (.int x :: st) := fun H locs ls h1 h2 h3 => lv_if_le F.1 F.2.1 hdg ht (fun c => kt c H locs ls h1 h2 h3) (fun c => kf c H locs ls h1 h2 h3)
theorem j_icmp_le (F : Fx l X g A own cc nL ret f mc ms) {x y : Int32} {off : Int} (tgt : Nat) (hdg : decode cc pc = .ok (.if_icmp .le off, 3)) (ht : (pc : Int) + off = (tgt : Int)) (kt : x ≤ y → J l X g A nL k n h tgt lv st) (kf : ¬ x ≤ y → J l X g A nL k n h (pc + 3) lv st) : J l X g A nL k n h pc lv (.int y :: .int x :: st) := fun H locs ls h1 h2 h3 => lv_icmp_le F.1 F.2.1 hdg ht (fun c => kt c H locs ls h1 h2 h3) (fun c => kf c H locs ls h1 h2 h3)
theorem j_ifnull (F : Fx l X g A own cc nL ret f mc ms) {x : Nat} {off : Int} (hdg : decode cc pc = .ok (.ifnull off, 3)) (kk : J l X g A nL k n h (pc + 3) lv st) : J l X g A nL k n h pc lv (.ref x :: st) := fun H locs ls h1 h2 h3 => lv_ifnull F.1 F.2.1 hdg (kk H locs ls h1 h2 h3)
theorem j_ifnonnull (F : Fx l X g A own cc nL ret f mc ms) {x : Nat} {off : Int} (tgt : Nat) (hdg : decode cc pc = .ok (.ifnonnull off, 3)) (ht : (pc : Int) + off = (tgt : Int)) (kk : J l X g A nL k n h tgt lv st) : J l X g A nL k n h pc lv (.ref x :: st) := fun H locs ls h1 h2 h3 => lv_ifnonnull F.1 F.2.1 hdg ht (kk H locs ls h1 h2 h3)
theorem j_ifnullN (F : Fx l X g A own cc nL ret f mc ms) {off : Int} (tgt : Nat) (hdg : decode cc pc = .ok (.ifnull off, 3)) (ht : (pc : Int) + off = (tgt : Int)) (kk : J l X g A nL k n h tgt lv st) : J l X g A nL k n h pc lv (.null :: st) := fun H locs ls h1 h2 h3 => lv_ifnullN F.1 F.2.1 hdg ht (kk H locs ls h1 h2 h3)
theorem j_ifnonnullN (F : Fx l X g A own cc nL ret f mc ms) {off : Int} (hdg : decode cc pc = .ok (.ifnonnull off, 3)) (kk : J l X g A nL k n h (pc + 3) lv st) : J l X g A nL k n h pc lv (.null :: st) := fun H locs ls h1 h2 h3 => lv_ifnonnullN F.1 F.2.1 hdg (kk H locs ls h1 h2 h3)
theorem j_acmp_eq (F : Fx l X g A own cc nL ret f mc ms) {rx ry : Option Nat} {off : Int} (tgt : Nat) (hdg : decode cc pc = .ok (.if_acmp .eq off, 3)) (ht : (pc : Int) + off = (tgt : Int)) (kt : rx = ry → J l X g A nL k n h tgt lv st) (kf : ¬ rx = ry → J l X g A nL k n h (pc + 3) lv st) : J l X g A nL k n h pc lv (va_rf ry :: va_rf rx :: st) := fun H locs ls h1 h2 h3 => lv_acmp_eq F.1 F.2.1 hdg ht (fun c => kt c H locs ls h1 h2 h3) (fun c => kf c H locs ls h1 h2 h3)
theorem j_acmp_ne (F : Fx l X g A own cc nL ret f mc ms) {rx ry : Option Nat} {off : Int} (tgt : Nat) (hdg : decode cc pc = .ok (.if_acmp .ne off, 3)) (ht : (pc : Int) + off = (tgt : Int)) (kt : ¬ rx = ry → J l X g A nL k n h tgt lv st) (kf : rx = ry → J l X g A nL k n h (pc + 3) lv st) : J l X g A nL k n h pc lv (va_rf ry :: va_rf rx :: st) := fun H locs ls h1 h2 h3 => lv_acmp_ne F.1 F.2.1 hdg ht (fun c => kt c H locs ls h1 h2 h3) (fun c => kf c H locs ls h1 h2 h3)
theorem j_null (F : Fx l X g A own cc nL ret f mc ms) (hdg : decode cc pc = .ok (.aconst_null, 1)) (kk : J l X g A nL k n h (pc + 1) lv (.null :: st)) : J l X g A nL k n h pc lv st := fun H locs ls h1 h2 h3 => lv_null F.1 F.2.1 hdg (kk H locs ls h1 h2 h3)
theorem j_ldc (F : Fx l X g A own cc nL ret f mc ms) {index : Nat} {v : Int32} (hw : Cond.constant own index v ∈ wU) (hdg : decode cc pc = .ok (.ldc index, 2)) (kk : J l X g A nL k n h (pc + 2) lv (.int v :: st)) : J l X g A nL k n h pc lv st := fun H locs ls h1 h2 h3 => lv_ldc F.1 F.2.1 F.ow (F.w hw) hdg (kk H locs ls h1 h2 h3)
theorem j_tableIn (F : Fx l X g A own cc nL ret f mc ms) {dflt lo hi : Int} {offs : Array Int} {len : Nat} {x : Int32} {off : Int} (tgt : Nat) (hdg : decode cc pc = .ok (.tableswitch dflt lo hi offs, len)) (q1 : ¬ x.toInt < lo) (q2 : ¬ hi < x.toInt) (ho : offs[(x.toInt - lo).toNat]? = some off) (ht : (pc : Int) + off = (tgt : Int)) (kk : J l X g A nL k n h tgt lv st) : J l X g A nL k n h pc lv (.int x :: st) := fun H locs ls h1 h2 h3 => lv_tableIn F.1 F.2.1 hdg q1 q2 ho ht (kk H locs ls h1 h2 h3)
theorem j_tableOut (F : Fx l X g A own cc nL ret f mc ms) {dflt lo hi : Int} {offs : Array Int} {len : Nat} {x : Int32} (tgt : Nat) (hdg : decode cc pc = .ok (.tableswitch dflt lo hi offs, len)) (hq : x.toInt < lo ∨ hi < x.toInt) (ht : (pc : Int) + dflt = (tgt : Int)) (kk : J l X g A nL k n h tgt lv st) : J l X g A nL k n h pc lv (.int x :: st) := fun H locs ls h1 h2 h3 => lv_tableOut F.1 F.2.1 hdg hq ht (kk H locs ls h1 h2 h3)
theorem j_lookup (F : Fx l X g A own cc nL ret f mc ms) {dflt : Int} {ps : Array (Int × Int)} {len : Nat} {x : Int32} {off : Int} (tgt : Nat) (hdg : decode cc pc = .ok (.lookupswitch dflt ps, len)) (hp : (ps.toList.zip (ps.toList.drop 1)).all (fun (a, next) => a.1 < next.1) = true) (ho : Op.lookupswitch.offset ps.toList dflt x.toInt = off) (ht : (pc : Int) + off = (tgt : Int)) (kk : J l X g A nL k n h tgt lv st) : J l X g A nL k n h pc lv (.int x :: st) := fun H locs ls h1 h2 h3 => lv_lookup F.1 F.2.1 hdg hp ho ht (kk H locs ls h1 h2 h3)
theorem j_objInit (F : Fx l X g A own cc nL ret f mc ms) {index : Nat} {a : Nat} (hf : 1 ≤ f) (hw : Cond.methodLink own index objectInit ∈ wU) (hr : (st.map fun v => v.category).sum ≤ 8) (hdg : decode cc pc = .ok (.invokespecial index, 3)) (kk : J l X g A nL k n h (pc + 3) lv st) : J l X g A nL k n h pc lv (.ref a :: st) := fun H locs ls h1 h2 h3 => by
  have q1 := F.fr
  have q2 := F.lo
  exact W.objInit F.1 F.2.1 F.ow (F.w hw) (F.w oi_inst) (F.w oi_code) rfl (h3.1.1.trans F.2.2.1.symm) rfl hdg (by omega) (by show 2 * 0 + _ + 12 ≤ _; omega) (kk H locs ls h1 h2 h3)
theorem j_get (F : Fx l X g A own cc nL ret f mc ms) {index ci i : Nat} {a : Nat} {fs : List Value} {v : Value} (hw : GW own index ci i) (ha : h a = some (.inr (ci, fs))) (hv : fs[i]? = some v) (hdg : decode cc pc = .ok (.getfield index, 3)) (kk : J l X g A nL k n h (pc + 3) lv (v :: st)) : J l X g A nL k n h pc lv (.ref a :: st) := fun H locs ls h1 h2 h3 => by
  obtain ⟨C, T, N, hc, hin, hk, hl⟩ := hw
  exact va_get F.1 F.2.1 F.2.2.2.2.1 hin F.ow F.K (h1.p1 ha) 0 rfl hc i hk (F.w hl) (fun _ q => q) hv hdg (kk H locs ls h1 h2 h3)
theorem j_getN (F : Fx l X g A own cc nL ret f mc ms) {index ci i : Nat} {a : Nat} {fs : List Value} {v : Value} (hw : GN own index ci i) (ha : h a = some (.inr (ci, fs))) (hv : fs[i]? = some v) (hdg : decode cc pc = .ok (.getfield index, 3)) (kk : J l X g A nL k n h (pc + 3) lv (v :: st)) : J l X g A nL k n h pc lv (.ref a :: st) := fun H locs ls h1 h2 h3 => by
  obtain ⟨C, T, N, hc, hin, hk, hl⟩ := hw
  exact va_getN F.1 F.2.1 F.2.2.2.2.1 hin F.ow F.K (h1.p1 ha) 0 rfl hc i hk (va_Nw.use (by rfl) (F.E.1 _ hl)) (fun _ q => q) hv hdg (kk H locs ls h1 h2 h3)
theorem j_put (F : Fx l X g A own cc nL ret f mc ms) {index ci i : Nat} {ty : FieldType} {a : Nat} {fs : List Value} {v : Value} (hw : PW own index ci i ty false) (ha : h a = some (.inr (ci, fs))) (hn : narrow ty v = v) (hfit : fits ty v = true) (hlen : i < fs.length) (hdg : decode cc pc = .ok (.putfield index, 3)) (kk : J l X g A nL k n (hUp h a (.inr (ci, fs.set i v))) (pc + 3) lv st) : J l X g A nL k n h pc lv (v :: .ref a :: st) := fun H locs ls h1 h2 h3 => by
  obtain ⟨C, T, N, ty0, hc, hin, hk, hl, hty, hnm, hfin, hC, hd⟩ := hw
  have hap := va_apart (own := own) F.2.2.2.2.1 hin ty0 hty hnm F.K hc
  obtain ⟨qa, qA⟩ := h1 a _ ha
  obtain ⟨r, e1, cell, q1, q2, q3, q4⟩ := qa
  have hr : r = (C, T, N) := Option.some.inj (e1.symm.trans hc)
  subst hr
  obtain ⟨hS, hfc, kC, hkC, hkind⟩ := F.K.1 ci _ hc
  obtain ⟨cf, kf, fi, fd, hi, hsl⟩ := hS i hk
  have hlay := F.2.2.2.2.1 _ (hin _ (u_in_lay hk))
  unfold u_lay at hlay
  rw [if_neg (by rw [hfin]; decide)] at hlay
  have hst := (u_facts hfc hkC (u_lays F.2.2.2.2.1 hin hk) hi).1
  have h6 := u_store hfc hkC hkind hlay hi hd hn hfit
  refine W.putK F.1 F.2.1 (f := fd) ⟨F.ow, F.w hl, ⟨_, _, _, hi⟩, hst⟩ (by rw [q2]; exact h6) q1 q3 (by rw [hsl]; exact k2_hasslot (q4 i hk)) rfl rfl hdg fun H' e1 e2 e3 => ?_
  rw [hsl] at e1 ⊢
  exact kk H' _ ls (h1.up qA ⟨_, hc, t_OB.to (V := updV (vp_V fs) i v) ⟨_, e1, q2, q3, t_set q4 hap hk v⟩ (fun j _ => vp_updV_set hlen v j)⟩ e3) (h2.put e2 e3 qA) h3
theorem j_putF (F : Fx l X g A own cc nL ret f mc ms) {index ci i : Nat} {ty : FieldType} {a : Nat} {fs : List Value} {v : Value} (hw : PW own index ci i ty true) {T : u_T} {N : Nat} (hin2 : (xN X).name = "<init>") (hci : vwCl[ci]? = some (own, T, N)) (ha : h a = some (.inr (ci, fs))) (hn : narrow ty v = v) (hfit : fits ty v = true) (hlen : i < fs.length) (hdg : decode cc pc = .ok (.putfield index, 3)) (kk : J l X g A nL k n (hUp h a (.inr (ci, fs.set i v))) (pc + 3) lv st) : J l X g A nL k n h pc lv (v :: .ref a :: st) := fun H locs ls h1 h2 h3 => by
  obtain ⟨C, T_, N_, ty0, hc, hin, hk, hl, hty, hnm, hfin, hC, hd⟩ := hw
  have hap := va_apart (own := own) F.2.2.2.2.1 hin ty0 hty hnm F.K hc
  obtain ⟨qa, qA⟩ := h1 a _ ha
  obtain ⟨r, e1, cell, q1, q2, q3, q4⟩ := qa
  have hr : r = (C, T_, N_) := Option.some.inj (e1.symm.trans hc)
  subst hr
  obtain ⟨hS, hfc, kC, hkC, hkind⟩ := F.K.1 ci _ hc
  obtain ⟨cf, kf, fi, fd, hi, hsl⟩ := hS i hk
  have hlay := F.2.2.2.2.1 _ (hin _ (u_in_lay hk))
  unfold u_lay at hlay
  rw [if_pos hfin] at hlay
  have hCo : C = own := by have := hc.symm.trans hci; simp at this; exact this.1
  have hst := (u_facts hfc hkC (u_lays F.2.2.2.2.1 hin hk) hi).1
  have hcf : (xM X).cls = cf := by
    obtain ⟨_, _, c', _, _, _, -, -, hf', -, -, -, hown2, -⟩ := Cond.laysFinal_spec hlay
    have e1 : c' = cf := by have := hi.symm.trans hf'; simp at this; exact this.1.symm
    rw [show (T_ i).1 = own by rw [hC]; exact hCo] at hown2
    rw [← e1]; exact Option.some.inj (F.ow.symm.trans hown2)
  have h6 := u_fits hfc hkC hkind (Or.inr hlay) hi hd hn hfit
  refine W.putFinK F.1 F.2.1 F.ow (F.w hl) hi hst hcf hin2 (by rw [q2]; exact h6) q1 q3 (by rw [hsl]; exact k2_hasslot (q4 i hk)) rfl rfl hdg fun H' e1 e2 e3 => ?_
  rw [hsl] at e1 ⊢
  exact kk H' _ ls (h1.up qA ⟨_, hc, t_OB.to (V := updV (vp_V fs) i v) ⟨_, e1, q2, q3, t_set q4 hap hk v⟩ (fun j _ => vp_updV_set hlen v j)⟩ e3) (h2.put e2 e3 qA) h3
theorem j_putN (F : Fx l X g A own cc nL ret f mc ms) {index ci i : Nat} {ty : FieldType} {a : Nat} {fs : List Value} {v : Value} (hw : PN own index ci i ty) (ha : h a = some (.inr (ci, fs))) (hn : narrow ty v = v) (hfit : fits ty v = true) (hlen : i < fs.length) (hdg : decode cc pc = .ok (.putfield index, 3)) (kk : J l X g A nL k n (hUp h a (.inr (ci, fs.set i v))) (pc + 3) lv st) : J l X g A nL k n h pc lv (v :: .ref a :: st) := fun H locs ls h1 h2 h3 => by
  obtain ⟨C, T, N, ty0, hc, hin, hk, hl, hty, hnm, hfin, hd⟩ := hw
  have hap := va_apart (own := own) F.2.2.2.2.1 hin ty0 hty hnm F.K hc
  obtain ⟨qa, qA⟩ := h1 a _ ha
  obtain ⟨r, e1, cell, q1, q2, q3, q4⟩ := qa
  have hr : r = (C, T, N) := Option.some.inj (e1.symm.trans hc)
  subst hr
  obtain ⟨hS, hfc, kC, hkC, hkind⟩ := F.K.1 ci _ hc
  obtain ⟨cf, kf, fi, fd, hi, hsl⟩ := hS i hk
  have hlay := F.2.2.2.2.1 _ (hin _ (u_in_lay hk))
  unfold u_lay at hlay
  rw [if_neg (by rw [hfin]; decide)] at hlay
  have hst := (u_facts hfc hkC (u_lays F.2.2.2.2.1 hin hk) hi).1
  have h6 := u_store hfc hkC hkind hlay hi hd hn hfit
  refine va_WputK F.1 F.2.1 (f := fd) F.ow (va_Nw.use (by rfl) (F.E.1 _ hl)) hi hst (by rw [q2]; exact h6) q1 q3 (by rw [hsl]; exact k2_hasslot (q4 i hk)) rfl rfl hdg fun H' e1 e2 e3 => ?_
  rw [hsl] at e1 ⊢
  exact kk H' _ ls (h1.up qA ⟨_, hc, t_OB.to (V := updV (vp_V fs) i v) ⟨_, e1, q2, q3, t_set q4 hap hk v⟩ (fun j _ => vp_updV_set hlen v j)⟩ e3) (h2.put e2 e3 qA) h3
theorem j_iald (F : Fx l X g A own cc nL ret f mc ms) {a N : Nat} {r : Nat → Int32} {i : Int32} (ha : h a = some (aI g N r)) (hin : vp_in i N) (hdg : decode cc pc = .ok (.iaload, 1)) (kk : J l X g A nL k n h (pc + 1) lv (.int (r i.toNatClampNeg) :: st)) : J l X g A nL k n h pc lv (.int i :: .ref a :: st) := fun H locs ls h1 h2 h3 => va_iald F.1 F.2.1 F.K (h1.p1 ha) 0 0 rfl rfl hin hdg (kk H locs ls h1 h2 h3)
theorem j_lald (F : Fx l X g A own cc nL ret f mc ms) {a N : Nat} {r : Nat → Int64} {i : Int32} (ha : h a = some (aJ g N r)) (hin : vp_in i N) (hdg : decode cc pc = .ok (.laload, 1)) (kk : J l X g A nL k n h (pc + 1) lv (.long (r i.toNatClampNeg) :: st)) : J l X g A nL k n h pc lv (.int i :: .ref a :: st) := fun H locs ls h1 h2 h3 => va_lald F.1 F.2.1 F.K (h1.p1 ha) 0 4 rfl rfl hin hdg (kk H locs ls h1 h2 h3)
theorem j_aldR (F : Fx l X g A own cc nL ret f mc ms) {a N : Nat} {r : Nat → Option Nat} {i : Int32} (ha : h a = some (aR g N r)) (hin : vp_in i N) (hdg : decode cc pc = .ok (.aaload, 1)) (kk : J l X g A nL k n h (pc + 1) lv (va_rf (r i.toNatClampNeg) :: st)) : J l X g A nL k n h pc lv (.int i :: .ref a :: st) := fun H locs ls h1 h2 h3 => va_aldq F.1 F.2.1 F.K (h1.p1 ha) 0 1 rfl rfl hin hdg (kk H locs ls h1 h2 h3)
theorem j_aldE (F : Fx l X g A own cc nL ret f mc ms) {a N : Nat} {r : Nat → Option Nat} {i : Int32} (ha : h a = some (aE g N r)) (hin : vp_in i N) (hdg : decode cc pc = .ok (.aaload, 1)) (kk : J l X g A nL k n h (pc + 1) lv (va_rf (r i.toNatClampNeg) :: st)) : J l X g A nL k n h pc lv (.int i :: .ref a :: st) := fun H locs ls h1 h2 h3 => va_aldq F.1 F.2.1 F.K (h1.p1 ha) 0 2 rfl rfl hin hdg (kk H locs ls h1 h2 h3)
theorem j_aldII (F : Fx l X g A own cc nL ret f mc ms) {a N : Nat} {r : Nat → Option Nat} {i : Int32} (ha : h a = some (aII g N r)) (hin : vp_in i N) (hdg : decode cc pc = .ok (.aaload, 1)) (kk : J l X g A nL k n h (pc + 1) lv (va_rf (r i.toNatClampNeg) :: st)) : J l X g A nL k n h pc lv (.int i :: .ref a :: st) := fun H locs ls h1 h2 h3 => by
  have hlt : i.toNatClampNeg < N := Nat.not_le.mp fun q => hin (Or.inr q)
  exact W.aald (v := va_rf (r i.toNatClampNeg)) (ty := .array .int) F.1 F.2.1 ((h1 a _ ha).1) ((F.K.2 3 _ rfl).1 N (fun j => va_rf (r j))) rfl (fun q => by cases q) (by show ¬ (i < 0 ∨ (arrV _ _ _).slots.size ≤ _); rw [arrV_size]; exact hin) (by show (arrV _ _ _).slots[_]? = _; rw [arrV_read _ _ hlt]) rfl rfl hdg (kk H locs ls h1 h2 h3)
theorem j_iast (F : Fx l X g A own cc nL ret f mc ms) {a N : Nat} {r : Nat → Int32} {i : Int32} {x : Int32} (ha : h a = some (aI g N r)) (hin : vp_in i N) (hdg : decode cc pc = .ok (.iastore, 1)) (kk : J l X g A nL k n (hUp h a (aI g N (upd r i.toNatClampNeg x))) (pc + 1) lv st) : J l X g A nL k n h pc lv (.int x :: .int i :: .ref a :: st) := fun H locs ls h1 h2 h3 => by
  obtain ⟨qa, qA⟩ := h1 a _ ha
  refine W.iast F.1 F.2.1 qa ((F.K.2 0 _ rfl).1 N (fun j => .int (r j))) (fun q => by cases q) (by show ¬ (i < 0 ∨ (arrV _ _ _).slots.size ≤ _); rw [arrV_size]; exact hin) rfl rfl hdg fun H1 e z oq => ?_
  refine kk H1 _ ls (h1.up qA ?_ oq) (h2.put z oq qA) h3
  show H1[a]? = some (vp_cell _ _)
  rw [e]
  rw [vp_cell_i, vp_cell_i, arrV_store]
  congr 2
  funext q
  by_cases hq : q = i.toNatClampNeg
  · subst hq
    simp [updV, upd]
  · simp [updV, upd, hq]
theorem j_last (F : Fx l X g A own cc nL ret f mc ms) {a N : Nat} {r : Nat → Int64} {i : Int32} {x : Int64} (ha : h a = some (aJ g N r)) (hin : vp_in i N) (hdg : decode cc pc = .ok (.lastore, 1)) (kk : J l X g A nL k n (hUp h a (aJ g N (vp_updL r i.toNatClampNeg x))) (pc + 1) lv st) : J l X g A nL k n h pc lv (.long x :: .int i :: .ref a :: st) := fun H locs ls h1 h2 h3 => by
  obtain ⟨qa, qA⟩ := h1 a _ ha
  refine W.last F.1 F.2.1 qa ((F.K.2 4 _ rfl).1 N (fun j => .long (r j))) (fun q => by cases q) (by show ¬ (i < 0 ∨ (arrV _ _ _).slots.size ≤ _); rw [arrV_size]; exact hin) rfl rfl hdg fun H1 e z oq => ?_
  refine kk H1 _ ls (h1.up qA ?_ oq) (h2.put z oq qA) h3
  show H1[a]? = some (vp_cell _ _)
  rw [e]
  rw [vp_cell_l, vp_cell_l, arrV_store]
  congr 2
  funext q
  by_cases hq : q = i.toNatClampNeg
  · subst hq
    simp [updV, vp_updL]
  · simp [updV, vp_updL, hq]
theorem j_astR (F : Fx l X g A own cc nL ret f mc ms) {a N v : Nat} {r : Nat → Option Nat} {i : Int32} {vs : List Value} (ha : h a = some (aR g N r)) (hv : h v = some (.inr (6, vs))) (hin : vp_in i N) (hdg : decode cc pc = .ok (.aastore, 1)) (kk : J l X g A nL k n (hUp h a (aR g N (va_up r i.toNatClampNeg (some v)))) (pc + 1) lv st) : J l X g A nL k n h pc lv (.ref v :: .int i :: .ref a :: st) := fun H locs ls h1 h2 h3 => by
  obtain ⟨qa, qA⟩ := h1 a _ ha
  have hlt : i.toNatClampNeg < N := Nat.not_le.mp fun q => hin (Or.inr q)
  have h0 : ¬ i < 0 := fun q => hin (Or.inl q)
  obtain ⟨⟨r', hr', cellV, g1, g2, g3, -⟩, -⟩ := h1 v _ hv
  have hcls := (F.K.1 6 _ rfl).2
  obtain ⟨kA, comp, k1, k2, k3, -⟩ := (F.K.2 1 _ rfl).2
  have hcomp : comp = g.1.1 6 := Option.some.inj (k3.symm.trans hcls.1)
  subst hcomp
  obtain ⟨kC, hkC, -⟩ := hcls.2
  refine W.aast F.1 F.2.1 qa (fun q h => by cases h) (fun h => by cases h) k1 k2 rfl hkC ⟨h0, by show _ < (arrV _ _ _).slots.size; rw [arrV_size]; exact hlt⟩ g1 (fun q h => by rw [g3] at h; cases h) (by rw [g2]; exact hkC) (by rw [g2]; exact va_assign hcls) rfl rfl hdg fun H1 e z oq => ?_
  refine kk H1 _ ls (h1.up qA ?_ oq) (h2.put z oq qA) h3
  show H1[a]? = some (vp_cell _ _)
  rw [e]
  rw [vp_cell_q, vp_cell_q, arrV_store]
  congr 2
  funext q
  by_cases hq : q = i.toNatClampNeg
  · subst hq
    simp [updV, va_up, va_rf]
  · simp [updV, va_up, hq]
theorem j_astRN (F : Fx l X g A own cc nL ret f mc ms) {a N : Nat} {r : Nat → Option Nat} {i : Int32} (ha : h a = some (aR g N r)) (hin : vp_in i N) (hdg : decode cc pc = .ok (.aastore, 1)) (kk : J l X g A nL k n (hUp h a (aR g N (va_up r i.toNatClampNeg none))) (pc + 1) lv st) : J l X g A nL k n h pc lv (.null :: .int i :: .ref a :: st) := fun H locs ls h1 h2 h3 => by
  obtain ⟨qa, qA⟩ := h1 a _ ha
  refine va_WaastN (C := RX6) F.1 F.2.1 qa ((F.K.2 1 _ rfl).1 N (fun j => va_rf (r j))) (fun h => by cases h) (by show ¬ (i < 0 ∨ (arrV _ _ _).slots.size ≤ _); rw [arrV_size]; exact hin) rfl rfl hdg fun H1 e z oq => ?_
  refine kk H1 _ ls (h1.up qA ?_ oq) (h2.put z oq qA) h3
  show H1[a]? = some (vp_cell _ _)
  rw [e]
  rw [vp_cell_q, vp_cell_q, arrV_store]
  congr 2
  funext q
  by_cases hq : q = i.toNatClampNeg
  · subst hq
    simp [updV, va_up, va_rf]
  · simp [updV, va_up, hq]
theorem j_astRq (F : Fx l X g A own cc nL ret f mc ms) {a N : Nat} {x : Option Nat} {r : Nat → Option Nat} {i : Int32} (ha : h a = some (aR g N r)) (hv : ∀ v, x = some v → ∃ vs, h v = some (.inr (6, vs))) (hin : vp_in i N) (hdg : decode cc pc = .ok (.aastore, 1)) (kk : J l X g A nL k n (hUp h a (aR g N (va_up r i.toNatClampNeg x))) (pc + 1) lv st) : J l X g A nL k n h pc lv (va_rf x :: .int i :: .ref a :: st) := by
  cases x with
  | none => exact j_astRN F ha hin hdg kk
  | some v =>
    obtain ⟨vs, hvs⟩ := hv v rfl
    exact j_astR F ha hvs hin hdg kk
theorem j_astE (F : Fx l X g A own cc nL ret f mc ms) {a N v : Nat} {r : Nat → Option Nat} {i : Int32} {vs : List Value} (ha : h a = some (aE g N r)) (hv : h v = some (.inr (0, vs))) (hin : vp_in i N) (hdg : decode cc pc = .ok (.aastore, 1)) (kk : J l X g A nL k n (hUp h a (aE g N (va_up r i.toNatClampNeg (some v)))) (pc + 1) lv st) : J l X g A nL k n h pc lv (.ref v :: .int i :: .ref a :: st) := fun H locs ls h1 h2 h3 => by
  obtain ⟨qa, qA⟩ := h1 a _ ha
  have hlt : i.toNatClampNeg < N := Nat.not_le.mp fun q => hin (Or.inr q)
  have h0 : ¬ i < 0 := fun q => hin (Or.inl q)
  obtain ⟨⟨r', hr', cellV, g1, g2, g3, -⟩, -⟩ := h1 v _ hv
  have hcls := (F.K.1 0 _ rfl).2
  obtain ⟨kA, comp, k1, k2, k3, -⟩ := (F.K.2 2 _ rfl).2
  have hcomp : comp = g.1.1 0 := Option.some.inj (k3.symm.trans hcls.1)
  subst hcomp
  obtain ⟨kC, hkC, -⟩ := hcls.2
  refine W.aast F.1 F.2.1 qa (fun q h => by cases h) (fun h => by cases h) k1 k2 rfl hkC ⟨h0, by show _ < (arrV _ _ _).slots.size; rw [arrV_size]; exact hlt⟩ g1 (fun q h => by rw [g3] at h; cases h) (by rw [g2]; exact hkC) (by rw [g2]; exact va_assign hcls) rfl rfl hdg fun H1 e z oq => ?_
  refine kk H1 _ ls (h1.up qA ?_ oq) (h2.put z oq qA) h3
  show H1[a]? = some (vp_cell _ _)
  rw [e]
  rw [vp_cell_q, vp_cell_q, arrV_store]
  congr 2
  funext q
  by_cases hq : q = i.toNatClampNeg
  · subst hq
    simp [updV, va_up, va_rf]
  · simp [updV, va_up, hq]
theorem j_astEN (F : Fx l X g A own cc nL ret f mc ms) {a N : Nat} {r : Nat → Option Nat} {i : Int32} (ha : h a = some (aE g N r)) (hin : vp_in i N) (hdg : decode cc pc = .ok (.aastore, 1)) (kk : J l X g A nL k n (hUp h a (aE g N (va_up r i.toNatClampNeg none))) (pc + 1) lv st) : J l X g A nL k n h pc lv (.null :: .int i :: .ref a :: st) := fun H locs ls h1 h2 h3 => by
  obtain ⟨qa, qA⟩ := h1 a _ ha
  refine va_WaastN (C := RX0) F.1 F.2.1 qa ((F.K.2 2 _ rfl).1 N (fun j => va_rf (r j))) (fun h => by cases h) (by show ¬ (i < 0 ∨ (arrV _ _ _).slots.size ≤ _); rw [arrV_size]; exact hin) rfl rfl hdg fun H1 e z oq => ?_
  refine kk H1 _ ls (h1.up qA ?_ oq) (h2.put z oq qA) h3
  show H1[a]? = some (vp_cell _ _)
  rw [e]
  rw [vp_cell_q, vp_cell_q, arrV_store]
  congr 2
  funext q
  by_cases hq : q = i.toNatClampNeg
  · subst hq
    simp [updV, va_up, va_rf]
  · simp [updV, va_up, hq]
theorem j_astEq (F : Fx l X g A own cc nL ret f mc ms) {a N : Nat} {x : Option Nat} {r : Nat → Option Nat} {i : Int32} (ha : h a = some (aE g N r)) (hv : ∀ v, x = some v → ∃ vs, h v = some (.inr (0, vs))) (hin : vp_in i N) (hdg : decode cc pc = .ok (.aastore, 1)) (kk : J l X g A nL k n (hUp h a (aE g N (va_up r i.toNatClampNeg x))) (pc + 1) lv st) : J l X g A nL k n h pc lv (va_rf x :: .int i :: .ref a :: st) := by
  cases x with
  | none => exact j_astEN F ha hin hdg kk
  | some v =>
    obtain ⟨vs, hvs⟩ := hv v rfl
    exact j_astE F ha hvs hin hdg kk
theorem j_new (F : Fx l X g A own cc nL ret f mc ms) {index ci N : Nat} {C : String} {T : u_T} {ty : Nat → FieldType} {fs : List Value} (hty : ∀ i, i < N → parseFieldDescriptor (T i).2.2.1 = some (ty i)) (hin : ∀ w ∈ u_ws C T N, w ∈ wU) (hcw : Cond.classLink own index C ∈ wU) (hiw : Cond.instantiable C N ∈ wU) (hnw : Cond.initialized C ∈ wU) (hc : vwCl[ci]? = some (C, T, N)) (hfs : ∀ j, j < N → defaultValue (ty j) = vp_V fs j) (hcells : k + 1 ≤ mc) (hslots : n + N ≤ ms) (hdg : decode cc pc = .ok (.new index, 3))
    (kk : ∀ q : Nat, h q = none → A q → J l X g A nL (k + 1) (n + N) (hUp h q (.inr (ci, fs))) (pc + 3) lv (.ref q :: st)) : J l X g A nL k n h pc lv st := fun H locs ls h1 h2 h3 => by
  have hKn := F.K.1 ci _ hc
  refine W.newcK F.1 F.2.1 F.ow (F.w hcw) (F.w hiw) (F.w hnw) rfl hdg (by rw [F.ce]; exact hcells) (by rw [F.sl]; exact hslots) hKn.2.1 rfl fun H1 kC hkC e1 z1 o1 => ?_
  have qA : A H.size := F.ar _ h2.1
  exact kk H.size h1.fresh qA H1 locs ls (h1.nw qA ⟨_, hc, (u_born ty F.2.2.2.2.1 hin hKn hkC e1 hty).to hfs⟩ o1) ⟨Nat.le_trans h2.1 (by omega), fun x q1 q2 => (o1 x (Nat.lt_of_lt_of_le q1 h2.1)).trans (h2.2.1 x q1 q2), h2.2.2⟩ h3
theorem j_newaI (F : Fx l X g A own cc nL ret f mc ms) {x : Int32} {N : Nat} (hx : ¬ x < 0) (hN : x.toNatClampNeg = N) (hby : N * componentBytes .int ≤ 536870912) (hcells : k + 1 ≤ mc) (hslots : n + N ≤ ms) (hdg : decode cc pc = .ok (.newarray .int, 2))
    (kk : ∀ q : Nat, h q = none → A q → J l X g A nL (k + 1) (n + N) (hUp h q (aI g N (fun _ => 0))) (pc + 2) lv (.ref q :: st)) : J l X g A nL k n h pc lv (.int x :: st) := fun H locs ls h1 h2 h3 => by
  refine va_newaK F.1 F.2.1 (atype := .int) (F.w aw_int) rfl hdg rfl hx hN hby (by rw [F.ce]; exact hcells) (by rw [F.sl]; exact hslots) rfl fun H1 cA e1 z1 o1 hAr hNm => ?_
  have qA : A H.size := F.ar _ h2.1
  have hcA : cA = g.2.1 := Option.some.inj (hNm.symm.trans (F.K.2 0 _ rfl).2)
  subst hcA
  exact kk H.size h1.fresh qA H1 locs ls (h1.nw qA e1 o1) ⟨Nat.le_trans h2.1 (by omega), fun x q1 q2 => (o1 x (Nat.lt_of_lt_of_le q1 h2.1)).trans (h2.2.1 x q1 q2), h2.2.2⟩ h3
theorem j_newaJ (F : Fx l X g A own cc nL ret f mc ms) {x : Int32} {N : Nat} (hx : ¬ x < 0) (hN : x.toNatClampNeg = N) (hby : N * componentBytes .long ≤ 536870912) (hcells : k + 1 ≤ mc) (hslots : n + N ≤ ms) (hdg : decode cc pc = .ok (.newarray .long, 2))
    (kk : ∀ q : Nat, h q = none → A q → J l X g A nL (k + 1) (n + N) (hUp h q (aJ g N (fun _ => 0))) (pc + 2) lv (.ref q :: st)) : J l X g A nL k n h pc lv (.int x :: st) := fun H locs ls h1 h2 h3 => by
  refine va_newaK F.1 F.2.1 (atype := .long) (F.w aw_long) rfl hdg rfl hx hN hby (by rw [F.ce]; exact hcells) (by rw [F.sl]; exact hslots) rfl fun H1 cA e1 z1 o1 hAr hNm => ?_
  have qA : A H.size := F.ar _ h2.1
  have hcA : cA = g.2.2.2.2.2 := Option.some.inj (hNm.symm.trans (F.K.2 4 _ rfl).2)
  subst hcA
  exact kk H.size h1.fresh qA H1 locs ls (h1.nw qA e1 o1) ⟨Nat.le_trans h2.1 (by omega), fun x q1 q2 => (o1 x (Nat.lt_of_lt_of_le q1 h2.1)).trans (h2.2.1 x q1 q2), h2.2.2⟩ h3
theorem j_newaR (F : Fx l X g A own cc nL ret f mc ms) {index : Nat} {x : Int32} {N : Nat} (hcw : Cond.classLink own index RX6 ∈ wU) (hx : ¬ x < 0) (hN : x.toNatClampNeg = N) (hby : N * 4 ≤ 536870912) (hcells : k + 1 ≤ mc) (hslots : n + N ≤ ms) (hdg : decode cc pc = .ok (.anewarray index, 3))
    (kk : ∀ q : Nat, h q = none → A q → J l X g A nL (k + 1) (n + N) (hUp h q (aR g N (fun _ => none))) (pc + 3) lv (.ref q :: st)) : J l X g A nL k n h pc lv (.int x :: st) := fun H locs ls h1 h2 h3 => by
  subst hN
  refine W.anew F.1 F.2.1 F.ow (F.w hcw) (va_AO.use F.E.2.2.1) rfl hdg rfl hx hby (by rw [F.ce]; exact hcells) (by rw [F.sl]; exact hslots) fun cA kA comp f1 f2 f3 f4 => ?_
  generalize hH1 : H.push ({ cls := cA, slots := Array.replicate x.toNatClampNeg .null, vm := .none } : Cell) = H1
  have z1 : H1.size = H.size + 1 := by rw [← hH1, Array.size_push]
  have e1 : H1[H.size]? = some (arrV cA x.toNatClampNeg (fun _ => .null)) := by rw [← hH1, Array.getElem?_push_size, ← arrV_new]
  have o1 : ∀ q : Nat, q < H.size → H1[q]? = H[q]? := fun q hq => by rw [← hH1, Array.getElem?_push, if_neg (Nat.ne_of_lt hq)]
  have qA : A H.size := F.ar _ h2.1
  obtain ⟨kA', comp', k1, k2, k3, k4⟩ := (F.K.2 1 _ rfl).2
  have hcA : cA = g.2.2.1 := Option.some.inj (f1.symm.trans k4)
  subst hcA
  exact kk H.size h1.fresh qA H1 locs ls (h1.nw qA e1 o1) ⟨Nat.le_trans h2.1 (by omega), fun x q1 q2 => (o1 x (Nat.lt_of_lt_of_le q1 h2.1)).trans (h2.2.1 x q1 q2), h2.2.2⟩ h3
theorem j_newaE (F : Fx l X g A own cc nL ret f mc ms) {index : Nat} {x : Int32} {N : Nat} (hcw : Cond.classLink own index RX0 ∈ wU) (hx : ¬ x < 0) (hN : x.toNatClampNeg = N) (hby : N * 4 ≤ 536870912) (hcells : k + 1 ≤ mc) (hslots : n + N ≤ ms) (hdg : decode cc pc = .ok (.anewarray index, 3))
    (kk : ∀ q : Nat, h q = none → A q → J l X g A nL (k + 1) (n + N) (hUp h q (aE g N (fun _ => none))) (pc + 3) lv (.ref q :: st)) : J l X g A nL k n h pc lv (.int x :: st) := fun H locs ls h1 h2 h3 => by
  subst hN
  refine W.anew F.1 F.2.1 F.ow (F.w hcw) (va_AO.use F.E.2.2.2.1) rfl hdg rfl hx hby (by rw [F.ce]; exact hcells) (by rw [F.sl]; exact hslots) fun cA kA comp f1 f2 f3 f4 => ?_
  generalize hH1 : H.push ({ cls := cA, slots := Array.replicate x.toNatClampNeg .null, vm := .none } : Cell) = H1
  have z1 : H1.size = H.size + 1 := by rw [← hH1, Array.size_push]
  have e1 : H1[H.size]? = some (arrV cA x.toNatClampNeg (fun _ => .null)) := by rw [← hH1, Array.getElem?_push_size, ← arrV_new]
  have o1 : ∀ q : Nat, q < H.size → H1[q]? = H[q]? := fun q hq => by rw [← hH1, Array.getElem?_push, if_neg (Nat.ne_of_lt hq)]
  have qA : A H.size := F.ar _ h2.1
  obtain ⟨kA', comp', k1, k2, k3, k4⟩ := (F.K.2 2 _ rfl).2
  have hcA : cA = g.2.2.2.1 := Option.some.inj (f1.symm.trans k4)
  subst hcA
  exact kk H.size h1.fresh qA H1 locs ls (h1.nw qA e1 o1) ⟨Nat.le_trans h2.1 (by omega), fun x q1 q2 => (o1 x (Nat.lt_of_lt_of_le q1 h2.1)).trans (h2.2.1 x q1 q2), h2.2.2⟩ h3
end JR
