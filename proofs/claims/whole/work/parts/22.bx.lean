/-! ===== kinds of cells; what a heap keeps that is written in some kinds only ===== -/
def kd : va_E → Nat × Nat
  | .inr (ci, _) => (0, ci)
  | .inl (_, n, .inl _) => (1, n)
  | .inl (_, n, _) => (2, n)
def fk (S : List (Nat × Nat)) (h h1 : HF) : Prop := ∀ b e, h b = some e → kd e ∉ S → h1 b = some e
theorem fk.refl {S : List (Nat × Nat)} {h : HF} : fk S h h := fun _ _ z _ => z
theorem fk.trans {S : List (Nat × Nat)} {h h1 h2 : HF} (a : fk S h h1) (b : fk S h1 h2) : fk S h h2 := fun q e z k => b q e (a q e z k) k
theorem fk.mono {S S' : List (Nat × Nat)} {h h1 : HF} (a : fk S h h1) (s : ∀ k, k ∈ S → k ∈ S') : fk S' h h1 := fun q e z k => a q e z (fun w => k (s _ w))
theorem kd_ne {h : HF} {a b : Nat} {e x : va_E} {S : List (Nat × Nat)} (hb : h b = some e) (hk : kd e ∉ S) (ha : h a = some x) (hx : kd x ∈ S) : b ≠ a := fun z => by
  subst z
  rw [ha] at hb
  cases hb
  exact hk hx
theorem kd_n2 {h : HF} {a b : Nat} {e x : va_E} (hb : h b = some e) (ha : h a = some x) (n : kd e ≠ kd x) : b ≠ a := fun z => by
  subst z
  rw [ha] at hb
  cases hb
  exact n rfl
theorem nn_ne {h : HF} {a b : Nat} {e : va_E} (hb : h b = some e) (ha : h a = none) : b ≠ a := fun z => by
  subst z
  rw [ha] at hb
  cases hb
theorem fk.new {h h1 : HF} {q : Nat} (hq : h q = none) (f : ∀ b, b ≠ q → h1 b = h b) : fk [] h h1 := fun b e hb _ => (f b (nn_ne hb hq)).trans hb
section BX
variable {g : GG} {h h1 : HF}
theorem isPath.at {p a z : Nat} {N : Nat → Nat} (x : isPath g h p a z N) (e1 : h1 p = h p) (e2 : h1 a = h a) : isPath g h1 p a z N := by
  obtain ⟨r, x1, x2, x3⟩ := x
  exact ⟨r, e1.trans x1, e2.trans x2, x3⟩
theorem isPath.fk {S : List (Nat × Nat)} {p a z : Nat} {N : Nat → Nat} (x : isPath g h p a z N) (k : fk S h h1) (n1 : (0, 2) ∉ S) (n2 : (1, 8) ∉ S) : isPath g h1 p a z N := by
  obtain ⟨r, x1, x2, x3⟩ := x
  exact ⟨r, k _ _ x1 n1, k _ _ x2 n2, x3⟩
theorem isRoute.fk {S : List (Nat × Nat)} {r pf pa aa pe q b z s e : Nat} {N : Nat → Nat} (x : isRoute g h r pf pa aa pe q b z N s e) (k : fk S h h1) (n : (0, 6) ∉ S ∧ (0, 3) ∉ S ∧ (0, 2) ∉ S ∧ (1, 8) ∉ S) : isRoute g h1 r pf pa aa pe q b z N s e :=
  ⟨k _ _ x.1 n.1, k _ _ x.2.1 n.2.1, x.2.2.fk k n.2.2.1 n.2.2.2⟩
def bTr (g : GG) (h : HF) (tr : Nat) (T : RF) (C : Nat → Nat → Option Nat) : Prop := ∃ ca cp cb, isTree g h tr ca cp cb T.1 C
def bHi (g : GG) (h : HF) (hi : Nat) (T : RF) (m : Nat) (Tm : Nat → Nat) (kc : Nat) (K : Nat → Nat) : Prop := ∃ ti ke bo bt, bo ≠ bt ∧ isHist g h hi ti ke bo bt T.1 m Tm kc K
def bRg (g : GG) (h : HF) (rg n : Nat) (Q L O : Nat → Nat) : Prop := ∃ ea ad pf, isReg g h rg ea n ad pf Q (fun i => Nat.log2 (Q i)) L O
def bRl (g : GG) (h : HF) (rl : Nat) (M : Nat → Nat → Nat) : Prop := ∃ ra ad, isRel g h rl ra ad M
/-- the kept routes: each apart from the path being made and from the others -/
def bKp (g : GG) (h : HF) (pm am : Nat) (T : RF) (D : UD) (E : Nat → Nat) (kc : Nat) (K : Nat → Nat) : Prop := ∀ j, j < kc → isRt g h T D E (K j) ∧ dOk D (K j) ∧ K j < 300 ∧ E (K j) ≤ 300 ∧ T.2.2.1 (K j) ≠ pm ∧ T.2.2.2 (K j) ≠ am ∧ ∀ i, i < kc → T.1 (K i) = T.1 (K j) → K i = K j
/-- which are kept, and how long they stand -/
def KE (D : UD) (E : Nat → Nat) (m kc : Nat) (K : Nat → Nat) : Prop := kc ≤ m ∧ (∀ j, j < kc → K j < m ∧ annc D (K j)) ∧ (∀ u, u < m → annc D u → ∃ j, j < kc ∧ K j = u) ∧ ∀ u, u < m → annc D u → (E u = 300 ∨ E u < m) ∧ ∀ n, n ≤ m → ((u < n ∧ n ≤ E u) ↔ tb D n (D.1 u) (D.2.1 u) = some u)
theorem bTr.fk {S : List (Nat × Nat)} {tr : Nat} {T : RF} {C : Nat → Nat → Option Nat} (x : bTr g h tr T C) (k : fk S h h1) (n : (0, 7) ∉ S ∧ (2, 3072) ∉ S ∧ (1, 512) ∉ S ∧ (1, 6) ∉ S) : bTr g h1 tr T C := by
  obtain ⟨ca, cp, cb, x1, ⟨f1, x2, x3⟩, ⟨f2, x4, x5⟩, f3, x6, x7⟩ := x
  exact ⟨ca, cp, cb, k _ _ x1 n.1, ⟨f1, k _ _ x2 n.2.1, x3⟩, ⟨f2, k _ _ x4 n.2.2.1, x5⟩, f3, k _ _ x6 n.2.2.2, x7⟩
theorem isTree.cg {tr ca cp cb : Nat} {rA : Nat → Nat} {C C' : Nat → Nat → Option Nat} (x : isTree g h tr ca cp cb rA C) (e : ∀ p q, p < 6 → q < 512 → C p q = C' p q) : isTree g h tr ca cp cb rA C' := by
  obtain ⟨x1, ⟨f1, x2, x3⟩, ⟨f2, x4, x5⟩, f3, x6, x7⟩ := x
  refine ⟨x1, ⟨f1, x2, fun p q hp hq => by rw [← e p q hp hq]; exact x3 p q hp hq⟩, ⟨f2, x4, fun q hq => ?_⟩, f3, x6, fun p hp => ?_⟩
  · rw [x5 q hq]
    exact congrArg nI (cnt_congr (fun p hp => by rw [e p q hp hq]))
  · rw [x7 p hp]
    exact congrArg nI (cnt_congr (fun q hq => by rw [e p q hp hq]))
theorem isTree.rt {tr ca cp cb : Nat} {rA rA' : Nat → Nat} {C : Nat → Nat → Option Nat} (x : isTree g h tr ca cp cb rA C) (e : ∀ p q u, p < 6 → q < 512 → C p q = some u → rA u = rA' u) : isTree g h tr ca cp cb rA' C := by
  obtain ⟨x1, ⟨f1, x2, x3⟩, x4⟩ := x
  refine ⟨x1, ⟨f1, x2, fun p q hp hq => ?_⟩, x4⟩
  rw [x3 p q hp hq]
  cases c : C p q with
  | none => rfl
  | some u => exact congrArg some (e p q u hp hq c)
theorem bHi.fk {S : List (Nat × Nat)} {hi m kc : Nat} {T : RF} {Tm K : Nat → Nat} (x : bHi g h hi T m Tm kc K) (k : fk S h h1) (n : (0, 1) ∉ S ∧ (1, 300) ∉ S ∧ (2, 300) ∉ S ∧ (2, 512) ∉ S) : bHi g h1 hi T m Tm kc K := by
  obtain ⟨ti, ke, bo, bt, x0, x1, ⟨f1, x2, x3⟩, ⟨f2, x4, x5⟩, ⟨f3, x6⟩, ⟨f4, x7⟩, x8⟩ := x
  exact ⟨ti, ke, bo, bt, x0, k _ _ x1 n.1, ⟨f1, k _ _ x2 n.2.1, x3⟩, ⟨f2, k _ _ x4 n.2.2.1, x5⟩, ⟨f3, k _ _ x6 n.2.2.2⟩, ⟨f4, k _ _ x7 n.2.2.2⟩, x8⟩
theorem isEntry.fk {S : List (Nat × Nat)} {en pf q b lo og : Nat} (x : isEntry h en pf q b lo og) (k : fk S h h1) (n : (0, 0) ∉ S ∧ (0, 3) ∉ S) : isEntry h1 en pf q b lo og := ⟨k _ _ x.1 n.1, k _ _ x.2 n.2⟩
theorem bRg.fk {S : List (Nat × Nat)} {rg n : Nat} {Q L O : Nat → Nat} (x : bRg g h rg n Q L O) (k : fk S h h1) (nn : (0, 4) ∉ S ∧ (2, 20) ∉ S ∧ (0, 0) ∉ S ∧ (0, 3) ∉ S) : bRg g h1 rg n Q L O := by
  obtain ⟨ea, ad, pf, r, x1, x2, x3, x4⟩ := x
  exact ⟨ea, ad, pf, r, k _ _ x1 nn.1, k _ _ x2 nn.2.1, x3, fun i hi => ⟨(x4 i hi).1, (x4 i hi).2.1.fk k nn.2.2, (x4 i hi).2.2⟩⟩
theorem bRl.fk {S : List (Nat × Nat)} {rl : Nat} {M : Nat → Nat → Nat} (x : bRl g h rl M) (k : fk S h h1) (n : (0, 5) ∉ S ∧ (2, 31) ∉ S ∧ (1, 31) ∉ S) : bRl g h1 rl M := by
  obtain ⟨ra, ad, x1, ⟨r, x2, x3⟩, x4, x5⟩ := x
  refine ⟨ra, ad, k _ _ x1 n.1, ⟨r, k _ _ x2 n.2.1, x3⟩, fun i hi => ?_, x5⟩
  obtain ⟨f, y1, y2⟩ := x4 i hi
  exact ⟨f, k _ _ y1 n.2.2, y2⟩
theorem bKp.fk {S : List (Nat × Nat)} {pm am kc : Nat} {T : RF} {D : UD} {E K : Nat → Nat} (x : bKp g h pm am T D E kc K) (k : fk S h h1) (n : (0, 6) ∉ S ∧ (0, 3) ∉ S ∧ (0, 2) ∉ S ∧ (1, 8) ∉ S) : bKp g h1 pm am T D E kc K := fun j hj => ⟨(x j hj).1.fk k n, (x j hj).2⟩
theorem bKp.kept {pm am kc : Nat} {T : RF} {D : UD} {E K : Nat → Nat} (x : bKp g h pm am T D E kc K) : isKept g h T D E kc K := fun j hj => ⟨(x j hj).1, (x j hj).2.1, (x j hj).2.2.1, (x j hj).2.2.2.1⟩
theorem bKp.live {pm am kc m : Nat} {T : RF} {D : UD} {E K : Nat → Nat} (x : bKp g h pm am T D E kc K) (y : KE D E m kc K) : isLive g h T D E (tb D m) := fun p q u hp hq hu => by
  obtain ⟨h1, h2, h3, h4⟩ := tb_lt hu
  obtain ⟨j, hj, rfl⟩ := y.2.2.1 u h1 h4
  exact ⟨(x j hj).1, (x j hj).2.1, h2, h3, (x j hj).2.2.1, (x j hj).2.2.2.1⟩
/-- the object x of Bgpreplay holds the state s; and where -/
def isBx (g : GG) (h : HF) (x : Nat) (s : SG) (pm am tr hi rg rl : Nat) (T : RF) (E : Nat → Nat) (kc : Nat) (K : Nat → Nat) : Prop :=
  h x = some (.inr (8, [.ref pm, .ref tr, .ref hi, .ref rg, .ref rl, .int (nI (sT s))])) ∧ isPath g h pm am (sz s) (sN s) ∧ bTr g h tr T (tb (sD s) (sm s)) ∧ bHi g h hi T (sm s) (sTm s) kc K ∧ bRg g h rg (sn s) (sQ s) (sL s) (sO s) ∧ bRl g h rl (sM s) ∧ bKp g h pm am T (sD s) E kc K ∧ KE (sD s) E (sm s) kc K
def isB (g : GG) (h : HF) (x : Nat) (s : SG) : Prop := ∃ pm am tr hi rg rl T E kc K, isBx g h x s pm am tr hi rg rl T E kc K
def kAll : List (Nat × Nat) := [(0, 8), (0, 2), (1, 8), (0, 7), (2, 3072), (1, 512), (1, 6), (0, 1), (1, 300), (2, 300), (2, 512), (0, 4), (2, 20), (0, 0), (0, 3), (0, 5), (2, 31), (1, 31), (0, 6)]
theorem isBx.fk {S : List (Nat × Nat)} {x : Nat} {s : SG} {pm am tr hi rg rl : Nat} {T : RF} {E : Nat → Nat} {kc : Nat} {K : Nat → Nat} (z : isBx g h x s pm am tr hi rg rl T E kc K) (k : fk S h h1) (n : ∀ w ∈ kAll, w ∉ S) : isBx g h1 x s pm am tr hi rg rl T E kc K := by
  obtain ⟨e0, e1, e2, e3, e4, e5, e6, e7⟩ := z
  have n := fun w (hw : kAll.contains w = true) => n w (List.contains_iff_mem.mp hw)
  exact ⟨k _ _ e0 (n (0, 8) (by decide)), e1.fk k (n (0, 2) (by decide)) (n (1, 8) (by decide)), e2.fk k ⟨n _ (by decide), n _ (by decide), n _ (by decide), n _ (by decide)⟩, e3.fk k ⟨n _ (by decide), n _ (by decide), n _ (by decide), n _ (by decide)⟩, e4.fk k ⟨n _ (by decide), n _ (by decide), n _ (by decide), n _ (by decide)⟩, e5.fk k ⟨n _ (by decide), n _ (by decide), n _ (by decide)⟩, e6.fk k ⟨n _ (by decide), n _ (by decide), n _ (by decide), n _ (by decide)⟩, e7⟩
theorem isBx.new {x q : Nat} {s : SG} {pm am tr hi rg rl : Nat} {T : RF} {E : Nat → Nat} {kc : Nat} {K : Nat → Nat} (z : isBx g h x s pm am tr hi rg rl T E kc K) (hq : h q = none) (f : ∀ b, b ≠ q → h1 b = h b) : isBx g h1 x s pm am tr hi rg rl T E kc K := z.fk (fk.new hq f) (fun _ _ w => nomatch w)
/-- the exception's name is the k-th of a list -/
def nm (L : List String) (k : Nat) (E : String) : Prop := 1 ≤ k ∧ L[k - 1]? = some E
end BX
abbrev IAE : String := "java/lang/IllegalArgumentException"
abbrev ISE : String := "java/lang/IllegalStateException"
abbrev IOOB : String := "java/lang/IndexOutOfBoundsException"
abbrev NSEE : String := "java/util/NoSuchElementException"
section BH
variable {l : Launch} {g : GG} {A : Nat → Prop} {h : HF}
theorem c_X8_needPeer (hst : l.stackTraces = false) {x : Nat} {p : Int32} : XV l g A h yX8_needPeer cX8_needPeer 2 6 1 6 [.ref x, .int p] (fun h1 => okPeer p = true ∧ h1 = h) (fun u => okPeer p = false ∧ u = (h, IOOB)) := by
  refine jx_met (by decide +kernel) (Nat.le_of_ble_eq_true rfl) (fun X F hex hQ => ?_)
  refine j_iload_n (pc := 0) F dX8_needPeer_0 rfl ?_
  refine j_ri (j_runS (pc := 1) F (c_X8_isPeer p) m_X8_isPeer ms_X8_isPeer lk_X8_242 ⟨by decide, by decide⟩ (Nat.le_of_ble_eq_true rfl) ⟨by omega, by omega⟩ rfl dX8_needPeer_1) (fun r h1 hp => ?_)
  obtain ⟨rfl, rfl⟩ := hp
  first | refine j_if_neB (pc := 4) F 17 dX8_needPeer_4 (by decide) (fun c => ?_) (fun c => ?_) | refine j_if_neN (pc := 4) F 17 dX8_needPeer_4 (by decide) (by omega) (fun c => ?_) (fun c => ?_) | refine j_if_neI (pc := 4) F 17 dX8_needPeer_4 (by decide) (fun c => ?_) (fun c => ?_)
  · exact jx_vret F hQ rfl (by omega) (by omega) dX8_needPeer_17 ⟨c, rfl⟩
  · exact j_throwS (pc := 7) F hst hQ hex tw_154 es_245 lc_X8_150 xi_IndexOutOfBoundsException (by decide) (Nat.le_of_ble_eq_true rfl) ⟨by omega, by omega⟩ dX8_needPeer_7 dX8_needPeer_10 dX8_needPeer_11 dX8_needPeer_13 dX8_needPeer_16 (⟨c, rfl⟩)
theorem c_X8_needAddress (hst : l.stackTraces = false) {x : Nat} {p : Int32} : XV l g A h yX8_needAddress cX8_needAddress 2 6 1 6 [.ref x, .int p] (fun h1 => okAdr p = true ∧ h1 = h) (fun u => okAdr p = false ∧ u = (h, IOOB)) := by
  refine jx_met (by decide +kernel) (Nat.le_of_ble_eq_true rfl) (fun X F hex hQ => ?_)
  refine j_iload_n (pc := 0) F dX8_needAddress_0 rfl ?_
  refine j_ri (j_runS (pc := 1) F (c_X8_isAddress p) m_X8_isAddress ms_X8_isAddress lk_X8_247 ⟨by decide, by decide⟩ (Nat.le_of_ble_eq_true rfl) ⟨by omega, by omega⟩ rfl dX8_needAddress_1) (fun r h1 hp => ?_)
  obtain ⟨rfl, rfl⟩ := hp
  first | refine j_if_neB (pc := 4) F 17 dX8_needAddress_4 (by decide) (fun c => ?_) (fun c => ?_) | refine j_if_neN (pc := 4) F 17 dX8_needAddress_4 (by decide) (by omega) (fun c => ?_) (fun c => ?_) | refine j_if_neI (pc := 4) F 17 dX8_needAddress_4 (by decide) (fun c => ?_) (fun c => ?_)
  · exact jx_vret F hQ rfl (by omega) (by omega) dX8_needAddress_17 ⟨c, rfl⟩
  · exact j_throwS (pc := 7) F hst hQ hex tw_154 es_250 lc_X8_150 xi_IndexOutOfBoundsException (by decide) (Nat.le_of_ble_eq_true rfl) ⟨by omega, by omega⟩ dX8_needAddress_7 dX8_needAddress_10 dX8_needAddress_11 dX8_needAddress_13 dX8_needAddress_16 (⟨c, rfl⟩)
theorem c_X8_needPrefix (hst : l.stackTraces = false) {x : Nat} {a b : Int32} : XQ l g A h yX8_needPrefix cX8_needPrefix 3 (some (.object "Bgpreplay$Prefix")) 6 1 6 [.ref x, .int a, .int b] (fun r h1 => okPfx a b = true ∧ ∃ q, r = some q ∧ h q = none ∧ h1 q = some (.inr (3, [.int (nI (pqN a b)), .int (nI (Nat.log2 (pqN a b)))])) ∧ ∀ c, c ≠ q → h1 c = h c) (fun u => okPfx a b = false ∧ u = (h, IAE)) := by
  refine jx_met (by decide +kernel) (Nat.le_of_ble_eq_true rfl) (fun X F hex hQ => ?_)
  refine j_iload_n (pc := 0) F dX8_needPrefix_0 rfl ?_
  refine j_iload_n (pc := 1) F dX8_needPrefix_1 rfl ?_
  refine j_ri (j_runS (pc := 2) F (c_X8_isPrefix a b) m_X8_isPrefix ms_X8_isPrefix lk_X8_252 ⟨by decide, by decide⟩ (Nat.le_of_ble_eq_true rfl) ⟨by omega, by omega⟩ rfl dX8_needPrefix_2) (fun r h1 hp => ?_)
  obtain ⟨rfl, rfl⟩ := hp
  first | refine j_if_neB (pc := 5) F 18 dX8_needPrefix_5 (by decide) (fun c => ?_) (fun c => ?_) | refine j_if_neN (pc := 5) F 18 dX8_needPrefix_5 (by decide) (by omega) (fun c => ?_) (fun c => ?_) | refine j_if_neI (pc := 5) F 18 dX8_needPrefix_5 (by decide) (fun c => ?_) (fun c => ?_)
  · refine j_new (pc := 18) F (ci := 3) (fs := [.int 0, .int 0]) tyX3_ok fw_X3 lc_X8_109 iw_X3 nw_X3 rfl (fun j hj => by rcases (show j = 0 ∨ j = 1 by omega) with rfl | rfl <;> rfl) (by omega) (by omega) dX8_needPrefix_18 (fun q hq hA => ?_)
    refine j_dup (pc := 21) F dX8_needPrefix_21 rfl ?_
    refine j_iload_n (pc := 22) F dX8_needPrefix_22 rfl ?_
    refine j_iload_n (pc := 23) F dX8_needPrefix_23 rfl ?_
    refine j_rv (j_runI (pc := 24) F (c_X3_init hUp_s) m_X3_init rfl mi_X3_init lk_X8_257 ⟨by decide, by decide⟩ (Nat.le_of_ble_eq_true rfl) ⟨by omega, by omega⟩ rfl dX8_needPrefix_24) (fun h2 hp2 => ?_)
    obtain ⟨n1, n2, n3, -⟩ := okPfx.n c
    refine jx_aret F hQ rfl (by omega) (by omega) dX8_needPrefix_27 (r := some q) ⟨c, q, rfl, hq, ?_, fun c2 hc => by rw [hp2.2 c2 hc, hUp_n hc]⟩
    rw [hp2.1, n3, ← n2]
  · exact j_throwS (pc := 8) F hst hQ hex tw_52 es_255 lc_X8_48 xi_IllegalArgumentException (by decide) (Nat.le_of_ble_eq_true rfl) ⟨by omega, by omega⟩ dX8_needPrefix_8 dX8_needPrefix_11 dX8_needPrefix_12 dX8_needPrefix_14 dX8_needPrefix_17 (⟨c, rfl⟩)
end BH
