section
-- ===== PART A: goes FIRST, ahead of the names: the tables' words, and 'selects' of the private methods out of them =====
/-- a private method of a class that the tables say can be made, by its rows of tables_1 -/
def lw_okq (q : MethodName × Nat) : Prop := (q.1.cls ≠ "java/lang/invoke/MethodHandle" ∧ q.1.cls ≠ "java/lang/invoke/VarHandle") ∧ Cond.instantiable q.1.cls q.2 ∈ tables_1 ∧ Cond.privateMethod q.1 ∈ tables_1 ∧ Cond.instanceMethod q.1 ∈ tables_1
theorem lw_p0 : lw_okq (⟨"Bgpreplay$Tree", "isThere", "(I)Z"⟩, 3) := ⟨⟨by decide +kernel, by decide +kernel⟩, List.mem_of_getElem? (i := 42) (by decide +kernel), List.mem_of_getElem? (i := 164) (by decide +kernel), List.mem_of_getElem? (i := 165) (by decide +kernel)⟩
theorem lw_p1 : lw_okq (⟨"Bgpreplay$Tree", "originBits", "(I)I"⟩, 3) := ⟨⟨by decide +kernel, by decide +kernel⟩, List.mem_of_getElem? (i := 42) (by decide +kernel), List.mem_of_getElem? (i := 179) (by decide +kernel), List.mem_of_getElem? (i := 180) (by decide +kernel)⟩
theorem lw_p2 : lw_okq (⟨"Bgpreplay$History", "fillBest", "([LBgpreplay$Route;I)V"⟩, 6) := ⟨⟨by decide +kernel, by decide +kernel⟩, List.mem_of_getElem? (i := 60) (by decide +kernel), List.mem_of_getElem? (i := 219) (by decide +kernel), List.mem_of_getElem? (i := 220) (by decide +kernel)⟩
theorem lw_p3 : lw_okq (⟨"java/lang/Throwable", "fillInStackTrace", "(I)Ljava/lang/Throwable;"⟩, 6) := ⟨⟨by decide +kernel, by decide +kernel⟩, List.mem_of_getElem? (i := 292) (by decide +kernel), List.mem_of_getElem? (i := 290) (by decide +kernel), List.mem_of_getElem? (i := 291) (by decide +kernel)⟩
theorem lw_p4 : lw_okq (⟨"Bgpreplay", "needPeer", "(I)V"⟩, 6) := ⟨⟨by decide +kernel, by decide +kernel⟩, List.mem_of_getElem? (i := 20) (by decide +kernel), List.mem_of_getElem? (i := 374) (by decide +kernel), List.mem_of_getElem? (i := 375) (by decide +kernel)⟩
theorem lw_p5 : lw_okq (⟨"Bgpreplay", "needPrefix", "(II)LBgpreplay$Prefix;"⟩, 6) := ⟨⟨by decide +kernel, by decide +kernel⟩, List.mem_of_getElem? (i := 20) (by decide +kernel), List.mem_of_getElem? (i := 395) (by decide +kernel), List.mem_of_getElem? (i := 396) (by decide +kernel)⟩
theorem lw_p6 : lw_okq (⟨"Bgpreplay", "needRoomForUpdate", "()V"⟩, 6) := ⟨⟨by decide +kernel, by decide +kernel⟩, List.mem_of_getElem? (i := 20) (by decide +kernel), List.mem_of_getElem? (i := 434) (by decide +kernel), List.mem_of_getElem? (i := 435) (by decide +kernel)⟩
theorem lw_p7 : lw_okq (⟨"Bgpreplay", "endRoute", "(LBgpreplay$Route;)V"⟩, 6) := ⟨⟨by decide +kernel, by decide +kernel⟩, List.mem_of_getElem? (i := 20) (by decide +kernel), List.mem_of_getElem? (i := 444) (by decide +kernel), List.mem_of_getElem? (i := 445) (by decide +kernel)⟩
theorem lw_p8 : lw_okq (⟨"Bgpreplay", "needRoute", "(III)LBgpreplay$Route;"⟩, 6) := ⟨⟨by decide +kernel, by decide +kernel⟩, List.mem_of_getElem? (i := 20) (by decide +kernel), List.mem_of_getElem? (i := 512) (by decide +kernel), List.mem_of_getElem? (i := 513) (by decide +kernel)⟩
theorem lw_p9 : lw_okq (⟨"Bgpreplay", "needAddress", "(I)V"⟩, 6) := ⟨⟨by decide +kernel, by decide +kernel⟩, List.mem_of_getElem? (i := 20) (by decide +kernel), List.mem_of_getElem? (i := 577) (by decide +kernel), List.mem_of_getElem? (i := 578) (by decide +kernel)⟩
theorem lw_p10 : lw_okq (⟨"BgpreplayModel", "clearTable", "(I)V"⟩, 16) := ⟨⟨by decide +kernel, by decide +kernel⟩, List.mem_of_getElem? (i := 753) (by decide +kernel), List.mem_of_getElem? (i := 759) (by decide +kernel), List.mem_of_getElem? (i := 760) (by decide +kernel)⟩
theorem lw_p11 : lw_okq (⟨"BgpreplayModel", "update", "(III)V"⟩, 16) := ⟨⟨by decide +kernel, by decide +kernel⟩, List.mem_of_getElem? (i := 753) (by decide +kernel), List.mem_of_getElem? (i := 852) (by decide +kernel), List.mem_of_getElem? (i := 853) (by decide +kernel)⟩
theorem lw_p12 : lw_okq (⟨"BgpreplayModel", "apply", "(II)V"⟩, 16) := ⟨⟨by decide +kernel, by decide +kernel⟩, List.mem_of_getElem? (i := 753) (by decide +kernel), List.mem_of_getElem? (i := 856) (by decide +kernel), List.mem_of_getElem? (i := 857) (by decide +kernel)⟩
theorem lw_p13 : lw_okq (⟨"BgpreplayModel", "route", "(III)I"⟩, 16) := ⟨⟨by decide +kernel, by decide +kernel⟩, List.mem_of_getElem? (i := 753) (by decide +kernel), List.mem_of_getElem? (i := 864) (by decide +kernel), List.mem_of_getElem? (i := 865) (by decide +kernel)⟩
theorem lw_p14 : lw_okq (⟨"BgpreplayModel", "routesOf", "(I)I"⟩, 16) := ⟨⟨by decide +kernel, by decide +kernel⟩, List.mem_of_getElem? (i := 753) (by decide +kernel), List.mem_of_getElem? (i := 868) (by decide +kernel), List.mem_of_getElem? (i := 869) (by decide +kernel)⟩
theorem lw_p15 : lw_okq (⟨"BgpreplayModel", "best", "(II)I"⟩, 16) := ⟨⟨by decide +kernel, by decide +kernel⟩, List.mem_of_getElem? (i := 753) (by decide +kernel), List.mem_of_getElem? (i := 888) (by decide +kernel), List.mem_of_getElem? (i := 889) (by decide +kernel)⟩
def lw_privs_1 : List (MethodName × Nat) := [(⟨"Bgpreplay$Tree", "isThere", "(I)Z"⟩, 3), (⟨"Bgpreplay$Tree", "originBits", "(I)I"⟩, 3), (⟨"Bgpreplay$History", "fillBest", "([LBgpreplay$Route;I)V"⟩, 6), (⟨"java/lang/Throwable", "fillInStackTrace", "(I)Ljava/lang/Throwable;"⟩, 6), (⟨"Bgpreplay", "needPeer", "(I)V"⟩, 6), (⟨"Bgpreplay", "needPrefix", "(II)LBgpreplay$Prefix;"⟩, 6), (⟨"Bgpreplay", "needRoomForUpdate", "()V"⟩, 6), (⟨"Bgpreplay", "endRoute", "(LBgpreplay$Route;)V"⟩, 6), (⟨"Bgpreplay", "needRoute", "(III)LBgpreplay$Route;"⟩, 6), (⟨"Bgpreplay", "needAddress", "(I)V"⟩, 6), (⟨"BgpreplayModel", "clearTable", "(I)V"⟩, 16), (⟨"BgpreplayModel", "update", "(III)V"⟩, 16), (⟨"BgpreplayModel", "apply", "(II)V"⟩, 16), (⟨"BgpreplayModel", "route", "(III)I"⟩, 16), (⟨"BgpreplayModel", "routesOf", "(I)I"⟩, 16), (⟨"BgpreplayModel", "best", "(II)I"⟩, 16)]
theorem lw_r1 : ∀ q ∈ lw_privs_1, lw_okq q := List.forall_mem_cons.mpr ⟨lw_p0, List.forall_mem_cons.mpr ⟨lw_p1, List.forall_mem_cons.mpr ⟨lw_p2, List.forall_mem_cons.mpr ⟨lw_p3, List.forall_mem_cons.mpr ⟨lw_p4, List.forall_mem_cons.mpr ⟨lw_p5, List.forall_mem_cons.mpr ⟨lw_p6, List.forall_mem_cons.mpr ⟨lw_p7, List.forall_mem_cons.mpr ⟨lw_p8, List.forall_mem_cons.mpr ⟨lw_p9, List.forall_mem_cons.mpr ⟨lw_p10, List.forall_mem_cons.mpr ⟨lw_p11, List.forall_mem_cons.mpr ⟨lw_p12, List.forall_mem_cons.mpr ⟨lw_p13, List.forall_mem_cons.mpr ⟨lw_p14, List.forall_mem_cons.mpr ⟨lw_p15, fun _ h => absurd h List.not_mem_nil⟩⟩⟩⟩⟩⟩⟩⟩⟩⟩⟩⟩⟩⟩⟩⟩
theorem lw_p16 : lw_okq (⟨"BgpreplayModel", "lengthFound", "(II)I"⟩, 16) := ⟨⟨by decide +kernel, by decide +kernel⟩, List.mem_of_getElem? (i := 753) (by decide +kernel), List.mem_of_getElem? (i := 904) (by decide +kernel), List.mem_of_getElem? (i := 905) (by decide +kernel)⟩
theorem lw_p17 : lw_okq (⟨"BgpreplayModel", "found", "(II)I"⟩, 16) := ⟨⟨by decide +kernel, by decide +kernel⟩, List.mem_of_getElem? (i := 753) (by decide +kernel), List.mem_of_getElem? (i := 908) (by decide +kernel), List.mem_of_getElem? (i := 909) (by decide +kernel)⟩
theorem lw_p18 : lw_okq (⟨"BgpreplayModel", "originsOf", "(I)I"⟩, 16) := ⟨⟨by decide +kernel, by decide +kernel⟩, List.mem_of_getElem? (i := 753) (by decide +kernel), List.mem_of_getElem? (i := 924) (by decide +kernel), List.mem_of_getElem? (i := 925) (by decide +kernel)⟩
theorem lw_p19 : lw_okq (⟨"BgpreplayModel", "origin", "(I)I"⟩, 16) := ⟨⟨by decide +kernel, by decide +kernel⟩, List.mem_of_getElem? (i := 753) (by decide +kernel), List.mem_of_getElem? (i := 928) (by decide +kernel), List.mem_of_getElem? (i := 929) (by decide +kernel)⟩
theorem lw_p20 : lw_okq (⟨"BgpreplayModel", "replay", "(II)V"⟩, 16) := ⟨⟨by decide +kernel, by decide +kernel⟩, List.mem_of_getElem? (i := 753) (by decide +kernel), List.mem_of_getElem? (i := 963) (by decide +kernel), List.mem_of_getElem? (i := 964) (by decide +kernel)⟩
theorem lw_p21 : lw_okq (⟨"BgpreplayModel", "areAlike", "(II)Z"⟩, 16) := ⟨⟨by decide +kernel, by decide +kernel⟩, List.mem_of_getElem? (i := 753) (by decide +kernel), List.mem_of_getElem? (i := 975) (by decide +kernel), List.mem_of_getElem? (i := 976) (by decide +kernel)⟩
def lw_privs_2 : List (MethodName × Nat) := [(⟨"BgpreplayModel", "lengthFound", "(II)I"⟩, 16), (⟨"BgpreplayModel", "found", "(II)I"⟩, 16), (⟨"BgpreplayModel", "originsOf", "(I)I"⟩, 16), (⟨"BgpreplayModel", "origin", "(I)I"⟩, 16), (⟨"BgpreplayModel", "replay", "(II)V"⟩, 16), (⟨"BgpreplayModel", "areAlike", "(II)Z"⟩, 16)]
theorem lw_r2 : ∀ q ∈ lw_privs_2, lw_okq q := List.forall_mem_cons.mpr ⟨lw_p16, List.forall_mem_cons.mpr ⟨lw_p17, List.forall_mem_cons.mpr ⟨lw_p18, List.forall_mem_cons.mpr ⟨lw_p19, List.forall_mem_cons.mpr ⟨lw_p20, List.forall_mem_cons.mpr ⟨lw_p21, fun _ h => absurd h List.not_mem_nil⟩⟩⟩⟩⟩⟩
def lw_privs : List (MethodName × Nat) := lw_privs_1 ++ (lw_privs_2)
def lw_tbl : List Cond := k2_sels lw_privs ++ tables_1
theorem lw_privs_ok : ∀ q ∈ lw_privs, lw_okq q := by
  show ∀ q ∈ lw_privs_1 ++ (lw_privs_2), lw_okq q
  exact List.forall_mem_append.mpr ⟨lw_r1, lw_r2⟩

/-! ===== BEGIN words of one list among another's, by their places ===== -/
theorem goodIn_r {big : List Cond} (ws : List Cond) (ps : List Nat) (hp : ws = ps.filterMap (fun i => big[i]?)) (h : ws.all goodWord = true) : GoodIn big ws := by
  intro w hw
  have h1 := List.all_eq_true.mp h w hw
  rw [hp] at hw
  obtain ⟨i, -, hi⟩ := List.mem_filterMap.mp hw
  have hm : w ∈ big := by first | exact List.mem_of_getElem? hi | exact List.getElem?_mem hi
  exact ⟨hm, good_of_word h1⟩
theorem goodIn_app {big a b : List Cond} (ha : GoodIn big a) (hb : GoodIn big b) : GoodIn big (a ++ b) := fun w h => (List.mem_append.mp h).elim (ha w) (hb w)
theorem goodIn_ca {big a b : List Cond} {c : Cond} (ha : GoodIn big (c :: a)) (hb : GoodIn big b) : GoodIn big (c :: (a ++ b)) := fun w h => (List.mem_cons.mp h).elim (fun e => ha w (List.mem_cons.mpr (Or.inl e))) (fun h => (List.mem_append.mp h).elim (fun h => ha w (List.mem_cons.mpr (Or.inr h))) (hb w))
theorem goodIn_sub {big ws : List Cond} (hm : ∀ w ∈ ws, w ∈ big) (h : ws.all goodWord = true) : GoodIn big ws := fun w hw => ⟨hm w hw, good_of_word (List.all_eq_true.mp h w hw)⟩
/-! ===== END ===== -/

/-! ===== BEGIN new T[n][m]: the outer array a place, the inner ones among the pooled ===== -/
/-- f, but v at every address of l -/
def vr_up {α : Type} (f : Nat → α) (l : List Nat) (v : α) : Nat → α := fun a => if a ∈ l then v else f a
theorem vr_up_in {α : Type} {f : Nat → α} {l : List Nat} {v : α} {a : Nat} (h : a ∈ l) : vr_up f l v a = v := if_pos h
theorem vr_up_ne {α : Type} {f : Nat → α} {l : List Nat} {v : α} {a : Nat} (h : a ∉ l) : vr_up f l v a = f a := if_neg h
theorem vr_rows {L l : List Nat} {f : Nat → va_E} {e : va_E} (h : ∀ a, a ∈ l → a ∉ L) : va_pl L f ++ l.map (fun a => (a, e)) = va_pl (L ++ l) (vr_up f l e) := by
  unfold va_pl
  rw [List.map_append]
  congr 1
  · apply List.map_congr_left
    intro a ha
    rw [vr_up_ne (fun q => h a q ha)]
  · apply List.map_congr_left
    intro a ha
    rw [vr_up_in ha]
theorem vr_lay {X rows : va_W} {x : Nat × va_E} {pl : va_W} {D : va_G} {cl : List vw_C} {H : Heap} (hP : va_P D cl (((X ++ pl) ++ [x]) ++ rows) H) : va_P D cl ((X ++ [x]) ++ (pl ++ rows)) H := by
  rw [List.append_assoc (X ++ pl)] at hP
  have h := va_P.swap hP
  rw [← List.append_assoc X] at h
  have h2 := va_P.swap h
  rw [List.append_assoc (X ++ [x])] at h2
  exact h2
theorem vr_layD {X rows : va_W} {x : Nat × va_E} {pl : va_W} {A : Nat → Prop} (hD : va_D A (((X ++ pl) ++ [x]) ++ rows)) : va_D A ((X ++ [x]) ++ (pl ++ rows)) := by
  rw [List.append_assoc (X ++ pl)] at hD
  have h := va_D.swap hD
  rw [← List.append_assoc X] at h
  have h2 := va_D.swap h
  rw [List.append_assoc (X ++ [x])] at h2
  exact h2
theorem vr_outer (c : ClassId) (N h0 : Nat) : ∀ i : Nat, Jvm.Free.Multi.outerC c N h0 i = arrV c N (fun j => va_rf (if j < i then some (h0 + 1 + j) else none))
  | 0 => by
    show ({ cls := c, slots := Array.replicate N .null, vm := .none } : Cell) = _
    rw [arrV_new]
    refine congrArg (arrV c N) (funext fun j => ?_)
    simp [va_rf]
  | i + 1 => by
    show (Jvm.Free.Multi.outerC c N h0 i).setSlot i (.ref (h0 + 1 + i)) = _
    rw [vr_outer c N h0 i, arrV_store]
    refine congrArg (arrV c N) (funext fun j => ?_)
    by_cases e : j = i
    · subst e
      simp [updV, va_rf]
    · by_cases h : j < i
      · simp [updV, e, h, Nat.lt_succ_of_lt h]
      · simp [updV, e, h, show ¬ j < i + 1 by omega]
/-- an array class over arrays: the word, of any arguments (the kit names it, and doesn't define it) -/
def va_AOA (ty : FieldType) (U : State) : Prop := (Cond.arrayOver (.array ty)).before #[] U = true
theorem va_AOA.use {ty : FieldType} {A : Array Value} {U : State} (h : va_AOA ty U) : (Cond.arrayOver (.array ty)).before A U = true := h
section VGM
variable {p : Program} {l : Launch} {e : Env} {R : Room} {s : State} {m : MethodId} {args : Array Value} {below : List Frame} {meth : Method} {c : Code} {H : Heap} {locs : List Loc} {cells slots : Nat} {Q : State → Prop}
variable {cc : ByteArray} {pc : Nat} {ls : Array Slot} {rest : List Value} {D : va_G} {cl : List vw_C} {A : Nat → Prop} {a : Nat} {tys : List (ClassId × FieldType)} {ws : va_W} {H0 : Heap}
theorem va_mna {X : va_W} {L : List Nat} {f : Nat → va_E} {cc : ByteArray} (hexec : p.tables.exec = Jvm.exec) (hb : c.code = cc) {own : String} {index : Nat} {ty : FieldType} {cy : ClassId} (hown : s.vm.findClass own = some m.cls) (hclink : (Cond.classLink own index ("[" ++ (FieldType.array ty).toString)).before args s = true) (hover : va_AOA ty s) (harr : (Cond.arrayClass ty).before args s = true) (hcy : s.vm.findClass (FieldType.array ty).toString = some cy)
    (hK : va_K D cl tys s) (hP : va_P D cl (X ++ va_pl L f) H) (hD : va_D A (X ++ va_pl L f)) (hS : va_S A H0 H locs) (hA : ∀ q, H0.size ≤ q → A q) {n k : Int32} {N' K' : Nat} {z : vp_A} (hn : ¬ n < 0) (hk : ¬ k < 0) (hN : n.toNatClampNeg = N') (hM : k.toNatClampNeg = K')
    (hb1 : N' * 4 ≤ 536870912) (hb2 : K' * componentBytes ty ≤ 536870912) (hb3 : K' ≤ 536870912) (hdf : fits ty (defaultValue ty) = true) (hdd : (defaultValue ty).isDefault = true) (hcells : cells + (1 + N') ≤ R.cells) (hslots : slots + (N' + N' * K') ≤ R.slots) (hz : ∀ c : ClassId, Jvm.Free.Multi.innerC c K' (defaultValue ty) = vp_cell c z) (hdg : decode cc pc = .ok (.multianewarray index 2, 4))
    (kk : ∀ (q : Nat) (r : Nat → Nat) (cA : ClassId) (H1 : Heap), (∀ i j : Nat, i < N' → j < N' → r i = r j → i = j) → (∀ i : Nat, i < N' → r i ∉ L) → va_K D cl (tys ++ [(cA, .array ty)]) s →
      va_P D cl ((X ++ [(q, .inl (cA, N', .inr (.inr (.inr (.inr (fun i => if i < N' then some (r i) else none))))))]) ++ va_pl (L ++ (List.range N').map r) (vr_up f ((List.range N').map r) (.inl (cy, z)))) H1 → va_D A ((X ++ [(q, .inl (cA, N', .inr (.inr (.inr (.inr (fun i => if i < N' then some (r i) else none))))))]) ++ va_pl (L ++ (List.range N').map r) (vr_up f ((List.range N').map r) (.inl (cy, z)))) → va_S A H0 H1 locs →
      W p l e R s m args below meth c H1 locs (cells + 1 + N') (slots + N' + N' * K') Q (F0 m (pc + 4) ls (.ref q :: rest))) : W p l e R s m args below meth c H locs cells slots Q (F0 m pc ls (.int k :: .int n :: rest)) := by
  subst hN
  subst hM
  intro T hT Xs
  obtain ⟨vm₁, cA, comp, -, fA, fC, hO, -, X', step⟩ := Xs.multianewarray2F hexec hown hclink (va_AOA.use hover) harr (g := F0 m pc ls (.int k :: .int n :: rest)) rfl (by rw [hb]; exact hdg) rfl hn hk hb1 hb2 hb3 hdf hdd hcells hslots
  have ec : some cy = some comp := hcy.symm.trans fC
  cases ec
  generalize hF : Jvm.Free.Multi.fill (T.setVm vm₁) cA cy n.toNatClampNeg k.toNatClampNeg (defaultValue ty) n.toNatClampNeg = F at X' step
  have hTh : (T.setVm vm₁).heap = H := hT
  obtain ⟨f1, f2, -, -⟩ := Jvm.Free.Multi.fill_facts (T.setVm vm₁) cA cy n.toNatClampNeg k.toNatClampNeg (defaultValue ty) n.toNatClampNeg
  rw [hF, hTh] at f1 f2
  have hold : ∀ x : Nat, x < H.size → F.heap[x]? = H[x]? := fun x hx => by
    have := Jvm.Free.Multi.fill_old (T.setVm vm₁) cA cy n.toNatClampNeg k.toNatClampNeg (defaultValue ty) (a := x) (by rw [hTh]; exact hx) n.toNatClampNeg
    rw [hF, hTh] at this
    exact this
  have hrow : ∀ j : Nat, j < n.toNatClampNeg → F.heap[H.size + 1 + j]? = some (vp_cell cy z) := fun j hj => by
    have := Jvm.Free.Multi.fill_inner (T.setVm vm₁) cA cy n.toNatClampNeg k.toNatClampNeg (defaultValue ty) n.toNatClampNeg j hj
    rw [hF, hTh, hz] at this
    exact this
  have hout : Jvm.Free.Multi.outerC cA n.toNatClampNeg H.size n.toNatClampNeg = vp_cell cA (n.toNatClampNeg, .inr (.inr (.inr (.inr (fun i => if i < n.toNatClampNeg then some (H.size + 1 + i) else none))))) := by
    rw [vp_cell_q]
    exact vr_outer cA n.toNatClampNeg H.size n.toNatClampNeg
  rw [hout] at f2
  have hlt : ∀ a, a ∈ L → a < H.size := fun a ha => by
    obtain ⟨k9, hk9⟩ := va_pl_get (X := X) (f := f) ha
    exact (hP k9 _ hk9).lt
  have hnl : ∀ i : Nat, i < n.toNatClampNeg → H.size + 1 + i ∉ L := fun i _ h => by
    have := hlt _ h
    omega
  have hnm : ∀ a, a ∈ (List.range n.toNatClampNeg).map (fun i => H.size + 1 + i) → a ∉ L := fun a ha h => by
    obtain ⟨i, -, rfl⟩ := List.mem_map.mp ha
    have := hlt _ h
    omega
  have hP0 : va_P D cl (X ++ va_pl L f) F.heap := hP.kept (fun k9 x hx => hold x.1 ((hP k9 x hx).lt))
  have hP1 : va_P D cl ((X ++ va_pl L f) ++ [(H.size, .inl (cA, n.toNatClampNeg, .inr (.inr (.inr (.inr (fun i => if i < n.toNatClampNeg then some (H.size + 1 + i) else none))))))]) F.heap := hP0.app (fun k9 x hx => by
    have h0 : k9 < 1 := (List.getElem?_eq_some_iff.mp hx).1
    rw [show k9 = 0 by omega] at hx
    cases hx
    exact f2)
  have hP2 : va_P D cl (((X ++ va_pl L f) ++ [(H.size, .inl (cA, n.toNatClampNeg, .inr (.inr (.inr (.inr (fun i => if i < n.toNatClampNeg then some (H.size + 1 + i) else none))))))]) ++ ((List.range n.toNatClampNeg).map (fun i => H.size + 1 + i)).map (fun a => (a, .inl (cy, z)))) F.heap := hP1.app (fun k9 x hx => by
    obtain ⟨a, ha, rfl⟩ := List.mem_map.mp (List.mem_of_getElem? hx)
    obtain ⟨i, hi, rfl⟩ := List.mem_map.mp ha
    exact hrow i (List.mem_range.mp hi))
  have hD2 : va_D A (((X ++ va_pl L f) ++ [(H.size, .inl (cA, n.toNatClampNeg, .inr (.inr (.inr (.inr (fun i => if i < n.toNatClampNeg then some (H.size + 1 + i) else none))))))]) ++ ((List.range n.toNatClampNeg).map (fun i => H.size + 1 + i)).map (fun a => (a, .inl (cy, z)))) := by
    have hD1 := hD.push (e := .inl (cA, n.toNatClampNeg, .inr (.inr (.inr (.inr (fun i => if i < n.toNatClampNeg then some (H.size + 1 + i) else none)))))) hP rfl (hA _ hS.1)
    generalize hW1 : (X ++ va_pl L f) ++ [(H.size, .inl (cA, n.toNatClampNeg, .inr (.inr (.inr (.inr (fun i => if i < n.toNatClampNeg then some (H.size + 1 + i) else none))))))] = W1 at hD1 hP1 ⊢
    have hle : ∀ (k9 : Nat) (x : Nat × va_E), W1[k9]? = some x → x.1 ≤ H.size := fun k9 x hx => by
      rw [← hW1] at hx
      by_cases hl : k9 < (X ++ va_pl L f).length
      · rw [List.getElem?_append_left hl] at hx
        exact Nat.le_of_lt ((hP k9 x hx).lt)
      · rw [List.getElem?_append_right (by omega)] at hx
        have h0 : k9 - (X ++ va_pl L f).length < 1 := (List.getElem?_eq_some_iff.mp hx).1
        rw [show k9 - (X ++ va_pl L f).length = 0 by omega] at hx
        cases hx
        exact Nat.le_refl _
    have hr : ∀ (k9 : Nat) (x : Nat × va_E), (((List.range n.toNatClampNeg).map (fun i => H.size + 1 + i)).map (fun a => ((a, .inl (cy, z)) : Nat × va_E)))[k9]? = some x → x.1 = H.size + 1 + k9 := fun k9 x hx => by
      rw [List.getElem?_map, List.getElem?_map] at hx
      by_cases h9 : k9 < n.toNatClampNeg
      · rw [List.getElem?_range h9] at hx
        cases hx
        rfl
      · have hn0 : (List.range n.toNatClampNeg)[k9]? = none := List.getElem?_eq_none (by rw [List.length_range]; omega)
        rw [hn0] at hx
        cases hx
    refine ⟨fun i j x y hi hj hxy => ?_, fun k9 x hx => ?_⟩
    · by_cases h1 : i < W1.length <;> by_cases h2 : j < W1.length
      · rw [List.getElem?_append_left h1] at hi
        rw [List.getElem?_append_left h2] at hj
        exact hD1.1 i j x y hi hj hxy
      · rw [List.getElem?_append_left h1] at hi
        rw [List.getElem?_append_right (by omega)] at hj
        have := hle _ _ hi
        have := hr _ _ hj
        omega
      · rw [List.getElem?_append_right (by omega)] at hi
        rw [List.getElem?_append_left h2] at hj
        have := hle _ _ hj
        have := hr _ _ hi
        omega
      · rw [List.getElem?_append_right (by omega)] at hi hj
        have := hr _ _ hi
        have := hr _ _ hj
        omega
    · by_cases h1 : k9 < W1.length
      · rw [List.getElem?_append_left h1] at hx
        exact hD1.2 k9 x hx
      · rw [List.getElem?_append_right (by omega)] at hx
        have := hr _ _ hx
        exact hA _ (by have := hS.1; omega)
  have hAr : ArrOfT s cA (.array ty) := fun N9 z9 => by
    obtain ⟨-, k9, hk9, cm9, hkk9⟩ := (hO 0 0 0).1
    exact ⟨(fun q hq => by cases hq), k9, hk9, cm9, hkk9⟩
  have hK2 : va_K D cl (tys ++ [(cA, .array ty)]) s := ⟨hK.1, fun k9 x hx => by
    by_cases hl : k9 < tys.length
    · rw [List.getElem?_append_left hl] at hx
      exact hK.2 k9 x hx
    · rw [List.getElem?_append_right (by omega)] at hx
      have h0 : k9 - tys.length < 1 := (List.getElem?_eq_some_iff.mp hx).1
      rw [show k9 - tys.length = 0 by omega] at hx
      cases hx
      exact ⟨hAr, fA⟩⟩
  obtain ⟨t, a1, b1⟩ := kk H.size (fun i => H.size + 1 + i) cA F.heap (fun i j _ _ h => by have h9 : H.size + 1 + i = H.size + 1 + j := h; omega) hnl hK2 (by rw [← vr_rows hnm]; exact vr_lay hP2) (by rw [← vr_rows hnm]; exact vr_layD hD2) ⟨by rw [f1]; have := hS.1; omega, fun x h1 h2 => (hold x (Nat.lt_of_lt_of_le h1 hS.1)).trans (hS.2.1 x h1 h2), hS.2.2⟩ F rfl X'
  refine ⟨t, step t ?_, b1⟩
  have e : T.heap.size = H.size := by rw [hT]
  rw [e]
  exact a1
end VGM
/-! ===== END ===== -/

/-! ===== BEGIN exceptions that leave a method, and their catching by the caller (launches without stack traces) ===== -/
section VXA
/-! The laws vx_back, vx_callV, vx_callS, vx_callSW, vx_throw0, vx_throwS follow proofs of the library, with one case more: JvmDerived/Free/Laws.lean (Back.of_free), Shelf42/LK1.lean (callV, callS), Shelf/KitTraced.lean (throwNew0V, throwNewS). -/
/-- where a method has thrown q: the class by its name, the cell, what was written, the world -/
def vx_T (XC : String → State → State → Prop) (st : State) (q : Addr) (t : State) (mc ms : Nat) (free : Addr → Prop) : Prop :=
  ∃ (E : String) (ce : Cell) (L : List Loc), XC E st t ∧ t.heap[q]? = some ce ∧ ce.vm = .none ∧ st.vm.findClass E = some ce.cls ∧ st.WarmedH t.vm ∧ st.sameButNew ({ t with vm := st.vm } : State) L mc ms ∧ ∀ z ∈ L, free z.base
def vx_Q (Qc : Array Value → State → Outcome → State → Prop) (XC : String → State → State → Prop) (mc ms : Nat) (free : Addr → Prop) : Array Value → State → Outcome → State → Prop := fun a st o t =>
  (Qc a st o t ∧ ∃ L, FrameEnd st o t L mc ms ∧ ∀ q ∈ L, free q.base) ∨ ∃ q, o = .threw q ∧ vx_T XC st q t mc ms free
/-- a callee that returns or throws -/
def vx_Met (l : Launch) (y : MethodName) (ws : List Cond) (rm : Room) (Pc : Array Value → State → Prop) (Qc : Array Value → State → Outcome → State → Prop) (XC : String → State → State → Prop) (mc ms : Nat) (free : Addr → Prop) : Prop :=
  MetFree l y (headSpec ws rm) Pc (fun _ _ _ _ _ => True) (vx_Q Qc XC mc ms free)
def vx_Post (XC : String → State → State → Prop) (mc ms : Nat) (free : Addr → Prop) : Pt → Array Value → Addr → Pt → Prop := fun A a q B =>
  ∃ (g : JFrame) (mk : MethodId) (t : State) (L : List Loc) (E : String) (ce : Cell), B.U.heap = t.heap ∧ B.U.vm = t.vm ∧ XC E (A.U.calling g mk a) t ∧ t.heap[q]? = some ce ∧ ce.vm = .none ∧ A.U.vm.findClass E = some ce.cls ∧ B.locs = A.locs ++ L ∧ (∀ z ∈ L, free z.base) ∧ B.cells = A.cells + mc ∧ B.slots = A.slots + ms
def vx_Back (l : Launch) (R : Room) (p : Program) (e : Env) (below : List Frame) (s : State) (sargs : Array Value) (y : MethodName) (len W9 : Nat)
    (Pre : Pt → Array Value → Prop) (Post : Pt → Array Value → Option Value → Pt → Prop) (PostX : Pt → Array Value → Addr → Pt → Prop) : Prop :=
  ∀ (m : MethodId) (meth : Method) (c : Code) (A : Pt) (g : JFrame) (ig : Instr) (mk : MethodId) (a : Array Value),
    Stand p l e R s m sargs below meth c A.U A.locs A.cells A.slots → g.method = m → g.locals.size = c.maxLocals → decode c.code g.pc = .ok (ig, len) →
    2 * g.monitorRoom + (g.stack.map fun v => v.category).sum ≤ W9 → A.U.methodNamed? y = some mk → Pre A a →
    (∃ (v : Option Value) (B : Pt), Stand p l e R s m sargs below meth c B.U B.locs B.cells B.slots ∧ Post A a v B ∧
      Steps p.tables e below (doInvoke e (A.U.setTop g) [] mk a).1 (B.U.setTop { g with pc := g.pc + len, stack := v.toList ++ g.stack })) ∨
    (∃ (q : Addr) (B : Pt), Stand p l e R s m sargs below meth c B.U B.locs B.cells B.slots ∧ PostX A a q B ∧
      Steps p.tables e below (doInvoke e (A.U.setTop g) [] mk a).1 ((B.U.setTop g).pushFrame (.throwing q)))
section Payer
variable {l : Launch} {R : Room} {p : Program} {e : Env} {below : List Frame} {s : State} {sargs : Array Value} {y : MethodName} {len W9 : Nat}
theorem vx_back {ws : List Cond} {rm : Room} {Pc : Array Value → State → Prop} {Qc : Array Value → State → Outcome → State → Prop} {XC : String → State → State → Prop} {mc ms : Nat} {free : Addr → Prop} {bytes : ByteArray} {maxL : Nat} {ret : Option FieldType}
    (hM : vx_Met l y ws rm Pc Qc XC mc ms free) (hblind : FrameBlind Pc) (hrc : rm.cells = mc) (hrs : rm.slots = ms)
    (hframes : rm.frames + 1 ≤ R.frames) (hlocals : W9 + (maxL + 11) + rm.locals ≤ R.locals)
    (hws : ∀ w ∈ ws, ∀ a' U, s.WarmedH U.vm → w.before a' U = true) (hcode : Cond.code y bytes maxL ret ∈ ws) (hinit : ∀ a' U, s.WarmedH U.vm → (Cond.initialized y.cls).before a' U = true) :
    vx_Back l R p e below s sargs y len W9 (PreOf R mc ms Pc) (PostOf Qc mc ms free) (vx_Post XC mc ms free) := by
  intro m meth c A g ig mk a X hg hsize hdg hW hn hp
  have h1 : (headSpec ws rm).pre.before a A.U = true := atoms_intro fun w hw => hws w hw _ _ X.warmed
  have h2 : (Cond.code y bytes maxL ret).before a A.U = true := hws _ hcode _ _ X.warmed
  have h3 : (Cond.initialized y.cls).before a A.U = true := hinit _ _ X.warmed
  have h4 : A.cells + (headSpec ws rm).room.cells ≤ R.cells := by rw [show (headSpec ws rm).room.cells = mc from hrc]; exact hp.1
  have h5 : A.slots + (headSpec ws rm).room.slots ≤ R.slots := by rw [show (headSpec ws rm).room.slots = ms from hrs]; exact hp.2.1
  have hPc : Pc a (A.U.calling g mk a) := hblind _ _ _ _ hp.2.2
  obtain ⟨U, Ls, c0, s0⟩ := A
  dsimp only [Pt.U, Pt.locs, Pt.cells, Pt.slots] at h1 h2 h3 h4 h5 X hn hPc ⊢
  obtain ⟨methY, cY, hmY, hcY, -, hlY, -, -, -, -⟩ := Cond.code_spec hn h2
  obtain ⟨kY, hkY, -⟩ := className_of_methodNamed hn
  have hinitY : kY.init = .initialized := Cond.initialized_spec (findClass_of_methodNamed hn) hkY h3
  have h : At U g.method c below := by rw [hg]; exact X.here
  have hlocals9 : W9 + (maxL + 11) + (headSpec ws rm).room.locals ≤ R.locals := hlocals
  have happ : (headSpec ws rm).appliesLoose y e.platform (U.calling g mk a) = true :=
    Spec.appliesLoose_calling (g := g) h hdg hn hkY hinitY
      (X.room_calling (g := g) (R' := (headSpec ws rm).room) hsize hmY hcY hframes (by rw [hlY]; omega) h4 h5) h1
  obtain ⟨mid, hmid⟩ := h.above
  have hfr : (U.setTop g).frames = (.java g :: mid) ++ below := by rw [State.frames_setTop' g h.top, hmid]; rfl
  obtain ⟨o, s₂, hsteps, -, hend, hq⟩ := Steps.callFree hM p X.admits X.cas X.clock (acts := []) hfr happ hPc trivial
  have hq' : vx_Q Qc XC mc ms free a (U.calling g mk a) o s₂ := hq
  rw [State.frames_setTop' g h.top] at hend
  obtain ⟨g₀, hg0⟩ := Option.isSome_iff_exists.mp h.top
  obtain ⟨r, hr⟩ := State.topJava?_eq_some.mp hg0
  have hr' : (({ U with heap := s₂.heap, slotsUsed := s₂.slotsUsed } : State).setVm s₂.vm).frames = .java g₀ :: r := hr
  rcases hq' with ⟨hqc, L, hfe, hL⟩ | ⟨q, rfl, E, ce, L, hx, hce, hcv, hcl, hW₂, hsm, hL⟩
  · obtain ⟨⟨v, rfl⟩, hW₂, e2, q2, q3, q4, q5, q6⟩ := id hfe
    have e3 : s₂ = ({ (U.calling g mk a).setFrames s₂.frames with heap := s₂.heap, slotsUsed := s₂.slotsUsed } : State).setVm s₂.vm := by
      have : s₂ = ({ s₂ with vm := (U.calling g mk a).vm } : State).setVm s₂.vm := rfl
      rw [e2] at this
      exact this
    obtain ⟨c₂, i₂, len₂, hc₂, hd₂, hf₂⟩ := hend
    have hW' : U.WarmedH s₂.vm := hW₂
    have hcc : c₂ = c := by
      have h1 : s₂.code? g.method = U.code? g.method := by
        rw [State.code?_eq, State.code?_eq, hW'.alike.method?]
      exact Option.some.inj (hc₂.symm.trans (h1.trans h.code))
    subst hcc
    have hlen : len₂ = len := by rw [hdg] at hd₂; cases hd₂; rfl
    subst hlen
    have hs₂ : s₂ = (({ U with heap := s₂.heap, slotsUsed := s₂.slotsUsed } : State).setVm s₂.vm).setTop { g with pc := g.pc + len₂, stack := v.toList ++ g.stack } := by
      refine e3.trans ?_
      rw [hf₂, State.calling_eq h.top, State.setFrames_setFrames, State.setTop_of_frames _ hr', hr]
      rfl
    have hsame : U.sameButNew ({ U with heap := s₂.heap, slotsUsed := s₂.slotsUsed } : State) L mc ms := by
      refine ⟨?_, q2, q3, q4, q5, q6⟩
      obtain ⟨t, ht, -⟩ := State.frames_cons hr
      show ({ U with heap := s₂.heap, slotsUsed := s₂.slotsUsed } : State) = { U.setFrames U.frames with heap := s₂.heap, slotsUsed := s₂.slotsUsed }
      rw [State.setFrames_self ht]
    subst hg
    refine Or.inl ⟨v, ⟨(({ U with heap := s₂.heap, slotsUsed := s₂.slotsUsed } : State).setVm s₂.vm), Ls ++ L, c0 + mc, s0 + ms⟩,
      ⟨X.admits, X.cas, X.clock, X.frames, X.room, X.hears, X.method, X.code, (X.here.setHeapUsed s₂.heap s₂.slotsUsed).setVm hW'.alike, X.tail, State.WarmedH.trans X.warmed hW', X.limits, X.bytes, X.same.trans (hsame.setVm s.vm)⟩,
      ⟨g, mk, s₂, L, rfl, rfl, hqc, rfl, hL, rfl, rfl⟩, ?_⟩
    show Steps p.tables e below _ ((({ U with heap := s₂.heap, slotsUsed := s₂.slotsUsed } : State).setVm s₂.vm).setTop { g with pc := g.pc + len₂, stack := v.toList ++ g.stack })
    rw [← hs₂]
    exact hsteps
  · obtain ⟨e2, q2, q3, q4, q5, q6⟩ := id hsm
    have e3 : s₂ = ({ (U.calling g mk a).setFrames s₂.frames with heap := s₂.heap, slotsUsed := s₂.slotsUsed } : State).setVm s₂.vm := by
      have : s₂ = ({ s₂ with vm := (U.calling g mk a).vm } : State).setVm s₂.vm := rfl
      rw [e2] at this
      exact this
    have hf₂ : s₂.frames = .throwing q :: .java g :: U.frames.tail := hend
    have hW' : U.WarmedH s₂.vm := hW₂
    have hs₂ : s₂ = ((({ U with heap := s₂.heap, slotsUsed := s₂.slotsUsed } : State).setVm s₂.vm).setTop g).pushFrame (.throwing q) := by
      refine e3.trans ?_
      rw [hf₂, State.calling_eq h.top, State.setFrames_setFrames, State.pushFrame, State.frames_setTop _ hr', State.setTop_of_frames _ hr', State.setFrames_setFrames, hr]
      rfl
    have hsame : U.sameButNew ({ U with heap := s₂.heap, slotsUsed := s₂.slotsUsed } : State) L mc ms := by
      refine ⟨?_, q2, q3, q4, q5, q6⟩
      obtain ⟨t, ht, -⟩ := State.frames_cons hr
      show ({ U with heap := s₂.heap, slotsUsed := s₂.slotsUsed } : State) = { U.setFrames U.frames with heap := s₂.heap, slotsUsed := s₂.slotsUsed }
      rw [State.setFrames_self ht]
    subst hg
    refine Or.inr ⟨q, ⟨(({ U with heap := s₂.heap, slotsUsed := s₂.slotsUsed } : State).setVm s₂.vm), Ls ++ L, c0 + mc, s0 + ms⟩,
      ⟨X.admits, X.cas, X.clock, X.frames, X.room, X.hears, X.method, X.code, (X.here.setHeapUsed s₂.heap s₂.slotsUsed).setVm hW'.alike, X.tail, State.WarmedH.trans X.warmed hW', X.limits, X.bytes, X.same.trans (hsame.setVm s.vm)⟩,
      ⟨g, mk, s₂, L, E, ce, rfl, rfl, hx, hce, hcv, hcl, rfl, hL, rfl, rfl⟩, ?_⟩
    show Steps p.tables e below _ (((({ U with heap := s₂.heap, slotsUsed := s₂.slotsUsed } : State).setVm s₂.vm).setTop g).pushFrame (.throwing q))
    rw [← hs₂]
    exact hsteps
end Payer
section Calls
variable {p : Program} {l : Launch} {e : Env} {R : Room} {s : State} {m : MethodId} {args : Array Value} {below : List Frame} {meth : Method} {c : Code} {T : State} {locs : List Loc} {cells slots : Nat}
theorem vx_callV (X : Stand p l e R s m args below meth c T locs cells slots) (hexec : p.tables.exec = Jvm.exec) {own C : String} {index : Nat} {y : MethodName} {bytes : ByteArray} {maxL : Nat} {ret : Option FieldType}
    (hown : s.vm.findClass own = some m.cls) (hlink : (Cond.methodLink own index y).before args s = true) (hinst : (Cond.instanceMethod y).before args s = true) (hsel : (Cond.selects C y y).before args s = true)
    (hcode : (Cond.code y bytes maxL ret).before args s = true) (hy : y.cls ≠ "java/lang/invoke/MethodHandle" ∧ y.cls ≠ "java/lang/invoke/VarHandle")
    {W9 : Nat} {Pre : Pt → Array Value → Prop} {Post : Pt → Array Value → Option Value → Pt → Prop} {PostX : Pt → Array Value → Addr → Pt → Prop} (hK : vx_Back l R p e below s args y 3 W9 Pre Post PostX)
    {b : Addr} {cellB : Cell} (hcell : T.heap[b]? = some cellB) (hobj : cellB.vm.isStatics = false) (hcls : s.vm.findClass C = some cellB.cls)
    {g : JFrame} (hg : g.method = m) (hsize : g.locals.size = c.maxLocals) {argsL rest : List Value} (hlen : ∀ sig, parseMethodDescriptor y.desc = some sig → argsL.length = sig.parameters.length)
    (hstack : g.stack = argsL.reverse ++ .ref b :: rest) (hW : 2 * g.monitorRoom + (rest.map fun v => v.category).sum ≤ W9) (hdg : decode c.code g.pc = .ok (.invokevirtual index, 3))
    (hpre : ∀ vm₁, s.WarmedH vm₁ → Pre ⟨T.setVm vm₁, locs, cells, slots⟩ (Value.ref b :: argsL).toArray) :
    (∃ (v : Option Value) (vm₁ : Vm) (B : Pt), s.WarmedH vm₁ ∧ Stand p l e R s m args below meth c B.U B.locs B.cells B.slots ∧ Post ⟨T.setVm vm₁, locs, cells, slots⟩ (Value.ref b :: argsL).toArray v B ∧
      ∀ target, Steps p.tables e below (B.U.setTop { g with pc := g.pc + 3, stack := v.toList ++ rest }) target → Steps p.tables e below (T.setTop g) target) ∨
    (∃ (q : Addr) (vm₁ : Vm) (B : Pt), s.WarmedH vm₁ ∧ Stand p l e R s m args below meth c B.U B.locs B.cells B.slots ∧ PostX ⟨T.setVm vm₁, locs, cells, slots⟩ (Value.ref b :: argsL).toArray q B ∧
      Steps p.tables e below (T.setTop g) ((B.U.setTop { g with stack := rest }).pushFrame (.throwing q))) := by
  obtain ⟨mk, methM, hnamed, hmethM, hstM, habM⟩ := Cond.instanceMethod_spec hinst
  obtain ⟨methM', cM, hmethM', -, -, -, -, -, -, hsigM⟩ := Cond.code_spec hnamed hcode
  cases hmethM.symm.trans hmethM'
  obtain ⟨c2, r2, m2, q1, q2, q3, q4, kP, hkP, hkPi⟩ := Cond.selects_spec hsel
  cases hcls.symm.trans q1
  cases (State.methodFound?_of_named hnamed hy).symm.trans q2
  cases hnamed.symm.trans q3
  have hselP : selectMethod e.platform s.vm cellB.cls mk = .method mk := by rw [Launch.admits_selectMethod X.admits]; exact q4
  obtain ⟨vm₁, X₁, hstep₁⟩ := X.invokevirtual hexec hown hlink hnamed hmethM hstM hkP hkPi hy (a := b) (cell := cellB) hcell
    (fun z h => by rw [h] at hobj; cases hobj) hselP hmethM habM hkP hkPi (g := g) hg (argsL := argsL) (rest := rest) (hlen _ hsigM) hstack hdg
  rcases hK m meth c ⟨T.setVm vm₁, locs, cells, slots⟩ { g with stack := rest } (.invokevirtual index) mk (Value.ref b :: argsL).toArray X₁ hg hsize hdg hW (X₁.named hnamed) (hpre vm₁ X₁.warmed) with ⟨v, B, X', hpost, hsteps⟩ | ⟨q, B, X', hpost, hsteps⟩
  · exact Or.inl ⟨v, vm₁, B, X₁.warmed, X', hpost, fun target h => hstep₁ _ fun acts => by rw [doInvoke_state]; exact hsteps.trans h⟩
  · exact Or.inr ⟨q, vm₁, B, X₁.warmed, X', hpost, hstep₁ _ fun acts => by rw [doInvoke_state]; exact hsteps⟩
theorem vx_callS (X : Stand p l e R s m args below meth c T locs cells slots) (hexec : p.tables.exec = Jvm.exec) {own : String} {index : Nat} {y : MethodName} {bytes : ByteArray} {maxL : Nat} {ret : Option FieldType}
    (hown : s.vm.findClass own = some m.cls) (hlink : (Cond.methodLink own index y).before args s = true) (hstat : (Cond.static y).before args s = true) (hinit : (Cond.initialized y.cls).before args s = true)
    (hcode : (Cond.code y bytes maxL ret).before args s = true) (hy : y.cls ≠ "java/lang/invoke/MethodHandle" ∧ y.cls ≠ "java/lang/invoke/VarHandle")
    {W9 : Nat} {Pre : Pt → Array Value → Prop} {Post : Pt → Array Value → Option Value → Pt → Prop} {PostX : Pt → Array Value → Addr → Pt → Prop} (hK : vx_Back l R p e below s args y 3 W9 Pre Post PostX)
    {g : JFrame} (hg : g.method = m) (hsize : g.locals.size = c.maxLocals) {argsL rest : List Value} (hlen : ∀ sig, parseMethodDescriptor y.desc = some sig → argsL.length = sig.parameters.length)
    (hstack : g.stack = argsL.reverse ++ rest) (hW : 2 * g.monitorRoom + (rest.map fun v => v.category).sum ≤ W9) (hdg : decode c.code g.pc = .ok (.invokestatic index, 3))
    (hpre : ∀ vm₁, s.WarmedH vm₁ → Pre ⟨T.setVm vm₁, locs, cells, slots⟩ argsL.toArray) :
    (∃ (v : Option Value) (vm₁ : Vm) (B : Pt), s.WarmedH vm₁ ∧ Stand p l e R s m args below meth c B.U B.locs B.cells B.slots ∧ Post ⟨T.setVm vm₁, locs, cells, slots⟩ argsL.toArray v B ∧
      ∀ target, Steps p.tables e below (B.U.setTop { g with pc := g.pc + 3, stack := v.toList ++ rest }) target → Steps p.tables e below (T.setTop g) target) ∨
    (∃ (q : Addr) (vm₁ : Vm) (B : Pt), s.WarmedH vm₁ ∧ Stand p l e R s m args below meth c B.U B.locs B.cells B.slots ∧ PostX ⟨T.setVm vm₁, locs, cells, slots⟩ argsL.toArray q B ∧
      Steps p.tables e below (T.setTop g) ((B.U.setTop { g with stack := rest }).pushFrame (.throwing q))) := by
  obtain ⟨mk, hnamed⟩ := Cond.code_named hcode
  obtain ⟨methM, cM, hmethM, -, -, -, -, -, -, hsigM⟩ := Cond.code_spec hnamed hcode
  have hstatic : methM.isStatic = true := Cond.static_spec hnamed hmethM hstat
  obtain ⟨kP, hkP, -⟩ := className_of_methodNamed hnamed
  have hinitP : kP.init = .initialized := Cond.initialized_spec (findClass_of_methodNamed hnamed) hkP hinit
  obtain ⟨vm₁, X₁, hstep₁⟩ := X.invokestatic hexec hown hlink hnamed hmethM hstatic hkP hinitP hy (g := g) hg (argsL := argsL) (rest := rest) (hlen _ hsigM) hstack hdg
  rcases hK m meth c ⟨T.setVm vm₁, locs, cells, slots⟩ { g with stack := rest } (.invokestatic index) mk argsL.toArray X₁ hg hsize hdg hW (X₁.named hnamed) (hpre vm₁ X₁.warmed) with ⟨v, B, X', hpost, hsteps⟩ | ⟨q, B, X', hpost, hsteps⟩
  · exact Or.inl ⟨v, vm₁, B, X₁.warmed, X', hpost, fun target h => hstep₁ _ fun acts => by rw [doInvoke_state]; exact hsteps.trans h⟩
  · exact Or.inr ⟨q, vm₁, B, X₁.warmed, X', hpost, hstep₁ _ fun acts => by rw [doInvoke_state]; exact hsteps⟩
end Calls
theorem vx_cls {s : State} {T : State} {vm₁ : Vm} {E : String} {k : ClassId} (hW : s.WarmedH vm₁) (h : (T.setVm vm₁).vm.findClass E = some k) : s.vm.findClass E = some k := by
  have h1 : vm₁.findClass E = some k := h
  rw [hW.alike.findClass] at h1
  exact h1
/-- the method's frame g, with q thrown over it -/
def vx_W (p : Program) (l : Launch) (e : Env) (R : Room) (s : State) (m : MethodId) (args : Array Value) (below : List Frame) (meth : Method) (c : Code) (H : Heap) (locs : List Loc) (cells slots : Nat) (Q : State → Prop) (g : JFrame) (q : Addr) : Prop :=
  ∀ T : State, T.heap = H → Stand p l e R s m args below meth c T locs cells slots → ∃ t, Steps p.tables e below ((T.setTop g).pushFrame (.throwing q)) t ∧ Q t
def vx_Run (p : Program) (l : Launch) (e : Env) (R : Room) (s : State) (m : MethodId) (args : Array Value) (below : List Frame) (meth : Method) (c : Code) (H : Heap) (locs : List Loc) (cells slots mc ms : Nat) (g : JFrame) (rest : List Value) (Qa : State → Outcome → State → Prop) (XC : String → State → State → Prop) (free : Addr → Prop) : Prop :=
  ∀ T : State, T.heap = H → Stand p l e R s m args below meth c T locs cells slots →
    (∃ (v : Option Value) (st₀ t T' : State) (L : List Loc), st₀.heap = H ∧ Stand p l e R s m args below meth c T' (locs ++ L) (cells + mc) (slots + ms) ∧ (∀ q ∈ L, free q.base) ∧ T'.heap = t.heap ∧ T'.vm = t.vm ∧ Qa st₀ (.returned v) t ∧
      Goes p e below T g T' { g with pc := g.pc + 3, stack := v.toList ++ rest }) ∨
    (∃ (q : Addr) (st₀ t T' : State) (L : List Loc) (E : String) (ce : Cell), st₀.heap = H ∧ Stand p l e R s m args below meth c T' (locs ++ L) (cells + mc) (slots + ms) ∧ (∀ z ∈ L, free z.base) ∧ T'.heap = t.heap ∧ T'.vm = t.vm ∧ XC E st₀ t ∧ t.heap[q]? = some ce ∧ ce.vm = .none ∧ s.vm.findClass E = some ce.cls ∧
      Steps p.tables e below (T.setTop g) ((T'.setTop { g with stack := rest }).pushFrame (.throwing q)))
def vx_X {S : Type} (px : S → Prop) (B : String → S → State → Prop) (A : Nat → Prop) : String → State → State → Prop := fun E st t => ∃ u : S, px u ∧ B E u t ∧ va_F A st t
section Runs
variable {p : Program} {l : Launch} {e : Env} {R : Room} {s : State} {m : MethodId} {args : Array Value} {below : List Frame} {meth : Method} {c : Code} {H : Heap} {locs : List Loc} {cells slots : Nat}
variable {y : MethodName} {bytes cc : ByteArray} {maxL nL mc ms n index : Nat} {ret : Option FieldType} {ws : List Cond} {rm : Room} {Pc : Array Value → State → Prop} {Qc : Array Value → State → Outcome → State → Prop} {XC : String → State → State → Prop} {free : Addr → Prop} {Ts : List Cond} {own C : String} {b : Addr} {As rest : List Value} {g : JFrame}
theorem vx_callBack (cb : CallB R s args own index y bytes maxL ret ws rm mc ms n) (hM : vx_Met l y ws rm Pc Qc XC mc ms free) (hbl : FrameBlind Pc) : vx_Back l R p e below s args y 3 8 (PreOf R mc ms Pc) (PostOf Qc mc ms free) (vx_Post XC mc ms free) := by
  obtain ⟨hrc, hrs, hfr, hlo, hws, hcw, -, hini, -⟩ := cb
  exact vx_back (bytes := bytes) (maxL := maxL) (ret := ret) hM hbl hrc hrs hfr hlo hws hcw (fun a' U hW => word_at hW (Or.inl (by first | rfl | simp [Cond.onTables, Cond.keeps, Cond.steady])) hini)
theorem vx_runV (S : CallFix p m c cc nL s args Ts own) (hM : vx_Met l y ws rm Pc Qc XC mc ms free) (cw : CallW R s args own C index y bytes maxL ret ws rm mc ms n) (hp : PreV s H C b Pc As)
    (hg : g.method = m) (hn : As.length = n) (hsize : g.locals.size = nL) (hstack : g.stack = As.reverse ++ .ref b :: rest) (hW : 2 * g.monitorRoom + (rest.map fun v => v.category).sum ≤ 8) (hdg : decode cc g.pc = .ok (.invokevirtual index, 3)) (hf : cells + mc ≤ R.cells ∧ slots + ms ≤ R.slots) :
    vx_Run p l e R s m args below meth c H locs cells slots mc ms g rest (Qc (Value.ref b :: As).toArray) XC free := by
  have hK : vx_Back l R p e below s args y 3 8 (PreOf R mc ms Pc) (PostOf Qc mc ms free) (vx_Post XC mc ms free) := vx_callBack cw.1 hM hp.1
  obtain ⟨⟨-, -, -, -, -, -, hcode, -, hy, hlen, hl⟩, hin, hse⟩ := cw
  obtain ⟨hx, hb, hml, ho, -⟩ := S
  obtain ⟨-, ⟨cellB, hcB, hoB, hclB⟩, hPc⟩ := hp
  intro T hT X
  rcases vx_callV X hx (C := C) (bytes := bytes) (maxL := maxL) (ret := ret) ho hl hin hse hcode hy hK (by rw [hT]; exact hcB) hoB hclB hg (hsize.trans hml.symm) (argsL := As) (rest := rest) (fun sig h => hn.trans (hlen sig h)) hstack hW (by rw [hb]; exact hdg)
    (fun vm₁ hW₁ => ⟨hf.1, hf.2, hPc (T.setVm vm₁) hT hW₁⟩) with ⟨v, vm₁, ⟨U', l2, c2, s2⟩, hW₁, X', ⟨g', mk, t, L, e1, e2, hq, h1, hL, h2, h3⟩, st⟩ | ⟨q, vm₁, ⟨U', l2, c2, s2⟩, hW₁, X', ⟨g', mk, t, L, E, ce, e1, e2, hq, hce, hcv, hcl, h1, hL, h2, h3⟩, st⟩
  · dsimp only [Pt.U, Pt.locs, Pt.cells, Pt.slots] at X' e1 e2 h1 h2 h3 st
    subst h1; subst h2; subst h3
    exact Or.inl ⟨v, (T.setVm vm₁).calling g' mk (Value.ref b :: As).toArray, t, U', L, hT, X', hL, e1, e2, hq, st⟩
  · dsimp only [Pt.U, Pt.locs, Pt.cells, Pt.slots] at X' e1 e2 h1 h2 h3 st hcl
    subst h1; subst h2; subst h3
    exact Or.inr ⟨q, (T.setVm vm₁).calling g' mk (Value.ref b :: As).toArray, t, U', L, E, ce, hT, X', hL, e1, e2, hq, hce, hcv, vx_cls hW₁ hcl, st⟩
theorem vx_runS (S : CallFix p m c cc nL s args Ts own) (hM : vx_Met l y ws rm Pc Qc XC mc ms free) (cw : CallB R s args own index y bytes maxL ret ws rm mc ms n ∧ (Cond.static y).before args s = true) (hp : PreS s H Pc As)
    (hg : g.method = m) (hn : As.length = n) (hsize : g.locals.size = nL) (hstack : g.stack = As.reverse ++ rest) (hW : 2 * g.monitorRoom + (rest.map fun v => v.category).sum ≤ 8) (hdg : decode cc g.pc = .ok (.invokestatic index, 3)) (hf : cells + mc ≤ R.cells ∧ slots + ms ≤ R.slots) :
    vx_Run p l e R s m args below meth c H locs cells slots mc ms g rest (Qc As.toArray) XC free := by
  have hK : vx_Back l R p e below s args y 3 8 (PreOf R mc ms Pc) (PostOf Qc mc ms free) (vx_Post XC mc ms free) := vx_callBack cw.1 hM hp.1
  obtain ⟨⟨-, -, -, -, -, -, hcode, hini, hy, hlen, hl⟩, hstt⟩ := cw
  obtain ⟨hx, hb, hml, ho, -⟩ := S
  intro T hT X
  rcases vx_callS X hx (bytes := bytes) (maxL := maxL) (ret := ret) ho hl hstt hini hcode hy hK hg (hsize.trans hml.symm) (argsL := As) (rest := rest) (fun sig h => hn.trans (hlen sig h)) hstack hW (by rw [hb]; exact hdg)
    (fun vm₁ hW₁ => ⟨hf.1, hf.2, hp.2 (T.setVm vm₁) hT hW₁⟩) with ⟨v, vm₁, ⟨U', l2, c2, s2⟩, hW₁, X', ⟨g', mk, t, L, e1, e2, hq, h1, hL, h2, h3⟩, st⟩ | ⟨q, vm₁, ⟨U', l2, c2, s2⟩, hW₁, X', ⟨g', mk, t, L, E, ce, e1, e2, hq, hce, hcv, hcl, h1, hL, h2, h3⟩, st⟩
  · dsimp only [Pt.U, Pt.locs, Pt.cells, Pt.slots] at X' e1 e2 h1 h2 h3 st
    subst h1; subst h2; subst h3
    exact Or.inl ⟨v, (T.setVm vm₁).calling g' mk As.toArray, t, U', L, hT, X', hL, e1, e2, hq, st⟩
  · dsimp only [Pt.U, Pt.locs, Pt.cells, Pt.slots] at X' e1 e2 h1 h2 h3 st hcl
    subst h1; subst h2; subst h3
    exact Or.inr ⟨q, (T.setVm vm₁).calling g' mk As.toArray, t, U', L, E, ce, hT, X', hL, e1, e2, hq, hce, hcv, vx_cls hW₁ hcl, st⟩
end Runs
section Rows
variable {p : Program} {l : Launch} {e : Env} {R : Room} {s : State} {m : MethodId} {args : Array Value} {below : List Frame} {meth : Method} {c : Code} {H : Heap} {locs : List Loc} {cells slots : Nat} {Q : State → Prop}
variable {mc ms : Nat} {free : Addr → Prop} {A0 A1 : Nat → Prop} {H0 : Heap} {a : Array Value} {pc : Nat} {ls : Array Slot} {st0 rest : List Value}
theorem vx_keep {st₀ t T' : State} {L : List Loc} (h0 : st₀.heap = H) (e1 : T'.heap = t.heap) (hS : va_S A0 H0 H locs) (hA : ∀ q, q < H.size → A1 q → A0 q) (hf : ∀ q, free q → A0 q) (hL : ∀ q ∈ L, free q.base) (hF : va_F A1 st₀ t) :
    H.size ≤ T'.heap.size ∧ (∀ q : Nat, q < H.size → ¬ A1 q → T'.heap[q]? = H[q]?) ∧ va_S A0 H0 T'.heap (locs ++ L) := by
  obtain ⟨hz, hk⟩ := hF
  rw [h0] at hz hk
  exact ⟨by rw [e1]; exact hz, fun q h1 h2 => by rw [e1]; exact hk q h1 h2,
    ⟨Nat.le_trans hS.1 (by rw [e1]; exact hz), fun q h1 h2 => by rw [e1, hk q (Nat.lt_of_lt_of_le h1 hS.1) (fun z => h2 (hA q (Nat.lt_of_lt_of_le h1 hS.1) z))]; exact hS.2.1 q h1 h2, fun q hq => by
      rcases List.mem_append.mp hq with h | h
      · exact hS.2.2 q h
      · exact hf _ (hL q h)⟩⟩
theorem vx_calli {S SX : Type} {post : Int32 → S → Prop} {px : SX → Prop} {B : S → State → Prop} {BX : String → SX → State → Prop} {AX : Nat → Prop} (hr : vx_Run p l e R s m args below meth c H locs cells slots mc ms (F0 m pc ls st0) rest (va_Qi post B A1 a) (vx_X px BX AX) free) (hS : va_S A0 H0 H locs) (hA : ∀ q, q < H.size → A1 q → A0 q) (hf : ∀ q, free q → A0 q) (hAX : ∀ q, q < H.size → AX q → A0 q)
    (kx : ∀ (E : String) (ce : Cell) (q9 : Addr) (u : SX) (t : State) (H1 : Heap) (locs1 : List Loc), t.heap = H1 → s.vm.Alike t.vm → px u → BX E u t → H.size ≤ H1.size → (∀ q : Nat, q < H.size → ¬ AX q → H1[q]? = H[q]?) → va_S A0 H0 H1 locs1 → H1[q9]? = some ce → ce.vm = .none → s.vm.findClass E = some ce.cls → vx_W p l e R s m args below meth c H1 locs1 (cells + mc) (slots + ms) Q (F0 m pc ls rest) q9)
    (kk : ∀ (r : Int32) (u : S) (t : State) (H1 : Heap) (locs1 : List Loc), t.heap = H1 → s.vm.Alike t.vm → post r u → B u t → H.size ≤ H1.size → (∀ q : Nat, q < H.size → ¬ A1 q → H1[q]? = H[q]?) → va_S A0 H0 H1 locs1 → W p l e R s m args below meth c H1 locs1 (cells + mc) (slots + ms) Q (F0 m (pc + 3) ls (.int r :: rest))) : W p l e R s m args below meth c H locs cells slots Q (F0 m pc ls st0) := by
  intro T hT X
  rcases hr T hT X with ⟨v, st₀, t, T', L, h0, X', hL, e1, e2, ⟨⟨r, u, hv, hp, hb⟩, hF⟩, st⟩ | ⟨q, st₀, t, T', L, E, ce, h0, X', hL, e1, e2, ⟨u, hp, hb, hF⟩, hce, hcv, hcl, st⟩
  · cases hv
    obtain ⟨k1, k2, k3⟩ := vx_keep h0 e1 hS hA hf hL hF
    obtain ⟨t2, a1, b1⟩ := kk r u t T'.heap (locs ++ L) e1.symm (by rw [← e2]; exact X'.warmed.alike) hp hb k1 k2 k3 T' rfl X'
    exact ⟨t2, st t2 a1, b1⟩
  · obtain ⟨k1, k2, k3⟩ := vx_keep h0 e1 hS hAX hf hL hF
    obtain ⟨t2, a1, b1⟩ := kx E ce q u t T'.heap (locs ++ L) e1.symm (by rw [← e2]; exact X'.warmed.alike) hp hb k1 k2 k3 (by rw [e1]; exact hce) hcv hcl T' rfl X'
    exact ⟨t2, st.trans a1, b1⟩
theorem vx_calll {S SX : Type} {post : Int64 → S → Prop} {px : SX → Prop} {B : S → State → Prop} {BX : String → SX → State → Prop} {AX : Nat → Prop} (hr : vx_Run p l e R s m args below meth c H locs cells slots mc ms (F0 m pc ls st0) rest (va_Ql post B A1 a) (vx_X px BX AX) free) (hS : va_S A0 H0 H locs) (hA : ∀ q, q < H.size → A1 q → A0 q) (hf : ∀ q, free q → A0 q) (hAX : ∀ q, q < H.size → AX q → A0 q)
    (kx : ∀ (E : String) (ce : Cell) (q9 : Addr) (u : SX) (t : State) (H1 : Heap) (locs1 : List Loc), t.heap = H1 → s.vm.Alike t.vm → px u → BX E u t → H.size ≤ H1.size → (∀ q : Nat, q < H.size → ¬ AX q → H1[q]? = H[q]?) → va_S A0 H0 H1 locs1 → H1[q9]? = some ce → ce.vm = .none → s.vm.findClass E = some ce.cls → vx_W p l e R s m args below meth c H1 locs1 (cells + mc) (slots + ms) Q (F0 m pc ls rest) q9)
    (kk : ∀ (r : Int64) (u : S) (t : State) (H1 : Heap) (locs1 : List Loc), t.heap = H1 → s.vm.Alike t.vm → post r u → B u t → H.size ≤ H1.size → (∀ q : Nat, q < H.size → ¬ A1 q → H1[q]? = H[q]?) → va_S A0 H0 H1 locs1 → W p l e R s m args below meth c H1 locs1 (cells + mc) (slots + ms) Q (F0 m (pc + 3) ls (.long r :: rest))) : W p l e R s m args below meth c H locs cells slots Q (F0 m pc ls st0) := by
  intro T hT X
  rcases hr T hT X with ⟨v, st₀, t, T', L, h0, X', hL, e1, e2, ⟨⟨r, u, hv, hp, hb⟩, hF⟩, st⟩ | ⟨q, st₀, t, T', L, E, ce, h0, X', hL, e1, e2, ⟨u, hp, hb, hF⟩, hce, hcv, hcl, st⟩
  · cases hv
    obtain ⟨k1, k2, k3⟩ := vx_keep h0 e1 hS hA hf hL hF
    obtain ⟨t2, a1, b1⟩ := kk r u t T'.heap (locs ++ L) e1.symm (by rw [← e2]; exact X'.warmed.alike) hp hb k1 k2 k3 T' rfl X'
    exact ⟨t2, st t2 a1, b1⟩
  · obtain ⟨k1, k2, k3⟩ := vx_keep h0 e1 hS hAX hf hL hF
    obtain ⟨t2, a1, b1⟩ := kx E ce q u t T'.heap (locs ++ L) e1.symm (by rw [← e2]; exact X'.warmed.alike) hp hb k1 k2 k3 (by rw [e1]; exact hce) hcv hcl T' rfl X'
    exact ⟨t2, st.trans a1, b1⟩
theorem vx_callf {S SX : Type} {post : UInt32 → S → Prop} {px : SX → Prop} {B : S → State → Prop} {BX : String → SX → State → Prop} {AX : Nat → Prop} (hr : vx_Run p l e R s m args below meth c H locs cells slots mc ms (F0 m pc ls st0) rest (va_Qf post B A1 a) (vx_X px BX AX) free) (hS : va_S A0 H0 H locs) (hA : ∀ q, q < H.size → A1 q → A0 q) (hf : ∀ q, free q → A0 q) (hAX : ∀ q, q < H.size → AX q → A0 q)
    (kx : ∀ (E : String) (ce : Cell) (q9 : Addr) (u : SX) (t : State) (H1 : Heap) (locs1 : List Loc), t.heap = H1 → s.vm.Alike t.vm → px u → BX E u t → H.size ≤ H1.size → (∀ q : Nat, q < H.size → ¬ AX q → H1[q]? = H[q]?) → va_S A0 H0 H1 locs1 → H1[q9]? = some ce → ce.vm = .none → s.vm.findClass E = some ce.cls → vx_W p l e R s m args below meth c H1 locs1 (cells + mc) (slots + ms) Q (F0 m pc ls rest) q9)
    (kk : ∀ (r : UInt32) (u : S) (t : State) (H1 : Heap) (locs1 : List Loc), t.heap = H1 → s.vm.Alike t.vm → post r u → B u t → H.size ≤ H1.size → (∀ q : Nat, q < H.size → ¬ A1 q → H1[q]? = H[q]?) → va_S A0 H0 H1 locs1 → W p l e R s m args below meth c H1 locs1 (cells + mc) (slots + ms) Q (F0 m (pc + 3) ls (.float r :: rest))) : W p l e R s m args below meth c H locs cells slots Q (F0 m pc ls st0) := by
  intro T hT X
  rcases hr T hT X with ⟨v, st₀, t, T', L, h0, X', hL, e1, e2, ⟨⟨r, u, hv, hp, hb⟩, hF⟩, st⟩ | ⟨q, st₀, t, T', L, E, ce, h0, X', hL, e1, e2, ⟨u, hp, hb, hF⟩, hce, hcv, hcl, st⟩
  · cases hv
    obtain ⟨k1, k2, k3⟩ := vx_keep h0 e1 hS hA hf hL hF
    obtain ⟨t2, a1, b1⟩ := kk r u t T'.heap (locs ++ L) e1.symm (by rw [← e2]; exact X'.warmed.alike) hp hb k1 k2 k3 T' rfl X'
    exact ⟨t2, st t2 a1, b1⟩
  · obtain ⟨k1, k2, k3⟩ := vx_keep h0 e1 hS hAX hf hL hF
    obtain ⟨t2, a1, b1⟩ := kx E ce q u t T'.heap (locs ++ L) e1.symm (by rw [← e2]; exact X'.warmed.alike) hp hb k1 k2 k3 (by rw [e1]; exact hce) hcv hcl T' rfl X'
    exact ⟨t2, st.trans a1, b1⟩
theorem vx_calld {S SX : Type} {post : UInt64 → S → Prop} {px : SX → Prop} {B : S → State → Prop} {BX : String → SX → State → Prop} {AX : Nat → Prop} (hr : vx_Run p l e R s m args below meth c H locs cells slots mc ms (F0 m pc ls st0) rest (va_Qd post B A1 a) (vx_X px BX AX) free) (hS : va_S A0 H0 H locs) (hA : ∀ q, q < H.size → A1 q → A0 q) (hf : ∀ q, free q → A0 q) (hAX : ∀ q, q < H.size → AX q → A0 q)
    (kx : ∀ (E : String) (ce : Cell) (q9 : Addr) (u : SX) (t : State) (H1 : Heap) (locs1 : List Loc), t.heap = H1 → s.vm.Alike t.vm → px u → BX E u t → H.size ≤ H1.size → (∀ q : Nat, q < H.size → ¬ AX q → H1[q]? = H[q]?) → va_S A0 H0 H1 locs1 → H1[q9]? = some ce → ce.vm = .none → s.vm.findClass E = some ce.cls → vx_W p l e R s m args below meth c H1 locs1 (cells + mc) (slots + ms) Q (F0 m pc ls rest) q9)
    (kk : ∀ (r : UInt64) (u : S) (t : State) (H1 : Heap) (locs1 : List Loc), t.heap = H1 → s.vm.Alike t.vm → post r u → B u t → H.size ≤ H1.size → (∀ q : Nat, q < H.size → ¬ A1 q → H1[q]? = H[q]?) → va_S A0 H0 H1 locs1 → W p l e R s m args below meth c H1 locs1 (cells + mc) (slots + ms) Q (F0 m (pc + 3) ls (.double r :: rest))) : W p l e R s m args below meth c H locs cells slots Q (F0 m pc ls st0) := by
  intro T hT X
  rcases hr T hT X with ⟨v, st₀, t, T', L, h0, X', hL, e1, e2, ⟨⟨r, u, hv, hp, hb⟩, hF⟩, st⟩ | ⟨q, st₀, t, T', L, E, ce, h0, X', hL, e1, e2, ⟨u, hp, hb, hF⟩, hce, hcv, hcl, st⟩
  · cases hv
    obtain ⟨k1, k2, k3⟩ := vx_keep h0 e1 hS hA hf hL hF
    obtain ⟨t2, a1, b1⟩ := kk r u t T'.heap (locs ++ L) e1.symm (by rw [← e2]; exact X'.warmed.alike) hp hb k1 k2 k3 T' rfl X'
    exact ⟨t2, st t2 a1, b1⟩
  · obtain ⟨k1, k2, k3⟩ := vx_keep h0 e1 hS hAX hf hL hF
    obtain ⟨t2, a1, b1⟩ := kx E ce q u t T'.heap (locs ++ L) e1.symm (by rw [← e2]; exact X'.warmed.alike) hp hb k1 k2 k3 (by rw [e1]; exact hce) hcv hcl T' rfl X'
    exact ⟨t2, st.trans a1, b1⟩
theorem vx_callv {S SX : Type} {post : S → Prop} {px : SX → Prop} {B : S → State → Prop} {BX : String → SX → State → Prop} {AX : Nat → Prop} (hr : vx_Run p l e R s m args below meth c H locs cells slots mc ms (F0 m pc ls st0) rest (va_Qv post B A1 a) (vx_X px BX AX) free) (hS : va_S A0 H0 H locs) (hA : ∀ q, q < H.size → A1 q → A0 q) (hf : ∀ q, free q → A0 q) (hAX : ∀ q, q < H.size → AX q → A0 q)
    (kx : ∀ (E : String) (ce : Cell) (q9 : Addr) (u : SX) (t : State) (H1 : Heap) (locs1 : List Loc), t.heap = H1 → s.vm.Alike t.vm → px u → BX E u t → H.size ≤ H1.size → (∀ q : Nat, q < H.size → ¬ AX q → H1[q]? = H[q]?) → va_S A0 H0 H1 locs1 → H1[q9]? = some ce → ce.vm = .none → s.vm.findClass E = some ce.cls → vx_W p l e R s m args below meth c H1 locs1 (cells + mc) (slots + ms) Q (F0 m pc ls rest) q9)
    (kk : ∀ (u : S) (t : State) (H1 : Heap) (locs1 : List Loc), t.heap = H1 → s.vm.Alike t.vm → post u → B u t → H.size ≤ H1.size → (∀ q : Nat, q < H.size → ¬ A1 q → H1[q]? = H[q]?) → va_S A0 H0 H1 locs1 → W p l e R s m args below meth c H1 locs1 (cells + mc) (slots + ms) Q (F0 m (pc + 3) ls (rest))) : W p l e R s m args below meth c H locs cells slots Q (F0 m pc ls st0) := by
  intro T hT X
  rcases hr T hT X with ⟨v, st₀, t, T', L, h0, X', hL, e1, e2, ⟨⟨u, hv, hp, hb⟩, hF⟩, st⟩ | ⟨q, st₀, t, T', L, E, ce, h0, X', hL, e1, e2, ⟨u, hp, hb, hF⟩, hce, hcv, hcl, st⟩
  · cases hv
    obtain ⟨k1, k2, k3⟩ := vx_keep h0 e1 hS hA hf hL hF
    obtain ⟨t2, a1, b1⟩ := kk u t T'.heap (locs ++ L) e1.symm (by rw [← e2]; exact X'.warmed.alike) hp hb k1 k2 k3 T' rfl X'
    exact ⟨t2, st t2 a1, b1⟩
  · obtain ⟨k1, k2, k3⟩ := vx_keep h0 e1 hS hAX hf hL hF
    obtain ⟨t2, a1, b1⟩ := kx E ce q u t T'.heap (locs ++ L) e1.symm (by rw [← e2]; exact X'.warmed.alike) hp hb k1 k2 k3 (by rw [e1]; exact hce) hcv hcl T' rfl X'
    exact ⟨t2, st.trans a1, b1⟩
/-- caught by the row x of this method's table; the rows ahead don't take it -/
theorem vx_catch {own name : String} {E : String} {ce : Cell} {q : Addr} (hown : s.vm.findClass own = some m.cls) (pre : List ExceptionTableEntry) (x : ExceptionTableEntry) (suf : List ExceptionTableEntry) (hsplit : c.exceptionTable.toList = pre ++ x :: suf)
    (hpass : ∀ z ∈ pre, covers z pc = false ∨ (z.catchType ≠ 0 ∧ ∃ nm : String, (Cond.classLink own z.catchType nm).before args s = true ∧ va_Nc E nm s)) (hx : covers x pc = true) (h0 : x.catchType ≠ 0)
    (hlink : (Cond.classLink own x.catchType name).before args s = true) (hcast : (Cond.castable E name).before args s = true) (hcell : H[q]? = some ce) (hv : ce.vm = .none) (hcl : s.vm.findClass E = some ce.cls)
    (kk : W p l e R s m args below meth c H locs cells slots Q (F0 m x.handlerPc ls [.ref q])) : vx_W p l e R s m args below meth c H locs cells slots Q (F0 m pc ls rest) q := by
  intro T hT X
  have hpl : e.platform.magicAccessors = ({} : Platform).magicAccessors := by rw [X.admits.platform]
  obtain ⟨c3, c4, hc3, hc4, hasg⟩ := Cond.castable_spec hcast
  cases Option.some.inj (hc3.symm.trans hcl)
  obtain ⟨c5, hc5, hcl5⟩ := Cond.classLink_spec hown hlink e.platform hpl
  cases Option.some.inj (hc4.symm.trans hc5)
  obtain ⟨vm', X', st⟩ := X.thenCaughtThrough q (g := F0 m pc ls rest) rfl (Steps.refl _) (by rw [hT]; exact hcell) (by rw [hv]; rfl) (by obtain ⟨k9, h9, -⟩ := Vm.findClass_spec hcl; exact ⟨k9, h9⟩) pre x suf hsplit
    (fun z hz => by
      rcases hpass z hz with h | ⟨hz0, nm, hl1, hn1⟩
      · exact Or.inl h
      · obtain ⟨c6, hc6, hcl6⟩ := Cond.classLink_spec hown hl1 e.platform hpl
        obtain ⟨a8, b8, h1, h2, h3⟩ := hn1
        cases Option.some.inj (h1.symm.trans hcl)
        cases Option.some.inj (h2.symm.trans hc6)
        exact Or.inr ⟨hz0, _, hcl6, h3⟩) hx (Or.inr ⟨h0, c4, hcl5, hasg⟩)
  obtain ⟨t, a1, b1⟩ := kk (T.setVm vm') hT X'
  exact ⟨t, st.trans a1, b1⟩
end Rows
section Ends
variable {p : Program} {l : Launch} {e : Env} {R : Room} {s : State} {m : MethodId} {args : Array Value} {below : List Frame} {meth : Method} {c : Code} {H : Heap} {locs : List Loc} {cells slots : Nat} {Q : State → Prop}
variable {mc ms : Nat} {free : Addr → Prop} {A0 A1 : Nat → Prop} {H0 : Heap} {a : Array Value} {ls : Array Slot} {st0 rest : List Value}
variable {Qc : Array Value → State → Outcome → State → Prop} {XC : String → State → State → Prop}
/-- what a body that may throw owes at its end -/
def vx_MQ (below : List Frame) (Qc : Array Value → State → Outcome → State → Prop) (XC : String → State → State → Prop) (a : Array Value) (s : State) (mc ms : Nat) (free : Addr → Prop) : State → Prop := fun t =>
  ∃ o, t.status = .running ∧ Ended t below o ∧ vx_Q Qc XC mc ms free a s o t
theorem vx_ret {g : JFrame} {mc ms : Nat} (k : W p l e R s m args below meth c H locs cells slots (MQ below Qc args s mc ms free) g) : W p l e R s m args below meth c H locs cells slots (vx_MQ below Qc XC args s mc ms free) g := by
  intro T hT X
  obtain ⟨t, a1, o, b1, b2, b3, b4⟩ := k T hT X
  exact ⟨t, a1, o, b1, b2, Or.inl ⟨b3, b4⟩⟩
/-- not caught here: it goes on to the caller -/
theorem vx_widen {g : JFrame} {q : Addr} {k n : Nat} (h1 : cells ≤ k) (h2 : slots ≤ n) (kk : vx_W p l e R s m args below meth c H locs k n Q g q) : vx_W p l e R s m args below meth c H locs cells slots Q g q := fun T hT X => kk T hT (stand_widen X h1 h2)
theorem vx_out {pc : Nat} {E : String} {ce : Cell} {q : Addr} {mc ms : Nat} (hout : ∀ x ∈ c.exceptionTable.toList, covers x pc = false) (hlocks : meth.locks = false) (hcell : H[q]? = some ce) (hv : ce.vm = .none) (hcl : s.vm.findClass E = some ce.cls)
    (hx : ∀ t : State, t.heap = H → s.vm.Alike t.vm → XC E s t) (hf : ∀ z ∈ locs, free z.base) (hc : cells ≤ mc) (hs : slots ≤ ms) :
    vx_W p l e R s m args below meth c H locs cells slots (vx_MQ below Qc XC args s mc ms free) (F0 m pc ls rest) q := by
  intro T hT X
  obtain ⟨st1, hrun, hend, hW, hsm⟩ := X.leaveThrown q (g := F0 m pc ls rest) rfl rfl rfl hout hlocks
  have hcell9 : (T.setFrames (.throwing q :: below)).heap[q]? = some ce := by
    show T.heap[q]? = some ce
    rw [hT]; exact hcell
  exact ⟨_, st1, .threw q, hrun, hend, Or.inr ⟨q, rfl, E, ce, locs, hx _ hT hW.alike, hcell9, hv, hcl, hW, hsm.mono hc hs, hf⟩⟩
theorem vx_frame {U : State} {k n : Nat} (h : s.sameButNew ({ U with vm := s.vm } : State) locs k n) : s.heap.size ≤ U.heap.size ∧ ∀ q : Nat, q < s.heap.size → (∀ z ∈ locs, z.base ≠ q) → U.heap[q]? = s.heap[q]? := by
  obtain ⟨-, h2, -, -, -, h6⟩ := h
  refine ⟨h2, fun q hq hz => ?_⟩
  obtain ⟨c9, e1, e2, e3, e4⟩ := h6 q _ (Array.getElem?_eq_getElem hq)
  have hs : c9.slots = (s.heap[q]).slots := Array.ext_getElem? fun i => e4 i fun hm => hz _ hm rfl
  have h9 : c9 = s.heap[q] := by
    rw [hs] at e2
    exact e2
  have e5 : U.heap[q]? = some c9 := e1
  rw [e5, h9, Array.getElem?_eq_getElem hq]
/-- the words of a throw but the four that speak of the heap -/
def vx_no (w : Cond) : Bool := decide (w ≠ .isRef (.static Bundle.tN "UNASSIGNED_STACK" Bundle.steD)) && decide (w ≠ .isRef (.static Bundle.tN "SUPPRESSED_SENTINEL" Bundle.listD)) && decide (w ≠ .laysStatic Bundle.tN "UNASSIGNED_STACK" Bundle.steD) && decide (w ≠ .laysStatic Bundle.tN "SUPPRESSED_SENTINEL" Bundle.listD)
def vx_at0 (own : String) (ic : Nat) (X : String) (names : List String) : List Cond := (Bundle.ownAtoms0 own ic X names).filter vx_no
def vx_atS (own : String) (ic : Nat) (X : String) (names : List String) : List Cond := (Bundle.ownAtoms own ic X names).filter vx_no
/-- a word that the tables alone decide, or a good one -/
def vx_ot (w : Cond) : Bool := w.onTables || goodWord w
theorem vx_ot_at {args a' : Array Value} {s U : State} {w : Cond} (hW : s.WarmedH U.vm) (hvm : s.vm = U.vm) (hg : vx_ot w = true) (h : w.before args s = true) : w.before a' U = true := by
  simp only [vx_ot, Bool.or_eq_true] at hg
  rcases hg with hg | hg
  · exact va_tabs hg hvm h
  · exact word_at hW (good_of_word hg) h
/-- a list's words: the good ones out of the method's own list, the others by premises of their own -/
theorem vx_hat {args : Array Value} {s : State} {L B : List Cond} (h1 : ∀ w ∈ L.filter goodWord, w.before args s = true) (h2 : ∀ w ∈ L.filter (fun w => !goodWord w), w ∈ B) (h3 : ∀ w ∈ B, w.before args s = true) : ∀ w ∈ L, w.before args s = true := by
  intro w hw
  by_cases g : goodWord w = true
  · exact h1 w (List.mem_filter.mpr ⟨hw, g⟩)
  · refine h3 w (h2 w (List.mem_filter.mpr ⟨hw, ?_⟩))
    show (!goodWord w) = true
    cases hgw : goodWord w
    · rfl
    · exact absurd hgw g
theorem vx_c {args : Array Value} {s : State} {w : Cond} {B : List Cond} (h : w.before args s = true) (t : ∀ w ∈ B, w.before args s = true) : ∀ w' ∈ w :: B, w'.before args s = true := fun w' h' => (List.mem_cons.mp h').elim (fun e => by rw [e]; exact h) (t w')
theorem vx_n {args : Array Value} {s : State} : ∀ w ∈ ([] : List Cond), w.before args s = true := fun _ h => nomatch h
theorem vx_own {args : Array Value} {s : State} {L : List Cond} (h1 : ∀ w ∈ L.filter vx_no, w.before args s = true)
    (hU : (Cond.isRef (.static Bundle.tN "UNASSIGNED_STACK" Bundle.steD)).before args s = true) (hN : (Cond.isRef (.static Bundle.tN "SUPPRESSED_SENTINEL" Bundle.listD)).before args s = true)
    (lU : (Cond.laysStatic Bundle.tN "UNASSIGNED_STACK" Bundle.steD).before args s = true) (lN : (Cond.laysStatic Bundle.tN "SUPPRESSED_SENTINEL" Bundle.listD).before args s = true) : ∀ w ∈ L, w.before args s = true := by
  intro w hw
  by_cases e1 : w = .isRef (.static Bundle.tN "UNASSIGNED_STACK" Bundle.steD)
  · rw [e1]; exact hU
  · by_cases e2 : w = .isRef (.static Bundle.tN "SUPPRESSED_SENTINEL" Bundle.listD)
    · rw [e2]; exact hN
    · by_cases e3 : w = .laysStatic Bundle.tN "UNASSIGNED_STACK" Bundle.steD
      · rw [e3]; exact lU
      · by_cases e4 : w = .laysStatic Bundle.tN "SUPPRESSED_SENTINEL" Bundle.listD
        · rw [e4]; exact lN
        · exact h1 w (List.mem_filter.mpr ⟨hw, by unfold vx_no; rw [decide_eq_true e1, decide_eq_true e2, decide_eq_true e3, decide_eq_true e4]; rfl⟩)
/-- where a static field lies, its class's statics cell in H -/
def vx_L (C n d : String) (A : Nat → Prop) (U : State) (H : Heap) : Prop := ∃ (c : ClassId) (k : Class) (i : Nat) (f : Field) (a : Nat) (cell : Cell), U.vm.findClass C = some c ∧ U.fieldFound? C n d = some (c, k, i, f) ∧ f.isStatic = true ∧ k.statics = some a ∧ H[a]? = some cell ∧ cell.vm.isStatics = true ∧ cell.cls = c ∧ f.slot < cell.slots.size ∧ k.staticTypes[f.slot]? = some f.type ∧ ¬ A a
theorem vx_L.moved {C n d : String} {A : Nat → Prop} {u U : State} {H : Heap} (hvm : u.vm.Alike U.vm) (h : vx_L C n d A u H) : vx_L C n d A U H := by
  obtain ⟨c, k, i, f, a, cell, h1, h2, h3, h4, h5, h6, h7, h8, h9, h10⟩ := h
  obtain ⟨k', hi', he⟩ := State.fieldFound?_setVm hvm h2
  exact ⟨c, k', i, f, a, cell, by rw [hvm.findClass]; exact h1, hi', h3, by rw [he]; exact h4, h5, h6, h7, h8, by rw [he]; exact h9, h10⟩
theorem vx_L.kept {C n d : String} {A : Nat → Prop} {U : State} {H H1 : Heap} (h : vx_L C n d A U H) (hq : ∀ a : Nat, a < H.size → ¬ A a → H1[a]? = H[a]?) : vx_L C n d A U H1 := by
  obtain ⟨c, k, i, f, a, cell, h1, h2, h3, h4, h5, h6, h7, h8, h9, h10⟩ := h
  exact ⟨c, k, i, f, a, cell, h1, h2, h3, h4, by rw [hq a (Array.getElem?_eq_some_iff.mp h5).1 h10]; exact h5, h6, h7, h8, h9, h10⟩
theorem vx_L.narrow {C n d : String} {A B : Nat → Prop} {U : State} {H : Heap} (h : vx_L C n d A U H) (hAB : ∀ q, B q → A q) : vx_L C n d B U H := by
  obtain ⟨c, k, i, f, a, cell, h1, h2, h3, h4, h5, h6, h7, h8, h9, h10⟩ := h
  exact ⟨c, k, i, f, a, cell, h1, h2, h3, h4, h5, h6, h7, h8, h9, fun z => h10 (hAB _ z)⟩
theorem vx_L.word {C n d : String} {A : Nat → Prop} {s : State} {args : Array Value} (h : vx_L C n d A s s.heap) : (Cond.laysStatic C n d).before args s = true := by
  obtain ⟨c, k, i, f, a, cell, h1, h2, h3, h4, h5, h6, h7, h8, h9, -⟩ := h
  show (Cond.laysStatic C n d).holds args s none s [] = true
  exact Cond.laysStatic_of h1 h2 h3 h4 h5 h6 h7 h8 h9
/-- .. and what it holds: null or some reference -/
def vx_Zq (C n d : String) (A : Nat → Prop) (U : State) (H : Heap) : Prop := va_Zq C n d A U H ∧ vx_L C n d A U H
theorem vx_Zq.moved {C n d : String} {A : Nat → Prop} {u U : State} {H : Heap} (hvm : u.vm.Alike U.vm) (h : vx_Zq C n d A u H) : vx_Zq C n d A U H := ⟨va_Zq.moved hvm h.1, vx_L.moved hvm h.2⟩
theorem vx_Zq.kept {C n d : String} {A : Nat → Prop} {U : State} {H H1 : Heap} (h : vx_Zq C n d A U H) (hq : ∀ a : Nat, a < H.size → ¬ A a → H1[a]? = H[a]?) : vx_Zq C n d A U H1 := ⟨va_Zq.kept h.1 hq, vx_L.kept h.2 hq⟩
theorem vx_Zq.narrow {C n d : String} {A B : Nat → Prop} {U : State} {H : Heap} (h : vx_Zq C n d A U H) (hAB : ∀ q, B q → A q) : vx_Zq C n d B U H := ⟨va_Zq.narrow h.1 hAB, vx_L.narrow h.2 hAB⟩
theorem vx_Zqof {args : Array Value} {s : State} {C n d : String} {A : Nat → Prop} (hl : (Cond.laysStatic C n d).before args s = true) (hini : (Cond.initialized C).before args s = true) (h : (Cond.isRef (.static C n d)).before args s = true) (hA : ∀ a : Nat, a < s.heap.size → ¬ A a) : vx_Zq C n d A s s.heap := by
  refine ⟨va_Zqof hl hini h hA, ?_⟩
  obtain ⟨c, k, i, f, a, cell, h1, h2, h3, h4, h5, h6, h7, h8, h9⟩ := Cond.laysStatic_spec hl
  exact ⟨c, k, i, f, a, cell, h1, h2, h3, h4, h5, h6, h7, h8, h9, hA a (Array.getElem?_eq_some_iff.mp h5).1⟩
theorem vx_isRef {C n d : String} {v : Value} {A : Nat → Prop} {s : State} {args : Array Value} (h : va_Z C n d v A s s.heap) (hv : v.isRef = true) : (Cond.isRef (.static C n d)).before args s = true := by
  obtain ⟨cf, kf, fi, f, a, cell, h1, h2, h3, h4, h5, h6, h7, -⟩ := h
  have he : (Term.static C n d).eval args s none [] s = some v := by
    simp [Term.eval, State.fieldNamed?, h1, h2, h4, h5, h6, h7]
  simp only [Cond.before, Cond.holds, Cond.value, he]
  cases v <;> simp_all [Value.isRef]
theorem vx_isRefq {C n d : String} {A : Nat → Prop} {s : State} {args : Array Value} (h : va_Zq C n d A s s.heap) : (Cond.isRef (.static C n d)).before args s = true := by
  rcases h with h | ⟨t, h⟩
  · exact vx_isRef h rfl
  · exact vx_isRef h rfl
/-- the same frame, seen from here: as if the method were called anew in this heap -/
theorem vx_rebase {T : State} (X : Stand p l e R s m args below meth c T locs cells slots) {R' : Room} (hf : R'.frames ≤ R.frames) (hl : R'.locals ≤ R.locals) (hc : cells + R'.cells ≤ R.cells) (hs : slots + R'.slots ≤ R.slots) :
    Stand p l e R' ((T.setVm s.vm).setFrames (.invoking m args :: below)) m args below meth c T [] 0 0 := by
  have htop : (T.setVm s.vm).topJava?.isSome := X.here.top
  have hF : ((T.setVm s.vm).setFrames (.invoking m args :: below)).frames = .invoking m args :: below := State.frames_setFrames _ (State.cur_lt_of_top htop)
  obtain ⟨g₀, hg0⟩ := Option.isSome_iff_exists.mp htop
  obtain ⟨r, hr⟩ := State.topJava?_eq_some.mp hg0
  have hl9 : e.platform.stackLimits (T.setVm s.vm).me = e.platform.stackLimits s.me := X.limits
  have hb9 : (T.setVm s.vm).me.stackBytes = s.me.stackBytes := X.bytes
  refine ⟨X.admits, X.cas, X.clock, hF, ?_, X.hears, X.method, X.code, X.here, X.tail, X.warmed, ?_, ?_, ?_⟩
  · have h := X.room
    have hU : ((T.setVm s.vm).setFrames (.invoking m args :: below)).localsInUse = s.localsInUse := by
      rw [State.localsInUse_invoking hF (meth := meth) (c := c) X.method X.code, State.localsInUse_invoking X.frames X.method X.code]
    simp only [State.hasRoom, Bool.and_eq_true, decide_eq_true_eq] at h ⊢
    obtain ⟨⟨⟨⟨h1, h2, h3, h4, h5, h6⟩, h7⟩, h8⟩, h9⟩ := h
    rw [X.frames, List.length_cons] at h2 h3
    have q1 := X.heapSize
    have q2 := X.used
    simp only [hF, hU, List.length_cons, State.stackLimits_setFrames, State.stackBytes_setFrames, hl9, hb9]
    refine ⟨⟨⟨⟨by omega, by omega, by omega, by omega, by omega, h6⟩, ?_⟩, ?_⟩, X.book⟩
    · show T.heap.size + R'.cells ≤ e.platform.maxCells
      omega
    · show T.slotsUsed + R'.slots ≤ e.platform.maxSlots
      omega
  · rw [State.stackLimits_setFrames]; rfl
  · rw [State.stackBytes_setFrames]; rfl
  · refine ⟨?_, Nat.le_refl _, Nat.le_refl _, ?_, ?_, fun a c9 h9 => ⟨c9, h9, rfl, rfl, fun _ _ => rfl⟩⟩
    · obtain ⟨t, ht, -⟩ := State.frames_cons hr
      show T.setVm s.vm = { ((T.setVm s.vm).setFrames (.invoking m args :: below)).setFrames (T.setVm s.vm).frames with heap := T.heap, slotsUsed := T.slotsUsed }
      rw [State.setFrames_setFrames, State.setFrames_self ht]
      rfl
    · show T.slotsUsed = T.slotsUsed + ((T.heap.toList.drop T.heap.size).map (·.slots.size)).sum
      rw [List.drop_eq_nil_of_le (Nat.le_of_eq Array.length_toList)]
      rfl
    · show ((T.heap.toList.drop T.heap.size).map (·.slots.size)).sum ≤ 0
      rw [List.drop_eq_nil_of_le (Nat.le_of_eq Array.length_toList)]
      exact Nat.le_refl _
/-- 'throw new E()': new; dup; invokespecial; athrow -/
theorem vx_throw0 {cc : ByteArray} {pc : Nat} (hexec : p.tables.exec = Jvm.exec) (hb : c.code = cc) (hl : l.stackTraces = false) {own cls : String} {names : List String} {ik ic mc ms : Nat} {A : Nat → Prop}
    (hown : s.vm.findClass own = some m.cls) (hcls : Bundle.fit cls = true) (hnames : ∀ n ∈ names, Bundle.fit n = true)
    (hk : (Cond.classLink own ik cls).before args s = true) (hini : (Cond.initialized cls).before args s = true) (hat : ∀ w ∈ vx_at0 own ic cls names, w.before args s = true)
    (hgood : ∀ w ∈ Cond.classLink own ik cls :: Cond.initialized cls :: vx_at0 own ic cls names, vx_ot w = true)
    (hU : vx_Zq Bundle.tN "UNASSIGNED_STACK" Bundle.steD A s s.heap) (hN : vx_Zq Bundle.tN "SUPPRESSED_SENTINEL" Bundle.listD A s s.heap) (hS : va_S A s.heap H locs) (hsize : ls.size = c.maxLocals)
    (d0 : decode cc pc = .ok (.new ik, 3)) (d3 : decode cc (pc + 3) = .ok (.dup, 1)) (d4 : decode cc (pc + 4) = .ok (.invokespecial ic, 3)) (d7 : decode cc (pc + 7) = .ok (.athrow, 1))
    (hout : ∀ x ∈ c.exceptionTable.toList, covers x (pc + 7) = false)
    (hRframes : names.length + 3 < R.frames) (hRlocals : (rest.map fun v => v.category).sum + (13 * (names.length + 1) + 42) ≤ R.locals) (hRcells : cells + 1 ≤ R.cells) (hRslots : slots + 6 ≤ R.slots) (hlocks : meth.locks = false)
    (hx : ∀ t : State, s.vm.Alike t.vm → H.size ≤ t.heap.size → (∀ q : Nat, q < H.size → t.heap[q]? = H[q]?) → XC cls s t)
    (hf : ∀ z ∈ locs, free z.base) (hc : cells + 1 ≤ mc) (hs : slots + 6 ≤ ms) :
    W p l e R s m args below meth c H locs cells slots (vx_MQ below Qc XC args s mc ms free) (F0 m pc ls rest) := by
  intro T hT X
  have htr : e.platform.stackTraces = false := (show e.platform.stackTraces = l.stackTraces by rw [X.admits.platform]).trans hl
  have Y := vx_rebase X (R' := { frames := R.frames, locals := R.locals, cells := 1, slots := 6 }) (Nat.le_refl _) (Nat.le_refl _) hRcells hRslots
  obtain ⟨s', hA⟩ : ∃ z, z = (T.setVm s.vm).setFrames (.invoking m args :: below) := ⟨_, rfl⟩
  rw [← hA] at Y
  have hvm : s'.vm = s.vm := by rw [hA]; rfl
  have hhp : s'.heap = H := by rw [hA]; exact hT
  have hW0 : s.WarmedH s'.vm := by rw [hvm]; exact State.WarmedH.refl s
  have hat' : ∀ w ∈ vx_at0 own ic cls names, w.before args s' = true := fun w hw => vx_ot_at hW0 hvm.symm (hgood w (List.mem_cons_of_mem _ (List.mem_cons_of_mem _ hw))) (hat w hw)
  have hk' : (Cond.classLink own ik cls).before args s' = true := vx_ot_at hW0 hvm.symm (hgood _ List.mem_cons_self) hk
  have hini' : (Cond.initialized cls).before args s' = true := vx_ot_at hW0 hvm.symm (hgood _ (List.mem_cons_of_mem _ List.mem_cons_self)) hini
  have hU' : vx_Zq Bundle.tN "UNASSIGNED_STACK" Bundle.steD A s' s'.heap := by rw [hhp]; exact vx_Zq.moved hW0.alike (hU.kept hS.2.1)
  have hN' : vx_Zq Bundle.tN "SUPPRESSED_SENTINEL" Bundle.listD A s' s'.heap := by rw [hhp]; exact vx_Zq.moved hW0.alike (hN.kept hS.2.1)
  have h : ∀ w ∈ Bundle.ownAtoms0 own ic cls names, w.before args s' = true := vx_own hat' (vx_isRefq hU'.1) (vx_isRefq hN'.1) hU'.2.word hN'.2.word
  have hown' : s'.vm.findClass own = some m.cls := by rw [hvm]; exact hown
  have hins : (Cond.instantiable cls 6).before args s' = true := h _ (by simp [Bundle.ownAtoms0])
  obtain ⟨vm₁, cX, kX, hfX, hkX, -, -, X₁, st1⟩ := Y.newCold hexec (own := own) (C := cls) (index := ik) (n := 6) hown' hk' hins hini'
    (g := F0 m pc ls rest) rfl (by rw [hb]; exact d0) (Nat.le_refl _) (Nat.le_refl _)
  generalize hT1 : (T.setVm vm₁).pushCell { cls := cX, slots := kX.instanceTypes.map defaultValue, vm := .none } = T1 at X₁ st1
  have hcat : (Value.ref T.heap.size).category = 1 := rfl
  have hcellA : T1.heap[T.heap.size]? = some (freshCell cX kX) := by rw [← hT1]; exact State.heap_pushCell_size _ _
  have d3' : decode c.code (pc + 3) = .ok (.dup, 1) := by rw [hb]; exact d3
  obtain ⟨U, hsteps, hrun, hend, hW, hsame, ce, hce, hO⟩ := X₁.ctorThrow0 hexec htr (own := own) (cls := cls) (names := names) (ic := ic) hown' hcls hnames h (fun x hx => nomatch hx) hfX hkX hcellA (by rw [hhp, hT]; exact Nat.le_refl _)
    (g := { method := m, pc := pc + 4, locals := ls, stack := .ref T.heap.size :: .ref T.heap.size :: rest, locked := none }) rfl hsize rfl rfl (rest := rest) rfl
    (by rw [hb]; exact d4) (by rw [hb]; exact d7) hout hRframes (by simp only [List.map_cons, List.sum_cons, hcat]; omega) hlocks
  obtain ⟨f1, f2⟩ := vx_frame hsame
  rw [hhp] at f1 f2
  have hWs : s.WarmedH U.vm := State.WarmedH.trans hW0 hW
  have hcl : s.vm.findClass cls = some ce.cls := by
    have h9 := hO.cls
    rw [hvm] at h9
    exact h9
  have hall : s.sameButNew ({ U with vm := s.vm } : State) locs mc ms := by
    subst hA
    obtain ⟨e1, e2⟩ := hsame
    rw [State.setFrames_setFrames] at e1
    have h2 : (T.setVm s.vm).sameButNew ({ U with vm := s.vm } : State) [] (0 + 1) (0 + 6) := ⟨e1, e2⟩
    have h3 := X.same.trans h2
    rw [List.append_nil] at h3
    exact h3.mono hc hs
  refine ⟨U, ?_, .threw T.heap.size, hrun, hend, Or.inr ⟨T.heap.size, rfl, cls, ce, locs, hx U hWs.alike f1 (fun q hq => f2 q hq (fun z hz => nomatch hz)), hce, hO.vm, hcl, hWs, hall, hf⟩⟩
  refine st1 _ ?_
  show Steps p.tables e below (T1.setTop { method := m, pc := pc + 3, locals := ls, stack := .ref T.heap.size :: rest, locked := none }) _
  jvm_step X₁.here [X₁.here.top, hexec, d3', Value.category]
  exact hsteps
/-- 'throw new E("text")': new; dup; ldc; invokespecial; athrow -/
theorem vx_throwS {cc : ByteArray} {pc : Nat} (hexec : p.tables.exec = Jvm.exec) (hb : c.code = cc) (hl : l.stackTraces = false) {own cls text : String} {names : List String} {ik is ic mc ms sa : Nat} {A : Nat → Prop}
    (hown : s.vm.findClass own = some m.cls) (hcls : Bundle.fit cls = true) (hnames : ∀ n ∈ names, Bundle.fit n = true)
    (hk : (Cond.classLink own ik cls).before args s = true) (hini : (Cond.initialized cls).before args s = true) (hstr : vk_R own is text sa s) (hat : ∀ w ∈ vx_atS own ic cls names, w.before args s = true)
    (hgood : ∀ w ∈ Cond.classLink own ik cls :: Cond.initialized cls :: vx_atS own ic cls names, vx_ot w = true)
    (hU : vx_Zq Bundle.tN "UNASSIGNED_STACK" Bundle.steD A s s.heap) (hN : vx_Zq Bundle.tN "SUPPRESSED_SENTINEL" Bundle.listD A s s.heap) (hS : va_S A s.heap H locs) (hsize : ls.size = c.maxLocals)
    (d0 : decode cc pc = .ok (.new ik, 3)) (d3 : decode cc (pc + 3) = .ok (.dup, 1)) (d4 : decode cc (pc + 4) = .ok (.ldc is, 2)) (d6 : decode cc (pc + 6) = .ok (.invokespecial ic, 3)) (d9 : decode cc (pc + 9) = .ok (.athrow, 1))
    (hout : ∀ x ∈ c.exceptionTable.toList, covers x (pc + 9) = false)
    (hRframes : names.length + 3 < R.frames) (hRlocals : (rest.map fun v => v.category).sum + (13 * (names.length + 1) + 43) ≤ R.locals) (hRcells : cells + 1 ≤ R.cells) (hRslots : slots + 6 ≤ R.slots) (hlocks : meth.locks = false)
    (hx : ∀ t : State, s.vm.Alike t.vm → H.size ≤ t.heap.size → (∀ q : Nat, q < H.size → t.heap[q]? = H[q]?) → XC cls s t)
    (hf : ∀ z ∈ locs, free z.base) (hc : cells + 1 ≤ mc) (hs : slots + 6 ≤ ms) :
    W p l e R s m args below meth c H locs cells slots (vx_MQ below Qc XC args s mc ms free) (F0 m pc ls rest) := by
  intro T hT X
  have htr : e.platform.stackTraces = false := (show e.platform.stackTraces = l.stackTraces by rw [X.admits.platform]).trans hl
  have Y := vx_rebase X (R' := { frames := R.frames, locals := R.locals, cells := 1, slots := 6 }) (Nat.le_refl _) (Nat.le_refl _) hRcells hRslots
  obtain ⟨s', hA⟩ : ∃ z, z = (T.setVm s.vm).setFrames (.invoking m args :: below) := ⟨_, rfl⟩
  rw [← hA] at Y
  have hvm : s'.vm = s.vm := by rw [hA]; rfl
  have hhp : s'.heap = H := by rw [hA]; exact hT
  have hW0 : s.WarmedH s'.vm := by rw [hvm]; exact State.WarmedH.refl s
  have hat' : ∀ w ∈ vx_atS own ic cls names, w.before args s' = true := fun w hw => vx_ot_at hW0 hvm.symm (hgood w (List.mem_cons_of_mem _ (List.mem_cons_of_mem _ hw))) (hat w hw)
  have hk' : (Cond.classLink own ik cls).before args s' = true := vx_ot_at hW0 hvm.symm (hgood _ List.mem_cons_self) hk
  have hini' : (Cond.initialized cls).before args s' = true := vx_ot_at hW0 hvm.symm (hgood _ (List.mem_cons_of_mem _ List.mem_cons_self)) hini
  have hU' : vx_Zq Bundle.tN "UNASSIGNED_STACK" Bundle.steD A s' s'.heap := by rw [hhp]; exact vx_Zq.moved hW0.alike (hU.kept hS.2.1)
  have hN' : vx_Zq Bundle.tN "SUPPRESSED_SENTINEL" Bundle.listD A s' s'.heap := by rw [hhp]; exact vx_Zq.moved hW0.alike (hN.kept hS.2.1)
  have h : ∀ w ∈ Bundle.ownAtoms own ic cls names, w.before args s' = true := vx_own hat' (vx_isRefq hU'.1) (vx_isRefq hN'.1) hU'.2.word hN'.2.word
  have hown' : s'.vm.findClass own = some m.cls := by rw [hvm]; exact hown
  have hins : (Cond.instantiable cls 6).before args s' = true := h _ (by simp [Bundle.ownAtoms])
  obtain ⟨vm₁, cX, kX, hfX, hkX, -, -, X₁, st1⟩ := Y.newCold hexec (own := own) (C := cls) (index := ik) (n := 6) hown' hk' hins hini'
    (g := F0 m pc ls rest) rfl (by rw [hb]; exact d0) (Nat.le_refl _) (Nat.le_refl _)
  generalize hT1 : (T.setVm vm₁).pushCell { cls := cX, slots := kX.instanceTypes.map defaultValue, vm := .none } = T1 at X₁ st1
  have hcat : (Value.ref T.heap.size).category = 1 := rfl
  have hcellA : T1.heap[T.heap.size]? = some (freshCell cX kX) := by rw [← hT1]; exact State.heap_pushCell_size _ _
  have d3' : decode c.code (pc + 3) = .ok (.dup, 1) := by rw [hb]; exact d3
  have d4' : decode c.code (pc + 4) = .ok (.ldc is, 2) := by rw [hb]; exact d4
  have hstr' : vk_R own is text sa s' := vk_R.warm hW0 hstr
  obtain ⟨U, hsteps, hrun, hend, hW, hsame, ce, hce, hO⟩ := X₁.ctorThrowS hexec htr (own := own) (cls := cls) (names := names) (ic := ic) hown' hcls hnames h (fun x hx => nomatch hx) hfX hkX hcellA (by rw [hhp, hT]; exact Nat.le_refl _) (msg := .ref sa) rfl
    (g := { method := m, pc := pc + 6, locals := ls, stack := .ref sa :: .ref T.heap.size :: .ref T.heap.size :: rest, locked := none }) rfl hsize rfl rfl (rest := rest) rfl
    (by rw [hb]; exact d6) (by rw [hb]; exact d9) hout hRframes (by simp only [List.map_cons, List.sum_cons, hcat]; omega) hlocks
  obtain ⟨f1, f2⟩ := vx_frame hsame
  rw [hhp] at f1 f2
  have hWs : s.WarmedH U.vm := State.WarmedH.trans hW0 hW
  have hcl : s.vm.findClass cls = some ce.cls := by
    have h9 := hO.cls
    rw [hvm] at h9
    exact h9
  have hall : s.sameButNew ({ U with vm := s.vm } : State) locs mc ms := by
    subst hA
    obtain ⟨e1, e2⟩ := hsame
    rw [State.setFrames_setFrames] at e1
    have h2 : (T.setVm s.vm).sameButNew ({ U with vm := s.vm } : State) [] (0 + 1) (0 + 6) := ⟨e1, e2⟩
    have h3 := X.same.trans h2
    rw [List.append_nil] at h3
    exact h3.mono hc hs
  refine ⟨U, ?_, .threw T.heap.size, hrun, hend, Or.inr ⟨T.heap.size, rfl, cls, ce, locs, hx U hWs.alike f1 (fun q hq => f2 q hq (fun z hz => nomatch hz)), hce, hO.vm, hcl, hWs, hall, hf⟩⟩
  refine st1 _ ?_
  show Steps p.tables e below (T1.setTop { method := m, pc := pc + 3, locals := ls, stack := .ref T.heap.size :: rest, locked := none }) _
  jvm_step X₁.here [X₁.here.top, hexec, d3', Value.category]
  exact X₁.ldcString hexec (own := own) (text := text) (index := is) (a := sa) hown' hstr'.1 hstr'.2
    (g := { method := m, pc := pc + 4, locals := ls, stack := .ref T.heap.size :: .ref T.heap.size :: rest, locked := none }) rfl d4' _ hsteps
/-- 'throw new E("text")', the text by a wide index -/
theorem vx_throwSW {cc : ByteArray} {pc : Nat} (hexec : p.tables.exec = Jvm.exec) (hb : c.code = cc) (hl : l.stackTraces = false) {own cls text : String} {names : List String} {ik is ic mc ms sa : Nat} {A : Nat → Prop}
    (hown : s.vm.findClass own = some m.cls) (hcls : Bundle.fit cls = true) (hnames : ∀ n ∈ names, Bundle.fit n = true)
    (hk : (Cond.classLink own ik cls).before args s = true) (hini : (Cond.initialized cls).before args s = true) (hstr : vk_R own is text sa s) (hat : ∀ w ∈ vx_atS own ic cls names, w.before args s = true)
    (hgood : ∀ w ∈ Cond.classLink own ik cls :: Cond.initialized cls :: vx_atS own ic cls names, vx_ot w = true)
    (hU : vx_Zq Bundle.tN "UNASSIGNED_STACK" Bundle.steD A s s.heap) (hN : vx_Zq Bundle.tN "SUPPRESSED_SENTINEL" Bundle.listD A s s.heap) (hS : va_S A s.heap H locs) (hsize : ls.size = c.maxLocals)
    (d0 : decode cc pc = .ok (.new ik, 3)) (d3 : decode cc (pc + 3) = .ok (.dup, 1)) (d4 : decode cc (pc + 4) = .ok (.ldc_w is, 3)) (d7 : decode cc (pc + 7) = .ok (.invokespecial ic, 3)) (d10 : decode cc (pc + 10) = .ok (.athrow, 1))
    (hout : ∀ x ∈ c.exceptionTable.toList, covers x (pc + 10) = false)
    (hRframes : names.length + 3 < R.frames) (hRlocals : (rest.map fun v => v.category).sum + (13 * (names.length + 1) + 43) ≤ R.locals) (hRcells : cells + 1 ≤ R.cells) (hRslots : slots + 6 ≤ R.slots) (hlocks : meth.locks = false)
    (hx : ∀ t : State, s.vm.Alike t.vm → H.size ≤ t.heap.size → (∀ q : Nat, q < H.size → t.heap[q]? = H[q]?) → XC cls s t)
    (hf : ∀ z ∈ locs, free z.base) (hc : cells + 1 ≤ mc) (hs : slots + 6 ≤ ms) :
    W p l e R s m args below meth c H locs cells slots (vx_MQ below Qc XC args s mc ms free) (F0 m pc ls rest) := by
  intro T hT X
  have htr : e.platform.stackTraces = false := (show e.platform.stackTraces = l.stackTraces by rw [X.admits.platform]).trans hl
  have Y := vx_rebase X (R' := { frames := R.frames, locals := R.locals, cells := 1, slots := 6 }) (Nat.le_refl _) (Nat.le_refl _) hRcells hRslots
  obtain ⟨s', hA⟩ : ∃ z, z = (T.setVm s.vm).setFrames (.invoking m args :: below) := ⟨_, rfl⟩
  rw [← hA] at Y
  have hvm : s'.vm = s.vm := by rw [hA]; rfl
  have hhp : s'.heap = H := by rw [hA]; exact hT
  have hW0 : s.WarmedH s'.vm := by rw [hvm]; exact State.WarmedH.refl s
  have hat' : ∀ w ∈ vx_atS own ic cls names, w.before args s' = true := fun w hw => vx_ot_at hW0 hvm.symm (hgood w (List.mem_cons_of_mem _ (List.mem_cons_of_mem _ hw))) (hat w hw)
  have hk' : (Cond.classLink own ik cls).before args s' = true := vx_ot_at hW0 hvm.symm (hgood _ List.mem_cons_self) hk
  have hini' : (Cond.initialized cls).before args s' = true := vx_ot_at hW0 hvm.symm (hgood _ (List.mem_cons_of_mem _ List.mem_cons_self)) hini
  have hU' : vx_Zq Bundle.tN "UNASSIGNED_STACK" Bundle.steD A s' s'.heap := by rw [hhp]; exact vx_Zq.moved hW0.alike (hU.kept hS.2.1)
  have hN' : vx_Zq Bundle.tN "SUPPRESSED_SENTINEL" Bundle.listD A s' s'.heap := by rw [hhp]; exact vx_Zq.moved hW0.alike (hN.kept hS.2.1)
  have h : ∀ w ∈ Bundle.ownAtoms own ic cls names, w.before args s' = true := vx_own hat' (vx_isRefq hU'.1) (vx_isRefq hN'.1) hU'.2.word hN'.2.word
  have hown' : s'.vm.findClass own = some m.cls := by rw [hvm]; exact hown
  have hins : (Cond.instantiable cls 6).before args s' = true := h _ (by simp [Bundle.ownAtoms])
  obtain ⟨vm₁, cX, kX, hfX, hkX, -, -, X₁, st1⟩ := Y.newCold hexec (own := own) (C := cls) (index := ik) (n := 6) hown' hk' hins hini'
    (g := F0 m pc ls rest) rfl (by rw [hb]; exact d0) (Nat.le_refl _) (Nat.le_refl _)
  generalize hT1 : (T.setVm vm₁).pushCell { cls := cX, slots := kX.instanceTypes.map defaultValue, vm := .none } = T1 at X₁ st1
  have hcat : (Value.ref T.heap.size).category = 1 := rfl
  have hcellA : T1.heap[T.heap.size]? = some (freshCell cX kX) := by rw [← hT1]; exact State.heap_pushCell_size _ _
  have d3' : decode c.code (pc + 3) = .ok (.dup, 1) := by rw [hb]; exact d3
  have d4' : decode c.code (pc + 4) = .ok (.ldc_w is, 3) := by rw [hb]; exact d4
  have hstr' : vk_R own is text sa s' := vk_R.warm hW0 hstr
  obtain ⟨U, hsteps, hrun, hend, hW, hsame, ce, hce, hO⟩ := X₁.ctorThrowS hexec htr (own := own) (cls := cls) (names := names) (ic := ic) hown' hcls hnames h (fun x hx => nomatch hx) hfX hkX hcellA (by rw [hhp, hT]; exact Nat.le_refl _) (msg := .ref sa) rfl
    (g := { method := m, pc := pc + 7, locals := ls, stack := .ref sa :: .ref T.heap.size :: .ref T.heap.size :: rest, locked := none }) rfl hsize rfl rfl (rest := rest) rfl
    (by rw [hb]; exact d7) (by rw [hb]; exact d10) hout hRframes (by simp only [List.map_cons, List.sum_cons, hcat]; omega) hlocks
  obtain ⟨f1, f2⟩ := vx_frame hsame
  rw [hhp] at f1 f2
  have hWs : s.WarmedH U.vm := State.WarmedH.trans hW0 hW
  have hcl : s.vm.findClass cls = some ce.cls := by
    have h9 := hO.cls
    rw [hvm] at h9
    exact h9
  have hall : s.sameButNew ({ U with vm := s.vm } : State) locs mc ms := by
    subst hA
    obtain ⟨e1, e2⟩ := hsame
    rw [State.setFrames_setFrames] at e1
    have h2 : (T.setVm s.vm).sameButNew ({ U with vm := s.vm } : State) [] (0 + 1) (0 + 6) := ⟨e1, e2⟩
    have h3 := X.same.trans h2
    rw [List.append_nil] at h3
    exact h3.mono hc hs
  refine ⟨U, ?_, .threw T.heap.size, hrun, hend, Or.inr ⟨T.heap.size, rfl, cls, ce, locs, hx U hWs.alike f1 (fun q hq => f2 q hq (fun z hz => nomatch hz)), hce, hO.vm, hcl, hWs, hall, hf⟩⟩
  refine st1 _ ?_
  show Steps p.tables e below (T1.setTop { method := m, pc := pc + 3, locals := ls, stack := .ref T.heap.size :: rest, locked := none }) _
  jvm_step X₁.here [X₁.here.top, hexec, d3', Value.category]
  exact X₁.ldcStringW hexec (own := own) (text := text) (index := is) (a := sa) hown' hstr'.1 hstr'.2
    (g := { method := m, pc := pc + 4, locals := ls, stack := .ref T.heap.size :: .ref T.heap.size :: rest, locked := none }) rfl d4' _ hsteps
end Ends
section Bodies
variable {l : Launch}
theorem vx_ofW {y : MethodName} {ws ws' : List Cond} {rm : Room} {Pc : Array Value → State → Prop} {Qc : Array Value → State → Outcome → State → Prop} {XC : String → State → State → Prop} {mc ms : Nat} {free : Addr → Prop} {cc : ByteArray} {maxL : Nat} {ret : Option FieldType}
    (hy : plainName y.cls = true) (hw : ws = Cond.code y cc maxL ret :: ws')
    (body : ∀ p e s m args below meth c s₁, BodyLoose p l y (headSpec ws rm) cc maxL ret e s m args below meth c s₁ → c.maxLocals = maxL → (∀ x ∈ c.exceptionTable.toList, False) → Pc args s →
      W p l e (headSpec ws rm).room s m args below meth c s.heap [] 0 0 (vx_MQ below Qc XC args s mc ms free) (entryFrame m args maxL)) : vx_Met l y ws rm Pc Qc XC mc ms free := by
  refine MetFree.of_bodyS (code := cc) (maxLocals := maxL) (ret := ret) hy ?_ ?_
  · intro args s m h hn
    obtain ⟨meth, c, h1, h2, h3, h4, h5, h6, -, -⟩ := Cond.code_spec hn (atoms_spec (ws := ws) h _ (by rw [hw]; exact List.mem_cons_self))
    exact ⟨meth, c, h1, h2, h3, h4, h5, h6⟩
  · intro p e s m args below meth c s₁ B hml hP _
    have hh0 : s₁.heap = s.heap := by rw [B.state]; rfl
    have ht : ∀ x ∈ c.exceptionTable.toList, False := by
      obtain ⟨meth9, c9, h1, h2, -, -, -, -, h7, -⟩ := Cond.code_spec B.named (atoms_spec (ws := ws) B.pre _ (by rw [hw]; exact List.mem_cons_self))
      cases Option.some.inj (h1.symm.trans B.method)
      cases Option.some.inj (h2.symm.trans (Stand.of_body B).code)
      intro x hx
      rw [Array.isEmpty_iff.mp h7] at hx
      cases hx
    obtain ⟨t, a1, o, b1, b2, b3⟩ := body p e s m args below meth c s₁ B hml ht hP s₁ hh0 (Stand.of_body B)
    exact ⟨t, o, a1, b1, b2, b3⟩
/-- the table of a body with handlers -/
theorem vx_table {p : Program} {x y : MethodName} {S : Spec} {cc bytes : ByteArray} {maxL maxL' : Nat} {ret ret' : Option FieldType} {e : Env} {s s₁ : State} {m : MethodId} {args : Array Value} {below : List Frame} {meth : Method} {c : Code} {hh : List (Nat × Nat × Nat × Nat)}
    (B : BodyLoose p l y S cc maxL ret e s m args below meth c s₁) (h : (Cond.codeWith y bytes maxL' ret' hh).before args s = true) : c.exceptionTable.toList = tableOf hh := by
  obtain ⟨m9, meth9, c9, hn9, h1, h2, -, -, h6, -⟩ := Cond.codeWith_spec h
  cases Option.some.inj (hn9.symm.trans B.named)
  cases Option.some.inj (h1.symm.trans B.method)
  cases Option.some.inj (h2.symm.trans (Stand.of_body B).code)
  rw [← h6, table_eq]
end Bodies
end VXA
/-! ===== END ===== -/
/-! ===== BEGIN a static call of a method with an exception table ===== -/
section VXS
variable {p : Program} {l : Launch} {e : Env} {R : Room} {s : State} {m : MethodId} {args : Array Value} {below : List Frame} {meth : Method} {c : Code} {T : State} {H : Heap} {locs : List Loc} {cells slots : Nat}
abbrev vx_CSW (R : Room) (s : State) (args : Array Value) (own : String) (index : Nat) (y : MethodName) (bytes : ByteArray) (maxL : Nat) (ret : Option FieldType) (hh : List (Nat × Nat × Nat × Nat)) (ws : List Cond) (rm : Room) (mc ms n : Nat) : Prop :=
  (rm.cells = mc ∧ rm.slots = ms ∧ rm.frames + 1 ≤ R.frames ∧ 8 + (maxL + 11) + rm.locals ≤ R.locals ∧ (∀ w ∈ ws, ∀ (a' : Array Value) (U : State), s.WarmedH U.vm → w.before a' U = true) ∧ Cond.codeWith y bytes maxL ret hh ∈ ws) ∧
  (Cond.codeWith y bytes maxL ret hh).before args s = true ∧ (Cond.initialized y.cls).before args s = true ∧ (y.cls ≠ "java/lang/invoke/MethodHandle" ∧ y.cls ≠ "java/lang/invoke/VarHandle") ∧
  (∀ sig, parseMethodDescriptor y.desc = some sig → n = sig.parameters.length) ∧ (Cond.methodLink own index y).before args s = true ∧ (Cond.static y).before args s = true
theorem vx_cwSW {own : String} {index maxL mc ms : Nat} {y : MethodName} {bytes : ByteArray} {ret : Option FieldType} {hh : List (Nat × Nat × Nat × Nat)} {Ts ws ws' : List Cond} {rm : Room} (n : Nat) (ht : ∀ w ∈ Ts, w.before args s = true) (hT : GoodIn Ts (va_wsS own index y ws)) (hw : ws = Cond.codeWith y bytes maxL ret hh :: ws') (hrc : rm.cells = mc) (hrs : rm.slots = ms)
    (hd : y.cls ≠ "java/lang/invoke/MethodHandle" ∧ y.cls ≠ "java/lang/invoke/VarHandle" ∧ (parseMethodDescriptor y.desc).map (fun d => d.parameters.length) = some n) (hR : rm.frames + 1 ≤ R.frames ∧ 8 + (maxL + 11) + rm.locals ≤ R.locals) :
    vx_CSW R s args own index y bytes maxL ret hh ws rm mc ms n := by
  have ok : ∀ w ∈ va_wsS own index y ws, w.before args s = true := fun w h => ht w (hT w h).1
  have hG : GoodIn Ts ws := fun w h => hT w (by unfold va_wsS; exact List.mem_append_right _ h)
  have hc : Cond.codeWith y bytes maxL ret hh ∈ ws := by rw [hw]; exact List.mem_cons_self
  refine ⟨⟨hrc, hrs, hR.1, hR.2, pay_in ht hG, hc⟩, ht _ (hG _ hc).1, ok _ (by simp [va_wsS]), ⟨hd.1, hd.2.1⟩, fun sig h => ?_, ok _ (by simp [va_wsS]), ok _ (by simp [va_wsS])⟩
  have h2 := hd.2.2
  rw [h] at h2
  exact (Option.some.inj h2).symm
theorem vx_callSW (X : Stand p l e R s m args below meth c T locs cells slots) (hexec : p.tables.exec = Jvm.exec) {own : String} {index : Nat} {y : MethodName} {bytes : ByteArray} {maxL : Nat} {ret : Option FieldType} {hh : List (Nat × Nat × Nat × Nat)}
    (hown : s.vm.findClass own = some m.cls) (hlink : (Cond.methodLink own index y).before args s = true) (hstat : (Cond.static y).before args s = true) (hinit : (Cond.initialized y.cls).before args s = true)
    (hcode : (Cond.codeWith y bytes maxL ret hh).before args s = true) (hy : y.cls ≠ "java/lang/invoke/MethodHandle" ∧ y.cls ≠ "java/lang/invoke/VarHandle")
    {W9 : Nat} {Pre : Pt → Array Value → Prop} {Post : Pt → Array Value → Option Value → Pt → Prop} (hK : Back l R p e below s args y 3 W9 Pre Post)
    {g : JFrame} (hg : g.method = m) (hsize : g.locals.size = c.maxLocals) {argsL rest : List Value} (hlen : ∀ sig, parseMethodDescriptor y.desc = some sig → argsL.length = sig.parameters.length)
    (hstack : g.stack = argsL.reverse ++ rest) (hW : 2 * g.monitorRoom + (rest.map fun v => v.category).sum ≤ W9) (hdg : decode c.code g.pc = .ok (.invokestatic index, 3))
    (hpre : ∀ vm₁, s.WarmedH vm₁ → Pre ⟨T.setVm vm₁, locs, cells, slots⟩ argsL.toArray) :
    ∃ (v : Option Value) (vm₁ : Vm) (B : Pt), s.WarmedH vm₁ ∧ Stand p l e R s m args below meth c B.U B.locs B.cells B.slots ∧ Post ⟨T.setVm vm₁, locs, cells, slots⟩ argsL.toArray v B ∧
      ∀ target, Steps p.tables e below (B.U.setTop { g with pc := g.pc + 3, stack := v.toList ++ rest }) target → Steps p.tables e below (T.setTop g) target := by
  obtain ⟨mk, methM, cM, hnamed, hmethM, -, -, -, -, -, -, hsigM⟩ := Cond.codeWith_spec hcode
  have hstatic : methM.isStatic = true := Cond.static_spec hnamed hmethM hstat
  obtain ⟨kP, hkP, -⟩ := className_of_methodNamed hnamed
  have hinitP : kP.init = .initialized := Cond.initialized_spec (findClass_of_methodNamed hnamed) hkP hinit
  obtain ⟨vm₁, X₁, hstep₁⟩ := X.invokestatic hexec hown hlink hnamed hmethM hstatic hkP hinitP hy (g := g) hg (argsL := argsL) (rest := rest) (hlen _ hsigM) hstack hdg
  obtain ⟨v, B, X', hpost, hsteps⟩ := hK m meth c ⟨T.setVm vm₁, locs, cells, slots⟩ { g with stack := rest } (.invokestatic index) mk argsL.toArray X₁ hg hsize hdg hW (X₁.named hnamed) (hpre vm₁ X₁.warmed)
  exact ⟨v, vm₁, B, X₁.warmed, X', hpost, fun target h => hstep₁ _ fun acts => by rw [doInvoke_state]; exact hsteps.trans h⟩
theorem vx_runSW {y : MethodName} {bytes cc : ByteArray} {maxL nL mc ms n index : Nat} {ret : Option FieldType} {hh : List (Nat × Nat × Nat × Nat)} {ws : List Cond} {rm : Room} {Pc : Array Value → State → Prop} {Qc : Array Value → State → Outcome → State → Prop} {free : Addr → Prop} {Ts : List Cond} {own : String} {As rest : List Value} {g : JFrame}
    (S : CallFix p m c cc nL s args Ts own) (hM : Met l y ws rm Pc Qc mc ms free) (cw : vx_CSW R s args own index y bytes maxL ret hh ws rm mc ms n) (hp : PreS s H Pc As)
    (hg : g.method = m) (hn : As.length = n) (hsize : g.locals.size = nL) (hstack : g.stack = As.reverse ++ rest) (hW : 2 * g.monitorRoom + (rest.map fun v => v.category).sum ≤ 8) (hdg : decode cc g.pc = .ok (.invokestatic index, 3)) (hf : cells + mc ≤ R.cells ∧ slots + ms ≤ R.slots) :
    va_Run p l e R s m args below meth c H locs cells slots mc ms g rest (Qc As.toArray) (free) := by
  obtain ⟨⟨hrc, hrs, hfr, hlo, hws, hcw⟩, hcode, hini, hy, hlen, hl, hstt⟩ := cw
  have hK : Back l R p e below s args y 3 8 (PreOf R mc ms Pc) (PostOf Qc mc ms free) := va_backW (hh := hh) (bytes := bytes) (maxL := maxL) (ret := ret) hM hp.1 hrc hrs hfr hlo hws hcw (fun a' U hW => word_at hW (Or.inl (by first | rfl | simp [Cond.onTables, Cond.keeps, Cond.steady])) hini)
  obtain ⟨hx, hb, hml, ho, -⟩ := S
  intro T hT X
  obtain ⟨v, vm₁, ⟨U', l2, c2, s2⟩, hW₁, X', ⟨g', mk, t, L, e1, e2, hq, h1, hL, h2, h3⟩, st⟩ := vx_callSW X hx (hh := hh) (bytes := bytes) (maxL := maxL) (ret := ret) ho hl hstt hini hcode hy hK hg (hsize.trans hml.symm) (argsL := As) (rest := rest) (fun sig h => hn.trans (hlen sig h)) hstack hW (by rw [hb]; exact hdg)
    (fun vm₁ hW₁ => ⟨hf.1, hf.2, hp.2 (T.setVm vm₁) hT hW₁⟩)
  dsimp only [Pt.U, Pt.locs, Pt.cells, Pt.slots] at X' e1 e2 h1 h2 h3 st
  subst h1; subst h2; subst h3
  exact ⟨v, (T.setVm vm₁).calling g' mk As.toArray, t, U', L, hT, X', hL, e1, e2, hq, st⟩
/-- not caught here, past rows that name other classes: it goes on to the caller -/
theorem vx_outP {p : Program} {l : Launch} {e : Env} {R : Room} {s : State} {m : MethodId} {args : Array Value} {below : List Frame} {meth : Method} {c : Code} {H : Heap} {locs : List Loc} {cells slots : Nat} {free : Addr → Prop} {ls : Array Slot} {rest : List Value} {Qc : Array Value → State → Outcome → State → Prop} {XC : String → State → State → Prop}
    {pc : Nat} {own E : String} {ce : Cell} {q : Addr} {mc ms : Nat} (hown : s.vm.findClass own = some m.cls) (hlocks : meth.locks = false)
    (hpass : ∀ z ∈ c.exceptionTable.toList, covers z pc = false ∨ (z.catchType ≠ 0 ∧ ∃ nm : String, (Cond.classLink own z.catchType nm).before args s = true ∧ va_Nc E nm s)) (hcell : H[q]? = some ce) (hv : ce.vm = .none) (hcl : s.vm.findClass E = some ce.cls)
    (hx : ∀ t : State, t.heap = H → s.vm.Alike t.vm → XC E s t) (hf : ∀ z ∈ locs, free z.base) (hc : cells ≤ mc) (hs : slots ≤ ms) :
    vx_W p l e R s m args below meth c H locs cells slots (vx_MQ below Qc XC args s mc ms free) (F0 m pc ls rest) q := by
  intro T hT X
  have hpl : e.platform.magicAccessors = ({} : Platform).magicAccessors := by rw [X.admits.platform]
  obtain ⟨vm', hW', X', st⟩ := X.outThrough hlocks q (g := F0 m pc ls rest) rfl rfl rfl (cell := ce) (by rw [hT]; exact hcell) (by rw [hv]; rfl)
    (by obtain ⟨k9, h9, -⟩ := Vm.findClass_spec hcl; exact ⟨k9, h9⟩) (fun z hz => by
      rcases hpass z hz with h | ⟨hz0, nm, hl1, hn1⟩
      · exact Or.inl h
      · obtain ⟨c6, hc6, hcl6⟩ := Cond.classLink_spec hown hl1 e.platform hpl
        obtain ⟨a8, b8, h1, h2, h3⟩ := hn1
        cases Option.some.inj (h1.symm.trans hcl)
        cases Option.some.inj (h2.symm.trans hc6)
        exact Or.inr ⟨hz0, _, hcl6, h3⟩)
  obtain ⟨g₀, hfr⟩ := X'.frames_eq
  have hcell9 : ((T.setVm vm').setFrames (.throwing q :: below)).heap[q]? = some ce := by
    show T.heap[q]? = some ce
    rw [hT]; exact hcell
  have hend : Ended ((T.setVm vm').setFrames (.throwing q :: below)) below (.threw q) := State.frames_setFrames _ (State.cur_lt_of_frames hfr)
  refine ⟨(T.setVm vm').setFrames (.throwing q :: below), ?_, .threw q, X'.here.running, hend, Or.inr ⟨q, rfl, E, ce, locs, hx _ hT (X'.ends _).1.alike, hcell9, hv, hcl, (X'.ends _).1, (X'.ends _).2.mono hc hs, hf⟩⟩
  rw [X.pushThrowing_eq]
  exact st
/-- a thing of a world lies in the heap -/
theorem vx_lt {D : va_G} {cl : List vw_C} {ws : va_W} {H1 : Heap} (h : va_P D cl ws H1) {k : Nat} {q : Nat × va_E} (hk : ws[k]? = some q) : q.1 < H1.size := (h k q hk).lt
end VXS
/-! ===== END ===== -/
/-! ===== BEGIN methods with a table of their own: called by a name, returning or throwing ===== -/
section VXH
/-! vx_backW, vx_callVX, vx_callSX, vx_callVW, vx_runVW, vx_runVX, vx_runSX, vx_ofWH follow the same proofs as their sisters above (Free/Laws.lean, Shelf42/LK1.lean); vx_outP calls Shelf42/NT130.lean (outThrough). -/
section
variable {l : Launch} {R : Room} {p : Program} {e : Env} {below : List Frame} {s : State} {sargs : Array Value} {y : MethodName} {len W9 : Nat}
theorem vx_backW {ws : List Cond} {rm : Room} {Pc : Array Value → State → Prop} {Qc : Array Value → State → Outcome → State → Prop} {XC : String → State → State → Prop} {mc ms : Nat} {free : Addr → Prop} {bytes : ByteArray} {maxL : Nat} {ret : Option FieldType} {hh : List (Nat × Nat × Nat × Nat)}
    (hM : vx_Met l y ws rm Pc Qc XC mc ms free) (hblind : FrameBlind Pc) (hrc : rm.cells = mc) (hrs : rm.slots = ms)
    (hframes : rm.frames + 1 ≤ R.frames) (hlocals : W9 + (maxL + 11) + rm.locals ≤ R.locals)
    (hws : ∀ w ∈ ws, ∀ a' U, s.WarmedH U.vm → w.before a' U = true) (hcode : Cond.codeWith y bytes maxL ret hh ∈ ws) (hinit : ∀ a' U, s.WarmedH U.vm → (Cond.initialized y.cls).before a' U = true) :
    vx_Back l R p e below s sargs y len W9 (PreOf R mc ms Pc) (PostOf Qc mc ms free) (vx_Post XC mc ms free) := by
  intro m meth c A g ig mk a X hg hsize hdg hW hn hp
  have h1 : (headSpec ws rm).pre.before a A.U = true := atoms_intro fun w hw => hws w hw _ _ X.warmed
  have h2 : (Cond.codeWith y bytes maxL ret hh).before a A.U = true := hws _ hcode _ _ X.warmed
  have h3 : (Cond.initialized y.cls).before a A.U = true := hinit _ _ X.warmed
  have h4 : A.cells + (headSpec ws rm).room.cells ≤ R.cells := by rw [show (headSpec ws rm).room.cells = mc from hrc]; exact hp.1
  have h5 : A.slots + (headSpec ws rm).room.slots ≤ R.slots := by rw [show (headSpec ws rm).room.slots = ms from hrs]; exact hp.2.1
  have hPc : Pc a (A.U.calling g mk a) := hblind _ _ _ _ hp.2.2
  obtain ⟨U, Ls, c0, s0⟩ := A
  dsimp only [Pt.U, Pt.locs, Pt.cells, Pt.slots] at h1 h2 h3 h4 h5 X hn hPc ⊢
  obtain ⟨m9, methY, cY, hn9, hmY, hcY, -, hlY, -⟩ := Cond.codeWith_spec h2
  cases Option.some.inj (hn9.symm.trans hn)
  obtain ⟨kY, hkY, -⟩ := className_of_methodNamed hn
  have hinitY : kY.init = .initialized := Cond.initialized_spec (findClass_of_methodNamed hn) hkY h3
  have h : At U g.method c below := by rw [hg]; exact X.here
  have hlocals9 : W9 + (maxL + 11) + (headSpec ws rm).room.locals ≤ R.locals := hlocals
  have happ : (headSpec ws rm).appliesLoose y e.platform (U.calling g mk a) = true :=
    Spec.appliesLoose_calling (g := g) h hdg hn hkY hinitY
      (X.room_calling (g := g) (R' := (headSpec ws rm).room) hsize hmY hcY hframes (by rw [hlY]; omega) h4 h5) h1
  obtain ⟨mid, hmid⟩ := h.above
  have hfr : (U.setTop g).frames = (.java g :: mid) ++ below := by rw [State.frames_setTop' g h.top, hmid]; rfl
  obtain ⟨o, s₂, hsteps, -, hend, hq⟩ := Steps.callFree hM p X.admits X.cas X.clock (acts := []) hfr happ hPc trivial
  have hq' : vx_Q Qc XC mc ms free a (U.calling g mk a) o s₂ := hq
  rw [State.frames_setTop' g h.top] at hend
  obtain ⟨g₀, hg0⟩ := Option.isSome_iff_exists.mp h.top
  obtain ⟨r, hr⟩ := State.topJava?_eq_some.mp hg0
  have hr' : (({ U with heap := s₂.heap, slotsUsed := s₂.slotsUsed } : State).setVm s₂.vm).frames = .java g₀ :: r := hr
  rcases hq' with ⟨hqc, L, hfe, hL⟩ | ⟨q, rfl, E, ce, L, hx, hce, hcv, hcl, hW₂, hsm, hL⟩
  · obtain ⟨⟨v, rfl⟩, hW₂, e2, q2, q3, q4, q5, q6⟩ := id hfe
    have e3 : s₂ = ({ (U.calling g mk a).setFrames s₂.frames with heap := s₂.heap, slotsUsed := s₂.slotsUsed } : State).setVm s₂.vm := by
      have : s₂ = ({ s₂ with vm := (U.calling g mk a).vm } : State).setVm s₂.vm := rfl
      rw [e2] at this
      exact this
    obtain ⟨c₂, i₂, len₂, hc₂, hd₂, hf₂⟩ := hend
    have hW' : U.WarmedH s₂.vm := hW₂
    have hcc : c₂ = c := by
      have h1 : s₂.code? g.method = U.code? g.method := by
        rw [State.code?_eq, State.code?_eq, hW'.alike.method?]
      exact Option.some.inj (hc₂.symm.trans (h1.trans h.code))
    subst hcc
    have hlen : len₂ = len := by rw [hdg] at hd₂; cases hd₂; rfl
    subst hlen
    have hs₂ : s₂ = (({ U with heap := s₂.heap, slotsUsed := s₂.slotsUsed } : State).setVm s₂.vm).setTop { g with pc := g.pc + len₂, stack := v.toList ++ g.stack } := by
      refine e3.trans ?_
      rw [hf₂, State.calling_eq h.top, State.setFrames_setFrames, State.setTop_of_frames _ hr', hr]
      rfl
    have hsame : U.sameButNew ({ U with heap := s₂.heap, slotsUsed := s₂.slotsUsed } : State) L mc ms := by
      refine ⟨?_, q2, q3, q4, q5, q6⟩
      obtain ⟨t, ht, -⟩ := State.frames_cons hr
      show ({ U with heap := s₂.heap, slotsUsed := s₂.slotsUsed } : State) = { U.setFrames U.frames with heap := s₂.heap, slotsUsed := s₂.slotsUsed }
      rw [State.setFrames_self ht]
    subst hg
    refine Or.inl ⟨v, ⟨(({ U with heap := s₂.heap, slotsUsed := s₂.slotsUsed } : State).setVm s₂.vm), Ls ++ L, c0 + mc, s0 + ms⟩,
      ⟨X.admits, X.cas, X.clock, X.frames, X.room, X.hears, X.method, X.code, (X.here.setHeapUsed s₂.heap s₂.slotsUsed).setVm hW'.alike, X.tail, State.WarmedH.trans X.warmed hW', X.limits, X.bytes, X.same.trans (hsame.setVm s.vm)⟩,
      ⟨g, mk, s₂, L, rfl, rfl, hqc, rfl, hL, rfl, rfl⟩, ?_⟩
    show Steps p.tables e below _ ((({ U with heap := s₂.heap, slotsUsed := s₂.slotsUsed } : State).setVm s₂.vm).setTop { g with pc := g.pc + len₂, stack := v.toList ++ g.stack })
    rw [← hs₂]
    exact hsteps
  · obtain ⟨e2, q2, q3, q4, q5, q6⟩ := id hsm
    have e3 : s₂ = ({ (U.calling g mk a).setFrames s₂.frames with heap := s₂.heap, slotsUsed := s₂.slotsUsed } : State).setVm s₂.vm := by
      have : s₂ = ({ s₂ with vm := (U.calling g mk a).vm } : State).setVm s₂.vm := rfl
      rw [e2] at this
      exact this
    have hf₂ : s₂.frames = .throwing q :: .java g :: U.frames.tail := hend
    have hW' : U.WarmedH s₂.vm := hW₂
    have hs₂ : s₂ = ((({ U with heap := s₂.heap, slotsUsed := s₂.slotsUsed } : State).setVm s₂.vm).setTop g).pushFrame (.throwing q) := by
      refine e3.trans ?_
      rw [hf₂, State.calling_eq h.top, State.setFrames_setFrames, State.pushFrame, State.frames_setTop _ hr', State.setTop_of_frames _ hr', State.setFrames_setFrames, hr]
      rfl
    have hsame : U.sameButNew ({ U with heap := s₂.heap, slotsUsed := s₂.slotsUsed } : State) L mc ms := by
      refine ⟨?_, q2, q3, q4, q5, q6⟩
      obtain ⟨t, ht, -⟩ := State.frames_cons hr
      show ({ U with heap := s₂.heap, slotsUsed := s₂.slotsUsed } : State) = { U.setFrames U.frames with heap := s₂.heap, slotsUsed := s₂.slotsUsed }
      rw [State.setFrames_self ht]
    subst hg
    refine Or.inr ⟨q, ⟨(({ U with heap := s₂.heap, slotsUsed := s₂.slotsUsed } : State).setVm s₂.vm), Ls ++ L, c0 + mc, s0 + ms⟩,
      ⟨X.admits, X.cas, X.clock, X.frames, X.room, X.hears, X.method, X.code, (X.here.setHeapUsed s₂.heap s₂.slotsUsed).setVm hW'.alike, X.tail, State.WarmedH.trans X.warmed hW', X.limits, X.bytes, X.same.trans (hsame.setVm s.vm)⟩,
      ⟨g, mk, s₂, L, E, ce, rfl, rfl, hx, hce, hcv, hcl, rfl, hL, rfl, rfl⟩, ?_⟩
    show Steps p.tables e below _ (((({ U with heap := s₂.heap, slotsUsed := s₂.slotsUsed } : State).setVm s₂.vm).setTop g).pushFrame (.throwing q))
    rw [← hs₂]
    exact hsteps
end
variable {p : Program} {l : Launch} {e : Env} {R : Room} {s : State} {m : MethodId} {args : Array Value} {below : List Frame} {meth : Method} {c : Code} {T : State} {H : Heap} {locs : List Loc} {cells slots : Nat}
theorem vx_callVX (X : Stand p l e R s m args below meth c T locs cells slots) (hexec : p.tables.exec = Jvm.exec) {own C : String} {index : Nat} {y : MethodName} {bytes : ByteArray} {maxL : Nat} {ret : Option FieldType} {hh : List (Nat × Nat × Nat × Nat)}
    (hown : s.vm.findClass own = some m.cls) (hlink : (Cond.methodLink own index y).before args s = true) (hinst : (Cond.instanceMethod y).before args s = true) (hsel : (Cond.selects C y y).before args s = true)
    (hcode : (Cond.codeWith y bytes maxL ret hh).before args s = true) (hy : y.cls ≠ "java/lang/invoke/MethodHandle" ∧ y.cls ≠ "java/lang/invoke/VarHandle")
    {W9 : Nat} {Pre : Pt → Array Value → Prop} {Post : Pt → Array Value → Option Value → Pt → Prop} {PostX : Pt → Array Value → Addr → Pt → Prop} (hK : vx_Back l R p e below s args y 3 W9 Pre Post PostX)
    {b : Addr} {cellB : Cell} (hcell : T.heap[b]? = some cellB) (hobj : cellB.vm.isStatics = false) (hcls : s.vm.findClass C = some cellB.cls)
    {g : JFrame} (hg : g.method = m) (hsize : g.locals.size = c.maxLocals) {argsL rest : List Value} (hlen : ∀ sig, parseMethodDescriptor y.desc = some sig → argsL.length = sig.parameters.length)
    (hstack : g.stack = argsL.reverse ++ .ref b :: rest) (hW : 2 * g.monitorRoom + (rest.map fun v => v.category).sum ≤ W9) (hdg : decode c.code g.pc = .ok (.invokevirtual index, 3))
    (hpre : ∀ vm₁, s.WarmedH vm₁ → Pre ⟨T.setVm vm₁, locs, cells, slots⟩ (Value.ref b :: argsL).toArray) :
    (∃ (v : Option Value) (vm₁ : Vm) (B : Pt), s.WarmedH vm₁ ∧ Stand p l e R s m args below meth c B.U B.locs B.cells B.slots ∧ Post ⟨T.setVm vm₁, locs, cells, slots⟩ (Value.ref b :: argsL).toArray v B ∧
      ∀ target, Steps p.tables e below (B.U.setTop { g with pc := g.pc + 3, stack := v.toList ++ rest }) target → Steps p.tables e below (T.setTop g) target) ∨
    (∃ (q : Addr) (vm₁ : Vm) (B : Pt), s.WarmedH vm₁ ∧ Stand p l e R s m args below meth c B.U B.locs B.cells B.slots ∧ PostX ⟨T.setVm vm₁, locs, cells, slots⟩ (Value.ref b :: argsL).toArray q B ∧
      Steps p.tables e below (T.setTop g) ((B.U.setTop { g with stack := rest }).pushFrame (.throwing q))) := by
  obtain ⟨mk, methM, hnamed, hmethM, hstM, habM⟩ := Cond.instanceMethod_spec hinst
  obtain ⟨m8, methM', cM, hn8, hmethM', -, -, -, -, -, -, hsigM⟩ := Cond.codeWith_spec hcode
  cases Option.some.inj (hn8.symm.trans hnamed)
  cases hmethM.symm.trans hmethM'
  obtain ⟨c2, r2, m2, q1, q2, q3, q4, kP, hkP, hkPi⟩ := Cond.selects_spec hsel
  cases hcls.symm.trans q1
  cases (State.methodFound?_of_named hnamed hy).symm.trans q2
  cases hnamed.symm.trans q3
  have hselP : selectMethod e.platform s.vm cellB.cls mk = .method mk := by rw [Launch.admits_selectMethod X.admits]; exact q4
  obtain ⟨vm₁, X₁, hstep₁⟩ := X.invokevirtual hexec hown hlink hnamed hmethM hstM hkP hkPi hy (a := b) (cell := cellB) hcell
    (fun z h => by rw [h] at hobj; cases hobj) hselP hmethM habM hkP hkPi (g := g) hg (argsL := argsL) (rest := rest) (hlen _ hsigM) hstack hdg
  rcases hK m meth c ⟨T.setVm vm₁, locs, cells, slots⟩ { g with stack := rest } (.invokevirtual index) mk (Value.ref b :: argsL).toArray X₁ hg hsize hdg hW (X₁.named hnamed) (hpre vm₁ X₁.warmed) with ⟨v, B, X', hpost, hsteps⟩ | ⟨q, B, X', hpost, hsteps⟩
  · exact Or.inl ⟨v, vm₁, B, X₁.warmed, X', hpost, fun target h => hstep₁ _ fun acts => by rw [doInvoke_state]; exact hsteps.trans h⟩
  · exact Or.inr ⟨q, vm₁, B, X₁.warmed, X', hpost, hstep₁ _ fun acts => by rw [doInvoke_state]; exact hsteps⟩
theorem vx_callSX (X : Stand p l e R s m args below meth c T locs cells slots) (hexec : p.tables.exec = Jvm.exec) {own : String} {index : Nat} {y : MethodName} {bytes : ByteArray} {maxL : Nat} {ret : Option FieldType} {hh : List (Nat × Nat × Nat × Nat)}
    (hown : s.vm.findClass own = some m.cls) (hlink : (Cond.methodLink own index y).before args s = true) (hstat : (Cond.static y).before args s = true) (hinit : (Cond.initialized y.cls).before args s = true)
    (hcode : (Cond.codeWith y bytes maxL ret hh).before args s = true) (hy : y.cls ≠ "java/lang/invoke/MethodHandle" ∧ y.cls ≠ "java/lang/invoke/VarHandle")
    {W9 : Nat} {Pre : Pt → Array Value → Prop} {Post : Pt → Array Value → Option Value → Pt → Prop} {PostX : Pt → Array Value → Addr → Pt → Prop} (hK : vx_Back l R p e below s args y 3 W9 Pre Post PostX)
    {g : JFrame} (hg : g.method = m) (hsize : g.locals.size = c.maxLocals) {argsL rest : List Value} (hlen : ∀ sig, parseMethodDescriptor y.desc = some sig → argsL.length = sig.parameters.length)
    (hstack : g.stack = argsL.reverse ++ rest) (hW : 2 * g.monitorRoom + (rest.map fun v => v.category).sum ≤ W9) (hdg : decode c.code g.pc = .ok (.invokestatic index, 3))
    (hpre : ∀ vm₁, s.WarmedH vm₁ → Pre ⟨T.setVm vm₁, locs, cells, slots⟩ argsL.toArray) :
    (∃ (v : Option Value) (vm₁ : Vm) (B : Pt), s.WarmedH vm₁ ∧ Stand p l e R s m args below meth c B.U B.locs B.cells B.slots ∧ Post ⟨T.setVm vm₁, locs, cells, slots⟩ argsL.toArray v B ∧
      ∀ target, Steps p.tables e below (B.U.setTop { g with pc := g.pc + 3, stack := v.toList ++ rest }) target → Steps p.tables e below (T.setTop g) target) ∨
    (∃ (q : Addr) (vm₁ : Vm) (B : Pt), s.WarmedH vm₁ ∧ Stand p l e R s m args below meth c B.U B.locs B.cells B.slots ∧ PostX ⟨T.setVm vm₁, locs, cells, slots⟩ argsL.toArray q B ∧
      Steps p.tables e below (T.setTop g) ((B.U.setTop { g with stack := rest }).pushFrame (.throwing q))) := by
  obtain ⟨mk, methM, cM, hnamed, hmethM, -, -, -, -, -, -, hsigM⟩ := Cond.codeWith_spec hcode
  have hstatic : methM.isStatic = true := Cond.static_spec hnamed hmethM hstat
  obtain ⟨kP, hkP, -⟩ := className_of_methodNamed hnamed
  have hinitP : kP.init = .initialized := Cond.initialized_spec (findClass_of_methodNamed hnamed) hkP hinit
  obtain ⟨vm₁, X₁, hstep₁⟩ := X.invokestatic hexec hown hlink hnamed hmethM hstatic hkP hinitP hy (g := g) hg (argsL := argsL) (rest := rest) (hlen _ hsigM) hstack hdg
  rcases hK m meth c ⟨T.setVm vm₁, locs, cells, slots⟩ { g with stack := rest } (.invokestatic index) mk argsL.toArray X₁ hg hsize hdg hW (X₁.named hnamed) (hpre vm₁ X₁.warmed) with ⟨v, B, X', hpost, hsteps⟩ | ⟨q, B, X', hpost, hsteps⟩
  · exact Or.inl ⟨v, vm₁, B, X₁.warmed, X', hpost, fun target h => hstep₁ _ fun acts => by rw [doInvoke_state]; exact hsteps.trans h⟩
  · exact Or.inr ⟨q, vm₁, B, X₁.warmed, X', hpost, hstep₁ _ fun acts => by rw [doInvoke_state]; exact hsteps⟩
theorem vx_callVW (X : Stand p l e R s m args below meth c T locs cells slots) (hexec : p.tables.exec = Jvm.exec) {own C : String} {index : Nat} {y : MethodName} {bytes : ByteArray} {maxL : Nat} {ret : Option FieldType} {hh : List (Nat × Nat × Nat × Nat)}
    (hown : s.vm.findClass own = some m.cls) (hlink : (Cond.methodLink own index y).before args s = true) (hinst : (Cond.instanceMethod y).before args s = true) (hsel : (Cond.selects C y y).before args s = true)
    (hcode : (Cond.codeWith y bytes maxL ret hh).before args s = true) (hy : y.cls ≠ "java/lang/invoke/MethodHandle" ∧ y.cls ≠ "java/lang/invoke/VarHandle")
    {W9 : Nat} {Pre : Pt → Array Value → Prop} {Post : Pt → Array Value → Option Value → Pt → Prop} (hK : Back l R p e below s args y 3 W9 Pre Post)
    {b : Addr} {cellB : Cell} (hcell : T.heap[b]? = some cellB) (hobj : cellB.vm.isStatics = false) (hcls : s.vm.findClass C = some cellB.cls)
    {g : JFrame} (hg : g.method = m) (hsize : g.locals.size = c.maxLocals) {argsL rest : List Value} (hlen : ∀ sig, parseMethodDescriptor y.desc = some sig → argsL.length = sig.parameters.length)
    (hstack : g.stack = argsL.reverse ++ .ref b :: rest) (hW : 2 * g.monitorRoom + (rest.map fun v => v.category).sum ≤ W9) (hdg : decode c.code g.pc = .ok (.invokevirtual index, 3))
    (hpre : ∀ vm₁, s.WarmedH vm₁ → Pre ⟨T.setVm vm₁, locs, cells, slots⟩ (Value.ref b :: argsL).toArray) :
    ∃ (v : Option Value) (vm₁ : Vm) (B : Pt), s.WarmedH vm₁ ∧ Stand p l e R s m args below meth c B.U B.locs B.cells B.slots ∧ Post ⟨T.setVm vm₁, locs, cells, slots⟩ (Value.ref b :: argsL).toArray v B ∧
      ∀ target, Steps p.tables e below (B.U.setTop { g with pc := g.pc + 3, stack := v.toList ++ rest }) target → Steps p.tables e below (T.setTop g) target := by
  obtain ⟨mk, methM, hnamed, hmethM, hstM, habM⟩ := Cond.instanceMethod_spec hinst
  obtain ⟨m8, methM', cM, hn8, hmethM', -, -, -, -, -, -, hsigM⟩ := Cond.codeWith_spec hcode
  cases Option.some.inj (hn8.symm.trans hnamed)
  cases hmethM.symm.trans hmethM'
  obtain ⟨c2, r2, m2, q1, q2, q3, q4, kP, hkP, hkPi⟩ := Cond.selects_spec hsel
  cases hcls.symm.trans q1
  cases (State.methodFound?_of_named hnamed hy).symm.trans q2
  cases hnamed.symm.trans q3
  have hselP : selectMethod e.platform s.vm cellB.cls mk = .method mk := by rw [Launch.admits_selectMethod X.admits]; exact q4
  obtain ⟨vm₁, X₁, hstep₁⟩ := X.invokevirtual hexec hown hlink hnamed hmethM hstM hkP hkPi hy (a := b) (cell := cellB) hcell
    (fun z h => by rw [h] at hobj; cases hobj) hselP hmethM habM hkP hkPi (g := g) hg (argsL := argsL) (rest := rest) (hlen _ hsigM) hstack hdg
  obtain ⟨v, B, X', hpost, hsteps⟩ := hK m meth c ⟨T.setVm vm₁, locs, cells, slots⟩ { g with stack := rest } (.invokevirtual index) mk (Value.ref b :: argsL).toArray X₁ hg hsize hdg hW (X₁.named hnamed) (hpre vm₁ X₁.warmed)
  exact ⟨v, vm₁, B, X₁.warmed, X', hpost, fun target h => hstep₁ _ fun acts => by rw [doInvoke_state]; exact hsteps.trans h⟩
abbrev vx_CVW (R : Room) (s : State) (args : Array Value) (own C : String) (index : Nat) (y : MethodName) (bytes : ByteArray) (maxL : Nat) (ret : Option FieldType) (hh : List (Nat × Nat × Nat × Nat)) (ws : List Cond) (rm : Room) (mc ms n : Nat) : Prop :=
  (rm.cells = mc ∧ rm.slots = ms ∧ rm.frames + 1 ≤ R.frames ∧ 8 + (maxL + 11) + rm.locals ≤ R.locals ∧ (∀ w ∈ ws, ∀ (a' : Array Value) (U : State), s.WarmedH U.vm → w.before a' U = true) ∧ Cond.codeWith y bytes maxL ret hh ∈ ws) ∧
  (Cond.codeWith y bytes maxL ret hh).before args s = true ∧ (Cond.initialized y.cls).before args s = true ∧ (y.cls ≠ "java/lang/invoke/MethodHandle" ∧ y.cls ≠ "java/lang/invoke/VarHandle") ∧
  (∀ sig, parseMethodDescriptor y.desc = some sig → n = sig.parameters.length) ∧ (Cond.methodLink own index y).before args s = true ∧ (Cond.instanceMethod y).before args s = true ∧ (Cond.selects C y y).before args s = true
theorem vx_cwVW {own C : String} {index maxL mc ms : Nat} {y : MethodName} {bytes : ByteArray} {ret : Option FieldType} {hh : List (Nat × Nat × Nat × Nat)} {Ts ws ws' : List Cond} {rm : Room} (n : Nat) (ht : ∀ w ∈ Ts, w.before args s = true) (hT : GoodIn Ts (wsV own index C y ws)) (hw : ws = Cond.codeWith y bytes maxL ret hh :: ws') (hrc : rm.cells = mc) (hrs : rm.slots = ms)
    (hd : y.cls = C ∧ y.cls ≠ "java/lang/invoke/MethodHandle" ∧ y.cls ≠ "java/lang/invoke/VarHandle" ∧ (parseMethodDescriptor y.desc).map (fun d => d.parameters.length) = some n) (hR : rm.frames + 1 ≤ R.frames ∧ 8 + (maxL + 11) + rm.locals ≤ R.locals) :
    vx_CVW R s args own C index y bytes maxL ret hh ws rm mc ms n := by
  obtain ⟨hC, hd⟩ := hd
  subst hC
  have ok : ∀ w ∈ wsV own index y.cls y ws, w.before args s = true := fun w h => ht w (hT w h).1
  have hG : GoodIn Ts ws := fun w h => hT w (by unfold wsV; exact List.mem_append_right _ h)
  have hc : Cond.codeWith y bytes maxL ret hh ∈ ws := by rw [hw]; exact List.mem_cons_self
  refine ⟨⟨hrc, hrs, hR.1, hR.2, pay_in ht hG, hc⟩, ht _ (hG _ hc).1, ok _ (by simp [wsV]), ⟨hd.1, hd.2.1⟩, fun sig h => ?_, ok _ (by simp [wsV]), ok _ (by simp [wsV]), ok _ (by simp [wsV])⟩
  have h2 := hd.2.2
  rw [h] at h2
  exact (Option.some.inj h2).symm
theorem vx_runVW {y : MethodName} {bytes cc : ByteArray} {maxL nL mc ms n index : Nat} {ret : Option FieldType} {hh : List (Nat × Nat × Nat × Nat)} {ws : List Cond} {rm : Room} {Pc : Array Value → State → Prop} {Qc : Array Value → State → Outcome → State → Prop} {free : Addr → Prop} {Ts : List Cond} {own C : String} {b : Addr} {As rest : List Value} {g : JFrame}
    (S : CallFix p m c cc nL s args Ts own) (hM : Met l y ws rm Pc Qc mc ms free) (cw : vx_CVW R s args own C index y bytes maxL ret hh ws rm mc ms n) (hp : PreV s H C b Pc As)
    (hg : g.method = m) (hn : As.length = n) (hsize : g.locals.size = nL) (hstack : g.stack = As.reverse ++ .ref b :: rest) (hW : 2 * g.monitorRoom + (rest.map fun v => v.category).sum ≤ 8) (hdg : decode cc g.pc = .ok (.invokevirtual index, 3)) (hf : cells + mc ≤ R.cells ∧ slots + ms ≤ R.slots) :
    va_Run p l e R s m args below meth c H locs cells slots mc ms g rest (Qc (Value.ref b :: As).toArray) free := by
  obtain ⟨⟨hrc, hrs, hfr, hlo, hws, hcw⟩, hcode, hini, hy, hlen, hl, hin, hse⟩ := cw
  have hK : Back l R p e below s args y 3 8 (PreOf R mc ms Pc) (PostOf Qc mc ms free) := va_backW (hh := hh) (bytes := bytes) (maxL := maxL) (ret := ret) hM hp.1 hrc hrs hfr hlo hws hcw (fun a' U hW => word_at hW (Or.inl (by first | rfl | simp [Cond.onTables, Cond.keeps, Cond.steady])) hini)
  obtain ⟨hx, hb, hml, ho, -⟩ := S
  obtain ⟨-, ⟨cellB, hcB, hoB, hclB⟩, hPc⟩ := hp
  intro T hT X
  obtain ⟨v, vm₁, ⟨U', l2, c2, s2⟩, hW₁, X', ⟨g', mk, t, L, e1, e2, hq, h1, hL, h2, h3⟩, st⟩ := vx_callVW X hx (C := C) (hh := hh) (bytes := bytes) (maxL := maxL) (ret := ret) ho hl hin hse hcode hy hK (by rw [hT]; exact hcB) hoB hclB hg (hsize.trans hml.symm) (argsL := As) (rest := rest) (fun sig h => hn.trans (hlen sig h)) hstack hW (by rw [hb]; exact hdg)
    (fun vm₁ hW₁ => ⟨hf.1, hf.2, hPc (T.setVm vm₁) hT hW₁⟩)
  dsimp only [Pt.U, Pt.locs, Pt.cells, Pt.slots] at X' e1 e2 h1 h2 h3 st
  subst h1; subst h2; subst h3
  exact ⟨v, (T.setVm vm₁).calling g' mk (Value.ref b :: As).toArray, t, U', L, hT, X', hL, e1, e2, hq, st⟩
section
variable {y : MethodName} {bytes cc : ByteArray} {maxL nL mc ms n index : Nat} {ret : Option FieldType} {ws : List Cond} {rm : Room} {Pc : Array Value → State → Prop} {Qc : Array Value → State → Outcome → State → Prop} {XC : String → State → State → Prop} {free : Addr → Prop} {Ts : List Cond} {own C : String} {b : Addr} {As rest : List Value} {g : JFrame}
theorem vx_runVX {hh : List (Nat × Nat × Nat × Nat)} (S : CallFix p m c cc nL s args Ts own) (hM : vx_Met l y ws rm Pc Qc XC mc ms free) (cw : vx_CVW R s args own C index y bytes maxL ret hh ws rm mc ms n) (hp : PreV s H C b Pc As)
    (hg : g.method = m) (hn : As.length = n) (hsize : g.locals.size = nL) (hstack : g.stack = As.reverse ++ .ref b :: rest) (hW : 2 * g.monitorRoom + (rest.map fun v => v.category).sum ≤ 8) (hdg : decode cc g.pc = .ok (.invokevirtual index, 3)) (hf : cells + mc ≤ R.cells ∧ slots + ms ≤ R.slots) :
    vx_Run p l e R s m args below meth c H locs cells slots mc ms g rest (Qc (Value.ref b :: As).toArray) XC free := by
  obtain ⟨⟨hrc, hrs, hfr, hlo, hws, hcw⟩, hcode, hini, hy, hlen, hl, hin, hse⟩ := cw
  have hK : vx_Back l R p e below s args y 3 8 (PreOf R mc ms Pc) (PostOf Qc mc ms free) (vx_Post XC mc ms free) := vx_backW (hh := hh) (bytes := bytes) (maxL := maxL) (ret := ret) hM hp.1 hrc hrs hfr hlo hws hcw (fun a' U hW => word_at hW (Or.inl (by first | rfl | simp [Cond.onTables, Cond.keeps, Cond.steady])) hini)
  obtain ⟨hx, hb, hml, ho, -⟩ := S
  obtain ⟨-, ⟨cellB, hcB, hoB, hclB⟩, hPc⟩ := hp
  intro T hT X
  rcases vx_callVX X hx (C := C) (hh := hh) (bytes := bytes) (maxL := maxL) (ret := ret) ho hl hin hse hcode hy hK (by rw [hT]; exact hcB) hoB hclB hg (hsize.trans hml.symm) (argsL := As) (rest := rest) (fun sig h => hn.trans (hlen sig h)) hstack hW (by rw [hb]; exact hdg)
    (fun vm₁ hW₁ => ⟨hf.1, hf.2, hPc (T.setVm vm₁) hT hW₁⟩) with ⟨v, vm₁, ⟨U', l2, c2, s2⟩, hW₁, X', ⟨g', mk, t, L, e1, e2, hq, h1, hL, h2, h3⟩, st⟩ | ⟨q, vm₁, ⟨U', l2, c2, s2⟩, hW₁, X', ⟨g', mk, t, L, E, ce, e1, e2, hq, hce, hcv, hcl, h1, hL, h2, h3⟩, st⟩
  · dsimp only [Pt.U, Pt.locs, Pt.cells, Pt.slots] at X' e1 e2 h1 h2 h3 st
    subst h1; subst h2; subst h3
    exact Or.inl ⟨v, (T.setVm vm₁).calling g' mk (Value.ref b :: As).toArray, t, U', L, hT, X', hL, e1, e2, hq, st⟩
  · dsimp only [Pt.U, Pt.locs, Pt.cells, Pt.slots] at X' e1 e2 h1 h2 h3 st hcl
    subst h1; subst h2; subst h3
    exact Or.inr ⟨q, (T.setVm vm₁).calling g' mk (Value.ref b :: As).toArray, t, U', L, E, ce, hT, X', hL, e1, e2, hq, hce, hcv, vx_cls hW₁ hcl, st⟩
theorem vx_runSX {hh : List (Nat × Nat × Nat × Nat)} (S : CallFix p m c cc nL s args Ts own) (hM : vx_Met l y ws rm Pc Qc XC mc ms free) (cw : vx_CSW R s args own index y bytes maxL ret hh ws rm mc ms n) (hp : PreS s H Pc As)
    (hg : g.method = m) (hn : As.length = n) (hsize : g.locals.size = nL) (hstack : g.stack = As.reverse ++ rest) (hW : 2 * g.monitorRoom + (rest.map fun v => v.category).sum ≤ 8) (hdg : decode cc g.pc = .ok (.invokestatic index, 3)) (hf : cells + mc ≤ R.cells ∧ slots + ms ≤ R.slots) :
    vx_Run p l e R s m args below meth c H locs cells slots mc ms g rest (Qc As.toArray) XC free := by
  obtain ⟨⟨hrc, hrs, hfr, hlo, hws, hcw⟩, hcode, hini, hy, hlen, hl, hstt⟩ := cw
  have hK : vx_Back l R p e below s args y 3 8 (PreOf R mc ms Pc) (PostOf Qc mc ms free) (vx_Post XC mc ms free) := vx_backW (hh := hh) (bytes := bytes) (maxL := maxL) (ret := ret) hM hp.1 hrc hrs hfr hlo hws hcw (fun a' U hW => word_at hW (Or.inl (by first | rfl | simp [Cond.onTables, Cond.keeps, Cond.steady])) hini)
  obtain ⟨hx, hb, hml, ho, -⟩ := S
  intro T hT X
  rcases vx_callSX X hx (hh := hh) (bytes := bytes) (maxL := maxL) (ret := ret) ho hl hstt hini hcode hy hK hg (hsize.trans hml.symm) (argsL := As) (rest := rest) (fun sig h => hn.trans (hlen sig h)) hstack hW (by rw [hb]; exact hdg)
    (fun vm₁ hW₁ => ⟨hf.1, hf.2, hp.2 (T.setVm vm₁) hT hW₁⟩) with ⟨v, vm₁, ⟨U', l2, c2, s2⟩, hW₁, X', ⟨g', mk, t, L, e1, e2, hq, h1, hL, h2, h3⟩, st⟩ | ⟨q, vm₁, ⟨U', l2, c2, s2⟩, hW₁, X', ⟨g', mk, t, L, E, ce, e1, e2, hq, hce, hcv, hcl, h1, hL, h2, h3⟩, st⟩
  · dsimp only [Pt.U, Pt.locs, Pt.cells, Pt.slots] at X' e1 e2 h1 h2 h3 st
    subst h1; subst h2; subst h3
    exact Or.inl ⟨v, (T.setVm vm₁).calling g' mk As.toArray, t, U', L, hT, X', hL, e1, e2, hq, st⟩
  · dsimp only [Pt.U, Pt.locs, Pt.cells, Pt.slots] at X' e1 e2 h1 h2 h3 st hcl
    subst h1; subst h2; subst h3
    exact Or.inr ⟨q, (T.setVm vm₁).calling g' mk As.toArray, t, U', L, E, ce, hT, X', hL, e1, e2, hq, hce, hcv, vx_cls hW₁ hcl, st⟩
end
end VXH
theorem vx_ofWH {l : Launch} {y : MethodName} {ws ws' : List Cond} {rm : Room} {Pc : Array Value → State → Prop} {Qc : Array Value → State → Outcome → State → Prop} {XC : String → State → State → Prop} {mc ms : Nat} {free : Addr → Prop} {cc : ByteArray} {maxL : Nat} {ret : Option FieldType} {hh : List (Nat × Nat × Nat × Nat)}
    (hy : plainName y.cls = true) (hw : ws = Cond.codeWith y cc maxL ret hh :: ws')
    (body : ∀ p e s m args below meth c s₁, BodyLoose p l y (headSpec ws rm) cc maxL ret e s m args below meth c s₁ → c.maxLocals = maxL → Pc args s →
      W p l e (headSpec ws rm).room s m args below meth c s.heap [] 0 0 (vx_MQ below Qc XC args s mc ms free) (entryFrame m args maxL)) : vx_Met l y ws rm Pc Qc XC mc ms free := by
  refine MetFree.of_bodyS (code := cc) (maxLocals := maxL) (ret := ret) hy ?_ ?_
  · intro args s m h hn
    obtain ⟨m9, meth, c, hn9, h1, h2, h3, h4, -, h5, h6, -⟩ := Cond.codeWith_spec (atoms_spec (ws := ws) h _ (by rw [hw]; exact List.mem_cons_self))
    cases hn.symm.trans hn9
    exact ⟨meth, c, h1, h2, h3, h4, h5, h6⟩
  · intro p e s m args below meth c s₁ B hml hP _
    have hh0 : s₁.heap = s.heap := by rw [B.state]; rfl
    obtain ⟨t, a1, o, b1, b2, b3⟩ := body p e s m args below meth c s₁ B hml hP s₁ hh0 (Stand.of_body B)
    exact ⟨t, o, a1, b1, b2, b3⟩
/-! ===== END ===== -/
end
section
def RX0 : String := "Bgpreplay$Entry"
def TX0 : u_T := fun k => match k with
  | 0 => ("Bgpreplay$Entry", "prefix", "LBgpreplay$Prefix;", true)
  | 1 => ("Bgpreplay$Entry", "longest", "I", true)
  | _ => ("Bgpreplay$Entry", "origin", "I", true)
def tyX0 : Nat → FieldType := fun k => match k with
  | 0 => .object "Bgpreplay$Prefix"
  | 1 => .int
  | _ => .int
theorem nmX0 : ∀ a, a < 3 → ∀ b, b < 3 → a ≠ b → (TX0 a).2.1 ≠ (TX0 b).2.1 := by decide +kernel
theorem tyX0_ok : ∀ k, k < 3 → parseFieldDescriptor (TX0 k).2.2.1 = some (tyX0 k) := by decide +kernel
abbrev cX0_init : ByteArray := prog_2_method_1_code
def yX0_init : MethodName := ⟨RX0, "<init>", "(LBgpreplay$Prefix;II)V"⟩
abbrev cX0_isLike : ByteArray := prog_2_method_2_code
def yX0_isLike : MethodName := ⟨RX0, "isLike", "(LBgpreplay$Entry;)Z"⟩
abbrev cX0_concerns : ByteArray := prog_2_method_3_code
def yX0_concerns : MethodName := ⟨RX0, "concerns", "(LBgpreplay$Route;)Z"⟩
abbrev cX0_permits : ByteArray := prog_2_method_4_code
def yX0_permits : MethodName := ⟨RX0, "permits", "(LBgpreplay$Route;)Z"⟩
def RX1 : String := "Bgpreplay$History"
def TX1 : u_T := fun k => match k with
  | 0 => ("Bgpreplay$History", "times", "[I", true)
  | 1 => ("Bgpreplay$History", "updateCount", "I", false)
  | 2 => ("Bgpreplay$History", "kept", "[LBgpreplay$Route;", true)
  | 3 => ("Bgpreplay$History", "keptCount", "I", false)
  | 4 => ("Bgpreplay$History", "bestOnce", "[LBgpreplay$Route;", true)
  | _ => ("Bgpreplay$History", "bestThen", "[LBgpreplay$Route;", true)
def tyX1 : Nat → FieldType := fun k => match k with
  | 0 => .array .int
  | 1 => .int
  | 2 => .array (.object "Bgpreplay$Route")
  | 3 => .int
  | 4 => .array (.object "Bgpreplay$Route")
  | _ => .array (.object "Bgpreplay$Route")
theorem nmX1 : ∀ a, a < 6 → ∀ b, b < 6 → a ≠ b → (TX1 a).2.1 ≠ (TX1 b).2.1 := by decide +kernel
theorem tyX1_ok : ∀ k, k < 6 → parseFieldDescriptor (TX1 k).2.2.1 = some (tyX1 k) := by decide +kernel
abbrev cX1_init : ByteArray := prog_3_method_1_code
def yX1_init : MethodName := ⟨RX1, "<init>", "()V"⟩
abbrev cX1_size : ByteArray := prog_3_method_2_code
def yX1_size : MethodName := ⟨RX1, "size", "()I"⟩
abbrev cX1_isFull : ByteArray := prog_3_method_3_code
def yX1_isFull : MethodName := ⟨RX1, "isFull", "()Z"⟩
abbrev cX1_noteUpdate : ByteArray := prog_3_method_4_code
def yX1_noteUpdate : MethodName := ⟨RX1, "noteUpdate", "(I)V"⟩
abbrev cX1_keep : ByteArray := prog_3_method_5_code
def yX1_keep : MethodName := ⟨RX1, "keep", "(LBgpreplay$Route;)V"⟩
abbrev cX1_sizeAt : ByteArray := prog_3_method_6_code
def yX1_sizeAt : MethodName := ⟨RX1, "sizeAt", "(I)I"⟩
abbrev cX1_routeFor : ByteArray := prog_3_method_7_code
def yX1_routeFor : MethodName := ⟨RX1, "routeFor", "(II)LBgpreplay$Route;"⟩
abbrev cX1_countUnlike : ByteArray := prog_3_method_8_code
def yX1_countUnlike : MethodName := ⟨RX1, "countUnlike", "(II)I"⟩
abbrev cX1_fillBest : ByteArray := prog_3_method_9_code
def yX1_fillBest : MethodName := ⟨RX1, "fillBest", "([LBgpreplay$Route;I)V"⟩
abbrev cX1_areUnlike : ByteArray := prog_3_method_10_code
def yX1_areUnlike : MethodName := ⟨RX1, "areUnlike", "(LBgpreplay$Route;LBgpreplay$Route;)Z"⟩
def RX2 : String := "Bgpreplay$Path"
def TX2 : u_T := fun k => match k with
  | 0 => ("Bgpreplay$Path", "networks", "[I", true)
  | _ => ("Bgpreplay$Path", "size", "I", false)
def tyX2 : Nat → FieldType := fun k => match k with
  | 0 => .array .int
  | _ => .int
theorem nmX2 : ∀ a, a < 2 → ∀ b, b < 2 → a ≠ b → (TX2 a).2.1 ≠ (TX2 b).2.1 := by decide +kernel
theorem tyX2_ok : ∀ k, k < 2 → parseFieldDescriptor (TX2 k).2.2.1 = some (tyX2 k) := by decide +kernel
abbrev cX2_init : ByteArray := prog_4_method_1_code
def yX2_init : MethodName := ⟨RX2, "<init>", "()V"⟩
abbrev cX2_size : ByteArray := prog_4_method_2_code
def yX2_size : MethodName := ⟨RX2, "size", "()I"⟩
abbrev cX2_isFull : ByteArray := prog_4_method_3_code
def yX2_isFull : MethodName := ⟨RX2, "isFull", "()Z"⟩
abbrev cX2_networkAt : ByteArray := prog_4_method_4_code
def yX2_networkAt : MethodName := ⟨RX2, "networkAt", "(I)I"⟩
abbrev cX2_origin : ByteArray := prog_4_method_5_code
def yX2_origin : MethodName := ⟨RX2, "origin", "()I"⟩
abbrev cX2_hasLeft : ByteArray := prog_4_method_6_code
def yX2_hasLeft : MethodName := ⟨RX2, "hasLeft", "(I)Z"⟩
abbrev cX2_add : ByteArray := prog_4_method_7_code
def yX2_add : MethodName := ⟨RX2, "add", "(I)V"⟩
abbrev cX2_clear : ByteArray := prog_4_method_8_code
def yX2_clear : MethodName := ⟨RX2, "clear", "()V"⟩
abbrev cX2_copy : ByteArray := prog_4_method_9_code
def yX2_copy : MethodName := ⟨RX2, "copy", "()LBgpreplay$Path;"⟩
abbrev cX2_isLike : ByteArray := prog_4_method_10_code
def yX2_isLike : MethodName := ⟨RX2, "isLike", "(LBgpreplay$Path;)Z"⟩
def RX3 : String := "Bgpreplay$Prefix"
def TX3 : u_T := fun k => match k with
  | 0 => ("Bgpreplay$Prefix", "number", "I", true)
  | _ => ("Bgpreplay$Prefix", "length", "I", true)
def tyX3 : Nat → FieldType := fun k => match k with
  | 0 => .int
  | _ => .int
theorem nmX3 : ∀ a, a < 2 → ∀ b, b < 2 → a ≠ b → (TX3 a).2.1 ≠ (TX3 b).2.1 := by decide +kernel
theorem tyX3_ok : ∀ k, k < 2 → parseFieldDescriptor (TX3 k).2.2.1 = some (tyX3 k) := by decide +kernel
abbrev cX3_init : ByteArray := prog_5_method_1_code
def yX3_init : MethodName := ⟨RX3, "<init>", "(II)V"⟩
abbrev cX3_has : ByteArray := prog_5_method_2_code
def yX3_has : MethodName := ⟨RX3, "has", "(I)Z"⟩
abbrev cX3_covers : ByteArray := prog_5_method_3_code
def yX3_covers : MethodName := ⟨RX3, "covers", "(LBgpreplay$Prefix;)Z"⟩
def RX4 : String := "Bgpreplay$Registry"
def TX4 : u_T := fun k => match k with
  | 0 => ("Bgpreplay$Registry", "entries", "[LBgpreplay$Entry;", true)
  | _ => ("Bgpreplay$Registry", "size", "I", false)
def tyX4 : Nat → FieldType := fun k => match k with
  | 0 => .array (.object "Bgpreplay$Entry")
  | _ => .int
theorem nmX4 : ∀ a, a < 2 → ∀ b, b < 2 → a ≠ b → (TX4 a).2.1 ≠ (TX4 b).2.1 := by decide +kernel
theorem tyX4_ok : ∀ k, k < 2 → parseFieldDescriptor (TX4 k).2.2.1 = some (tyX4 k) := by decide +kernel
abbrev cX4_init : ByteArray := prog_6_method_1_code
def yX4_init : MethodName := ⟨RX4, "<init>", "()V"⟩
abbrev cX4_isFull : ByteArray := prog_6_method_2_code
def yX4_isFull : MethodName := ⟨RX4, "isFull", "()Z"⟩
abbrev cX4_placeOf : ByteArray := prog_6_method_3_code
def yX4_placeOf : MethodName := ⟨RX4, "placeOf", "(LBgpreplay$Entry;)I"⟩
abbrev cX4_add : ByteArray := prog_6_method_4_code
def yX4_add : MethodName := ⟨RX4, "add", "(LBgpreplay$Entry;)V"⟩
abbrev cX4_takeOut : ByteArray := prog_6_method_5_code
def yX4_takeOut : MethodName := ⟨RX4, "takeOut", "(I)V"⟩
abbrev cX4_judge : ByteArray := prog_6_method_6_code
def yX4_judge : MethodName := ⟨RX4, "judge", "(LBgpreplay$Route;)I"⟩
def RX5 : String := "Bgpreplay$Relations"
def TX5 : u_T := fun k => match k with
  | _ => ("Bgpreplay$Relations", "rows", "[[I", true)
def tyX5 : Nat → FieldType := fun k => match k with
  | _ => .array (.array .int)
theorem nmX5 : ∀ a, a < 1 → ∀ b, b < 1 → a ≠ b → (TX5 a).2.1 ≠ (TX5 b).2.1 := by decide +kernel
theorem tyX5_ok : ∀ k, k < 1 → parseFieldDescriptor (TX5 k).2.2.1 = some (tyX5 k) := by decide +kernel
abbrev cX5_init : ByteArray := prog_7_method_1_code
def yX5_init : MethodName := ⟨RX5, "<init>", "()V"⟩
abbrev cX5_between : ByteArray := prog_7_method_2_code
def yX5_between : MethodName := ⟨RX5, "between", "(II)I"⟩
abbrev cX5_put : ByteArray := prog_7_method_3_code
def yX5_put : MethodName := ⟨RX5, "put", "(III)V"⟩
abbrev cX5_shapeOf : ByteArray := prog_7_method_4_code
def yX5_shapeOf : MethodName := ⟨RX5, "shapeOf", "(LBgpreplay$Path;)I"⟩
def RX6 : String := "Bgpreplay$Route"
def TX6 : u_T := fun k => match k with
  | 0 => ("Bgpreplay$Route", "peer", "I", true)
  | 1 => ("Bgpreplay$Route", "prefix", "LBgpreplay$Prefix;", true)
  | 2 => ("Bgpreplay$Route", "path", "LBgpreplay$Path;", true)
  | 3 => ("Bgpreplay$Route", "start", "I", true)
  | _ => ("Bgpreplay$Route", "end", "I", false)
def tyX6 : Nat → FieldType := fun k => match k with
  | 0 => .int
  | 1 => .object "Bgpreplay$Prefix"
  | 2 => .object "Bgpreplay$Path"
  | 3 => .int
  | _ => .int
theorem nmX6 : ∀ a, a < 5 → ∀ b, b < 5 → a ≠ b → (TX6 a).2.1 ≠ (TX6 b).2.1 := by decide +kernel
theorem tyX6_ok : ∀ k, k < 5 → parseFieldDescriptor (TX6 k).2.2.1 = some (tyX6 k) := by decide +kernel
abbrev cX6_init : ByteArray := prog_8_method_1_code
def yX6_init : MethodName := ⟨RX6, "<init>", "(ILBgpreplay$Prefix;LBgpreplay$Path;I)V"⟩
abbrev cX6_standsAfter : ByteArray := prog_8_method_2_code
def yX6_standsAfter : MethodName := ⟨RX6, "standsAfter", "(I)Z"⟩
abbrev cX6_isBetterThan : ByteArray := prog_8_method_3_code
def yX6_isBetterThan : MethodName := ⟨RX6, "isBetterThan", "(LBgpreplay$Route;)Z"⟩
abbrev cX6_isFoundBefore : ByteArray := prog_8_method_4_code
def yX6_isFoundBefore : MethodName := ⟨RX6, "isFoundBefore", "(LBgpreplay$Route;)Z"⟩
abbrev cX6_isLike : ByteArray := prog_8_method_5_code
def yX6_isLike : MethodName := ⟨RX6, "isLike", "(LBgpreplay$Route;)Z"⟩
def RX7 : String := "Bgpreplay$Tree"
def TX7 : u_T := fun k => match k with
  | 0 => ("Bgpreplay$Tree", "cells", "[LBgpreplay$Route;", true)
  | 1 => ("Bgpreplay$Tree", "countByPrefix", "[I", true)
  | _ => ("Bgpreplay$Tree", "countByPeer", "[I", true)
def tyX7 : Nat → FieldType := fun k => match k with
  | 0 => .array (.object "Bgpreplay$Route")
  | 1 => .array .int
  | _ => .array .int
theorem nmX7 : ∀ a, a < 3 → ∀ b, b < 3 → a ≠ b → (TX7 a).2.1 ≠ (TX7 b).2.1 := by decide +kernel
theorem tyX7_ok : ∀ k, k < 3 → parseFieldDescriptor (TX7 k).2.2.1 = some (tyX7 k) := by decide +kernel
abbrev cX7_init : ByteArray := prog_9_method_1_code
def yX7_init : MethodName := ⟨RX7, "<init>", "()V"⟩
abbrev cX7_routeOf : ByteArray := prog_9_method_2_code
def yX7_routeOf : MethodName := ⟨RX7, "routeOf", "(II)LBgpreplay$Route;"⟩
abbrev cX7_put : ByteArray := prog_9_method_3_code
def yX7_put : MethodName := ⟨RX7, "put", "(LBgpreplay$Route;)V"⟩
abbrev cX7_remove : ByteArray := prog_9_method_4_code
def yX7_remove : MethodName := ⟨RX7, "remove", "(LBgpreplay$Route;)V"⟩
abbrev cX7_countOfPeer : ByteArray := prog_9_method_5_code
def yX7_countOfPeer : MethodName := ⟨RX7, "countOfPeer", "(I)I"⟩
abbrev cX7_countPrefixes : ByteArray := prog_9_method_6_code
def yX7_countPrefixes : MethodName := ⟨RX7, "countPrefixes", "()I"⟩
abbrev cX7_bestOf : ByteArray := prog_9_method_7_code
def yX7_bestOf : MethodName := ⟨RX7, "bestOf", "(I)LBgpreplay$Route;"⟩
abbrev cX7_longestLengthFor : ByteArray := prog_9_method_8_code
def yX7_longestLengthFor : MethodName := ⟨RX7, "longestLengthFor", "(I)I"⟩
abbrev cX7_nearestAbove : ByteArray := prog_9_method_9_code
def yX7_nearestAbove : MethodName := ⟨RX7, "nearestAbove", "(I)I"⟩
abbrev cX7_countOrigins : ByteArray := prog_9_method_10_code
def yX7_countOrigins : MethodName := ⟨RX7, "countOrigins", "(I)I"⟩
abbrev cX7_hasOrigin : ByteArray := prog_9_method_11_code
def yX7_hasOrigin : MethodName := ⟨RX7, "hasOrigin", "(II)Z"⟩
abbrev cX7_originBits : ByteArray := prog_9_method_12_code
def yX7_originBits : MethodName := ⟨RX7, "originBits", "(I)I"⟩
abbrev cX7_isThere : ByteArray := prog_9_method_13_code
def yX7_isThere : MethodName := ⟨RX7, "isThere", "(I)Z"⟩
abbrev cX7_cellOf : ByteArray := prog_9_method_14_code
def yX7_cellOf : MethodName := ⟨RX7, "cellOf", "(II)I"⟩
def RX8 : String := "Bgpreplay"
def TX8 : u_T := fun k => match k with
  | 0 => ("Bgpreplay", "making", "LBgpreplay$Path;", true)
  | 1 => ("Bgpreplay", "tree", "LBgpreplay$Tree;", true)
  | 2 => ("Bgpreplay", "history", "LBgpreplay$History;", true)
  | 3 => ("Bgpreplay", "registry", "LBgpreplay$Registry;", true)
  | 4 => ("Bgpreplay", "relations", "LBgpreplay$Relations;", true)
  | _ => ("Bgpreplay", "time", "I", false)
def tyX8 : Nat → FieldType := fun k => match k with
  | 0 => .object "Bgpreplay$Path"
  | 1 => .object "Bgpreplay$Tree"
  | 2 => .object "Bgpreplay$History"
  | 3 => .object "Bgpreplay$Registry"
  | 4 => .object "Bgpreplay$Relations"
  | _ => .int
theorem nmX8 : ∀ a, a < 6 → ∀ b, b < 6 → a ≠ b → (TX8 a).2.1 ≠ (TX8 b).2.1 := by decide +kernel
theorem tyX8_ok : ∀ k, k < 6 → parseFieldDescriptor (TX8 k).2.2.1 = some (tyX8 k) := by decide +kernel
abbrev cX8_init : ByteArray := prog_1_method_1_code
def yX8_init : MethodName := ⟨RX8, "<init>", "()V"⟩
abbrev cX8_pass : ByteArray := prog_1_method_2_code
def yX8_pass : MethodName := ⟨RX8, "pass", "(I)I"⟩
abbrev cX8_now : ByteArray := prog_1_method_3_code
def yX8_now : MethodName := ⟨RX8, "now", "()I"⟩
abbrev cX8_hop : ByteArray := prog_1_method_4_code
def yX8_hop : MethodName := ⟨RX8, "hop", "(I)I"⟩
abbrev cX8_clearPath : ByteArray := prog_1_method_5_code
def yX8_clearPath : MethodName := ⟨RX8, "clearPath", "()I"⟩
abbrev cX8_announce : ByteArray := prog_1_method_6_code
def yX8_announce : MethodName := ⟨RX8, "announce", "(III)Z"⟩
abbrev cX8_withdraw : ByteArray := prog_1_method_7_code
def yX8_withdraw : MethodName := ⟨RX8, "withdraw", "(III)I"⟩
abbrev cX8_drop : ByteArray := prog_1_method_8_code
def yX8_drop : MethodName := ⟨RX8, "drop", "(I)I"⟩
abbrev cX8_updates : ByteArray := prog_1_method_9_code
def yX8_updates : MethodName := ⟨RX8, "updates", "()I"⟩
abbrev cX8_routes : ByteArray := prog_1_method_10_code
def yX8_routes : MethodName := ⟨RX8, "routes", "(I)I"⟩
abbrev cX8_prefixes : ByteArray := prog_1_method_11_code
def yX8_prefixes : MethodName := ⟨RX8, "prefixes", "()I"⟩
abbrev cX8_pathAt : ByteArray := prog_1_method_12_code
def yX8_pathAt : MethodName := ⟨RX8, "pathAt", "(IIII)I"⟩
abbrev cX8_bestPeer : ByteArray := prog_1_method_13_code
def yX8_bestPeer : MethodName := ⟨RX8, "bestPeer", "(II)I"⟩
abbrev cX8_lookUp : ByteArray := prog_1_method_14_code
def yX8_lookUp : MethodName := ⟨RX8, "lookUp", "(I)I"⟩
abbrev cX8_lookUpByScan : ByteArray := prog_1_method_15_code
def yX8_lookUpByScan : MethodName := ⟨RX8, "lookUpByScan", "(I)I"⟩
abbrev cX8_origins : ByteArray := prog_1_method_16_code
def yX8_origins : MethodName := ⟨RX8, "origins", "(II)I"⟩
abbrev cX8_contested : ByteArray := prog_1_method_17_code
def yX8_contested : MethodName := ⟨RX8, "contested", "()I"⟩
abbrev cX8_isHijack : ByteArray := prog_1_method_18_code
def yX8_isHijack : MethodName := ⟨RX8, "isHijack", "(III)Z"⟩
abbrev cX8_allow : ByteArray := prog_1_method_19_code
def yX8_allow : MethodName := ⟨RX8, "allow", "(IIII)Z"⟩
abbrev cX8_verdict : ByteArray := prog_1_method_20_code
def yX8_verdict : MethodName := ⟨RX8, "verdict", "(III)I"⟩
abbrev cX8_relate : ByteArray := prog_1_method_21_code
def yX8_relate : MethodName := ⟨RX8, "relate", "(III)I"⟩
abbrev cX8_valley : ByteArray := prog_1_method_22_code
def yX8_valley : MethodName := ⟨RX8, "valley", "(III)I"⟩
abbrev cX8_lookUpAt : ByteArray := prog_1_method_23_code
def yX8_lookUpAt : MethodName := ⟨RX8, "lookUpAt", "(II)I"⟩
abbrev cX8_originAt : ByteArray := prog_1_method_24_code
def yX8_originAt : MethodName := ⟨RX8, "originAt", "(II)I"⟩
abbrev cX8_changes : ByteArray := prog_1_method_25_code
def yX8_changes : MethodName := ⟨RX8, "changes", "(II)I"⟩
abbrev cX8_needPeer : ByteArray := prog_1_method_26_code
def yX8_needPeer : MethodName := ⟨RX8, "needPeer", "(I)V"⟩
abbrev cX8_needAddress : ByteArray := prog_1_method_27_code
def yX8_needAddress : MethodName := ⟨RX8, "needAddress", "(I)V"⟩
abbrev cX8_needPrefix : ByteArray := prog_1_method_28_code
def yX8_needPrefix : MethodName := ⟨RX8, "needPrefix", "(II)LBgpreplay$Prefix;"⟩
abbrev cX8_needRoute : ByteArray := prog_1_method_29_code
def yX8_needRoute : MethodName := ⟨RX8, "needRoute", "(III)LBgpreplay$Route;"⟩
abbrev cX8_needRoomForUpdate : ByteArray := prog_1_method_30_code
def yX8_needRoomForUpdate : MethodName := ⟨RX8, "needRoomForUpdate", "()V"⟩
abbrev cX8_endRoute : ByteArray := prog_1_method_31_code
def yX8_endRoute : MethodName := ⟨RX8, "endRoute", "(LBgpreplay$Route;)V"⟩
abbrev cX8_networkOf : ByteArray := prog_1_method_32_code
def yX8_networkOf : MethodName := ⟨RX8, "networkOf", "(I)I"⟩
abbrev cX8_lengthOf : ByteArray := prog_1_method_33_code
def yX8_lengthOf : MethodName := ⟨RX8, "lengthOf", "(LBgpreplay$Route;)I"⟩
abbrev cX8_reverseOf : ByteArray := prog_1_method_34_code
def yX8_reverseOf : MethodName := ⟨RX8, "reverseOf", "(I)I"⟩
abbrev cX8_isPeer : ByteArray := prog_1_method_35_code
def yX8_isPeer : MethodName := ⟨RX8, "isPeer", "(I)Z"⟩
abbrev cX8_isNetwork : ByteArray := prog_1_method_36_code
def yX8_isNetwork : MethodName := ⟨RX8, "isNetwork", "(I)Z"⟩
abbrev cX8_isAddress : ByteArray := prog_1_method_37_code
def yX8_isAddress : MethodName := ⟨RX8, "isAddress", "(I)Z"⟩
abbrev cX8_isPrefix : ByteArray := prog_1_method_38_code
def yX8_isPrefix : MethodName := ⟨RX8, "isPrefix", "(II)Z"⟩
abbrev cX8_isPrefixNumber : ByteArray := prog_1_method_39_code
def yX8_isPrefixNumber : MethodName := ⟨RX8, "isPrefixNumber", "(I)Z"⟩
abbrev cX8_prefixNumber : ByteArray := prog_1_method_40_code
def yX8_prefixNumber : MethodName := ⟨RX8, "prefixNumber", "(II)I"⟩
def RX9 : String := "BgpreplayModel"
def TX9 : u_T := fun k => match k with
  | 0 => ("BgpreplayModel", "time", "I", false)
  | 1 => ("BgpreplayModel", "path", "[I", true)
  | 2 => ("BgpreplayModel", "pathMany", "I", false)
  | 3 => ("BgpreplayModel", "many", "I", false)
  | 4 => ("BgpreplayModel", "times", "[I", true)
  | 5 => ("BgpreplayModel", "peers", "[I", true)
  | 6 => ("BgpreplayModel", "prefixes", "[I", true)
  | 7 => ("BgpreplayModel", "sizes", "[I", true)
  | 8 => ("BgpreplayModel", "hops", "[I", true)
  | 9 => ("BgpreplayModel", "tables", "[I", true)
  | 10 => ("BgpreplayModel", "entryMany", "I", false)
  | 11 => ("BgpreplayModel", "entryPrefixes", "[I", true)
  | 12 => ("BgpreplayModel", "entryLongest", "[I", true)
  | 13 => ("BgpreplayModel", "entryOrigins", "[I", true)
  | 14 => ("BgpreplayModel", "relations", "[I", true)
  | _ => ("BgpreplayModel", "thrown", "I", false)
def tyX9 : Nat → FieldType := fun k => match k with
  | 0 => .int
  | 1 => .array .int
  | 2 => .int
  | 3 => .int
  | 4 => .array .int
  | 5 => .array .int
  | 6 => .array .int
  | 7 => .array .int
  | 8 => .array .int
  | 9 => .array .int
  | 10 => .int
  | 11 => .array .int
  | 12 => .array .int
  | 13 => .array .int
  | 14 => .array .int
  | _ => .int
theorem nmX9 : ∀ a, a < 16 → ∀ b, b < 16 → a ≠ b → (TX9 a).2.1 ≠ (TX9 b).2.1 := by decide +kernel
theorem tyX9_ok : ∀ k, k < 16 → parseFieldDescriptor (TX9 k).2.2.1 = some (tyX9 k) := by decide +kernel
abbrev cX9_init : ByteArray := prog_11_method_1_code
def yX9_init : MethodName := ⟨RX9, "<init>", "()V"⟩
abbrev cX9_thrown : ByteArray := prog_11_method_2_code
def yX9_thrown : MethodName := ⟨RX9, "thrown", "()I"⟩
abbrev cX9_in : ByteArray := prog_11_method_3_code
def yX9_in : MethodName := ⟨RX9, "in", "(III)Z"⟩
abbrev cX9_isPrefix : ByteArray := prog_11_method_4_code
def yX9_isPrefix : MethodName := ⟨RX9, "isPrefix", "(II)Z"⟩
abbrev cX9_prefixOf : ByteArray := prog_11_method_5_code
def yX9_prefixOf : MethodName := ⟨RX9, "prefixOf", "(II)I"⟩
abbrev cX9_lengthOf : ByteArray := prog_11_method_6_code
def yX9_lengthOf : MethodName := ⟨RX9, "lengthOf", "(I)I"⟩
abbrev cX9_clearTable : ByteArray := prog_11_method_7_code
def yX9_clearTable : MethodName := ⟨RX9, "clearTable", "(I)V"⟩
abbrev cX9_placeOf : ByteArray := prog_11_method_8_code
def yX9_placeOf : MethodName := ⟨RX9, "placeOf", "(III)I"⟩
abbrev cX9_apply : ByteArray := prog_11_method_9_code
def yX9_apply : MethodName := ⟨RX9, "apply", "(II)V"⟩
abbrev cX9_replay : ByteArray := prog_11_method_10_code
def yX9_replay : MethodName := ⟨RX9, "replay", "(II)V"⟩
abbrev cX9_routesOf : ByteArray := prog_11_method_11_code
def yX9_routesOf : MethodName := ⟨RX9, "routesOf", "(I)I"⟩
abbrev cX9_best : ByteArray := prog_11_method_12_code
def yX9_best : MethodName := ⟨RX9, "best", "(II)I"⟩
abbrev cX9_found : ByteArray := prog_11_method_13_code
def yX9_found : MethodName := ⟨RX9, "found", "(II)I"⟩
abbrev cX9_origin : ByteArray := prog_11_method_14_code
def yX9_origin : MethodName := ⟨RX9, "origin", "(I)I"⟩
abbrev cX9_pass : ByteArray := prog_11_method_15_code
def yX9_pass : MethodName := ⟨RX9, "pass", "(I)I"⟩
abbrev cX9_now : ByteArray := prog_11_method_16_code
def yX9_now : MethodName := ⟨RX9, "now", "()I"⟩
abbrev cX9_hop : ByteArray := prog_11_method_17_code
def yX9_hop : MethodName := ⟨RX9, "hop", "(I)I"⟩
abbrev cX9_clearPath : ByteArray := prog_11_method_18_code
def yX9_clearPath : MethodName := ⟨RX9, "clearPath", "()I"⟩
abbrev cX9_isPeer : ByteArray := prog_11_method_19_code
def yX9_isPeer : MethodName := ⟨RX9, "isPeer", "(I)Z"⟩
abbrev cX9_update : ByteArray := prog_11_method_20_code
def yX9_update : MethodName := ⟨RX9, "update", "(III)V"⟩
abbrev cX9_announce : ByteArray := prog_11_method_21_code
def yX9_announce : MethodName := ⟨RX9, "announce", "(III)Z"⟩
abbrev cX9_route : ByteArray := prog_11_method_22_code
def yX9_route : MethodName := ⟨RX9, "route", "(III)I"⟩
abbrev cX9_withdraw : ByteArray := prog_11_method_23_code
def yX9_withdraw : MethodName := ⟨RX9, "withdraw", "(III)I"⟩
abbrev cX9_drop : ByteArray := prog_11_method_24_code
def yX9_drop : MethodName := ⟨RX9, "drop", "(I)I"⟩
abbrev cX9_updates : ByteArray := prog_11_method_25_code
def yX9_updates : MethodName := ⟨RX9, "updates", "()I"⟩
abbrev cX9_routes : ByteArray := prog_11_method_26_code
def yX9_routes : MethodName := ⟨RX9, "routes", "(I)I"⟩
abbrev cX9_prefixes : ByteArray := prog_11_method_27_code
def yX9_prefixes : MethodName := ⟨RX9, "prefixes", "()I"⟩
abbrev cX9_pathAt : ByteArray := prog_11_method_28_code
def yX9_pathAt : MethodName := ⟨RX9, "pathAt", "(IIII)I"⟩
abbrev cX9_bestPeer : ByteArray := prog_11_method_29_code
def yX9_bestPeer : MethodName := ⟨RX9, "bestPeer", "(II)I"⟩
abbrev cX9_lengthFound : ByteArray := prog_11_method_30_code
def yX9_lengthFound : MethodName := ⟨RX9, "lengthFound", "(II)I"⟩
abbrev cX9_lookUp : ByteArray := prog_11_method_31_code
def yX9_lookUp : MethodName := ⟨RX9, "lookUp", "(I)I"⟩
abbrev cX9_lookUpByScan : ByteArray := prog_11_method_32_code
def yX9_lookUpByScan : MethodName := ⟨RX9, "lookUpByScan", "(I)I"⟩
abbrev cX9_originsOf : ByteArray := prog_11_method_33_code
def yX9_originsOf : MethodName := ⟨RX9, "originsOf", "(I)I"⟩
abbrev cX9_origins : ByteArray := prog_11_method_34_code
def yX9_origins : MethodName := ⟨RX9, "origins", "(II)I"⟩
abbrev cX9_contested : ByteArray := prog_11_method_35_code
def yX9_contested : MethodName := ⟨RX9, "contested", "()I"⟩
abbrev cX9_isHijack : ByteArray := prog_11_method_36_code
def yX9_isHijack : MethodName := ⟨RX9, "isHijack", "(III)Z"⟩
abbrev cX9_allow : ByteArray := prog_11_method_37_code
def yX9_allow : MethodName := ⟨RX9, "allow", "(IIII)Z"⟩
abbrev cX9_covers : ByteArray := prog_11_method_38_code
def yX9_covers : MethodName := ⟨RX9, "covers", "(II)Z"⟩
abbrev cX9_verdict : ByteArray := prog_11_method_39_code
def yX9_verdict : MethodName := ⟨RX9, "verdict", "(III)I"⟩
abbrev cX9_relate : ByteArray := prog_11_method_40_code
def yX9_relate : MethodName := ⟨RX9, "relate", "(III)I"⟩
abbrev cX9_valley : ByteArray := prog_11_method_41_code
def yX9_valley : MethodName := ⟨RX9, "valley", "(III)I"⟩
abbrev cX9_lookUpAt : ByteArray := prog_11_method_42_code
def yX9_lookUpAt : MethodName := ⟨RX9, "lookUpAt", "(II)I"⟩
abbrev cX9_originAt : ByteArray := prog_11_method_43_code
def yX9_originAt : MethodName := ⟨RX9, "originAt", "(II)I"⟩
abbrev cX9_areAlike : ByteArray := prog_11_method_44_code
def yX9_areAlike : MethodName := ⟨RX9, "areAlike", "(II)Z"⟩
abbrev cX9_changes : ByteArray := prog_11_method_45_code
def yX9_changes : MethodName := ⟨RX9, "changes", "(II)I"⟩
def RJx145de : String := "java/io/Serializable"
def TJx145de : u_T := fun k => match k with
  | _ => ("", "", "", false)
def tyJx145de : Nat → FieldType := fun k => match k with
  | _ => .int
theorem nmJx145de : ∀ a, a < 0 → ∀ b, b < 0 → a ≠ b → (TJx145de a).2.1 ≠ (TJx145de b).2.1 := by decide +kernel
theorem tyJx145de_ok : ∀ k, k < 0 → parseFieldDescriptor (TJx145de k).2.2.1 = some (tyJx145de k) := by decide +kernel
def RJ6 : String := "java/lang/Integer"
def TJ6 : u_T := fun k => match k with
  | _ => ("", "", "", false)
def tyJ6 : Nat → FieldType := fun k => match k with
  | _ => .int
theorem nmJ6 : ∀ a, a < 0 → ∀ b, b < 0 → a ≠ b → (TJ6 a).2.1 ≠ (TJ6 b).2.1 := by decide +kernel
theorem tyJ6_ok : ∀ k, k < 0 → parseFieldDescriptor (TJ6 k).2.2.1 = some (tyJ6 k) := by decide +kernel
abbrev cJ6_bitCount_0f7a4 : ByteArray := prog_17_method_49_code
def yJ6_bitCount_0f7a4 : MethodName := ⟨RJ6, "bitCount", "(I)I"⟩
def RJ0 : String := "java/lang/String"
def TJ0 : u_T := fun k => match k with
  | _ => ("", "", "", false)
def tyJ0 : Nat → FieldType := fun k => match k with
  | _ => .int
theorem nmJ0 : ∀ a, a < 0 → ∀ b, b < 0 → a ≠ b → (TJ0 a).2.1 ≠ (TJ0 b).2.1 := by decide +kernel
theorem tyJ0_ok : ∀ k, k < 0 → parseFieldDescriptor (TJ0 k).2.2.1 = some (tyJ0 k) := by decide +kernel
def RL : String := "BgpreplayLaw"
abbrev cL_pass : ByteArray := method_3_code
def yL_pass : MethodName := ⟨RL, "pass", "(LBgpreplay;I[J)I"⟩
abbrev cL_hop : ByteArray := method_4_code
def yL_hop : MethodName := ⟨RL, "hop", "(LBgpreplay;I[J)I"⟩
abbrev cL_announce : ByteArray := method_5_code
def yL_announce : MethodName := ⟨RL, "announce", "(LBgpreplay;III[J)I"⟩
abbrev cL_withdraw : ByteArray := method_6_code
def yL_withdraw : MethodName := ⟨RL, "withdraw", "(LBgpreplay;III[J)I"⟩
abbrev cL_drop : ByteArray := method_7_code
def yL_drop : MethodName := ⟨RL, "drop", "(LBgpreplay;I[J)I"⟩
abbrev cL_routes : ByteArray := method_8_code
def yL_routes : MethodName := ⟨RL, "routes", "(LBgpreplay;I[J)I"⟩
abbrev cL_pathAt : ByteArray := method_9_code
def yL_pathAt : MethodName := ⟨RL, "pathAt", "(LBgpreplay;IIII[J)I"⟩
abbrev cL_bestPeer : ByteArray := method_10_code
def yL_bestPeer : MethodName := ⟨RL, "bestPeer", "(LBgpreplay;II[J)I"⟩
abbrev cL_lookUp : ByteArray := method_11_code
def yL_lookUp : MethodName := ⟨RL, "lookUp", "(LBgpreplay;I[J)I"⟩
abbrev cL_lookUpByScan : ByteArray := method_12_code
def yL_lookUpByScan : MethodName := ⟨RL, "lookUpByScan", "(LBgpreplay;I[J)I"⟩
abbrev cL_origins : ByteArray := method_13_code
def yL_origins : MethodName := ⟨RL, "origins", "(LBgpreplay;II[J)I"⟩
abbrev cL_isHijack : ByteArray := method_14_code
def yL_isHijack : MethodName := ⟨RL, "isHijack", "(LBgpreplay;III[J)I"⟩
abbrev cL_allow : ByteArray := method_15_code
def yL_allow : MethodName := ⟨RL, "allow", "(LBgpreplay;IIII[J)I"⟩
abbrev cL_verdict : ByteArray := method_16_code
def yL_verdict : MethodName := ⟨RL, "verdict", "(LBgpreplay;III[J)I"⟩
abbrev cL_relate : ByteArray := method_17_code
def yL_relate : MethodName := ⟨RL, "relate", "(LBgpreplay;III[J)I"⟩
abbrev cL_valley : ByteArray := method_18_code
def yL_valley : MethodName := ⟨RL, "valley", "(LBgpreplay;III[J)I"⟩
abbrev cL_lookUpAt : ByteArray := method_19_code
def yL_lookUpAt : MethodName := ⟨RL, "lookUpAt", "(LBgpreplay;II[J)I"⟩
abbrev cL_originAt : ByteArray := method_20_code
def yL_originAt : MethodName := ⟨RL, "originAt", "(LBgpreplay;II[J)I"⟩
abbrev cL_law : ByteArray := code
def yL_law : MethodName := ⟨RL, "law", "([I)Z"⟩
abbrev wsX00 : List Cond := u_ws RX0 TX0 3
abbrev wsX10 : List Cond := u_ws RX1 TX1 6
abbrev wsX20 : List Cond := u_ws RX2 TX2 2
abbrev wsX30 : List Cond := u_ws RX3 TX3 2
abbrev wsX40 : List Cond := u_ws RX4 TX4 2
abbrev wsX50 : List Cond := u_ws RX5 TX5 1
abbrev wsX60 : List Cond := u_ws RX6 TX6 5
abbrev wsX70 : List Cond := u_ws RX7 TX7 3
abbrev wsX80 : List Cond := u_ws RX8 TX8 6
abbrev wsX90 : List Cond := u_ws RX9 TX9 16
abbrev wsJx145de0 : List Cond := u_ws RJx145de TJx145de 0
abbrev wsJ60 : List Cond := u_ws RJ6 TJ6 0
abbrev wsJ00 : List Cond := u_ws RJ0 TJ0 0
abbrev vwCl : List vw_C := [(RX0, TX0, 3), (RX1, TX1, 6), (RX2, TX2, 2), (RX3, TX3, 2), (RX4, TX4, 2), (RX5, TX5, 1), (RX6, TX6, 5), (RX7, TX7, 3), (RX8, TX8, 6), (RX9, TX9, 16)]
end
section
theorem dX0_init_0 : decode cX0_init 0 = .ok (.aload_n 0, 1) := by decide +kernel
theorem dX0_init_1 : decode cX0_init 1 = .ok (.invokespecial 1, 3) := by decide +kernel
theorem dX0_init_4 : decode cX0_init 4 = .ok (.aload_n 0, 1) := by decide +kernel
theorem dX0_init_5 : decode cX0_init 5 = .ok (.aload_n 1, 1) := by decide +kernel
theorem dX0_init_6 : decode cX0_init 6 = .ok (.putfield 7, 3) := by decide +kernel
theorem dX0_init_9 : decode cX0_init 9 = .ok (.aload_n 0, 1) := by decide +kernel
theorem dX0_init_10 : decode cX0_init 10 = .ok (.iload_n 2, 1) := by decide +kernel
theorem dX0_init_11 : decode cX0_init 11 = .ok (.putfield 13, 3) := by decide +kernel
theorem dX0_init_14 : decode cX0_init 14 = .ok (.aload_n 0, 1) := by decide +kernel
theorem dX0_init_15 : decode cX0_init 15 = .ok (.iload_n 3, 1) := by decide +kernel
theorem dX0_init_16 : decode cX0_init 16 = .ok (.putfield 17, 3) := by decide +kernel
theorem dX0_init_19 : decode cX0_init 19 = .ok (.return_, 1) := by decide +kernel
theorem dX0_isLike_0 : decode cX0_isLike 0 = .ok (.aload_n 0, 1) := by decide +kernel
theorem dX0_isLike_1 : decode cX0_isLike 1 = .ok (.getfield 7, 3) := by decide +kernel
theorem dX0_isLike_4 : decode cX0_isLike 4 = .ok (.getfield 20, 3) := by decide +kernel
theorem dX0_isLike_7 : decode cX0_isLike 7 = .ok (.aload_n 1, 1) := by decide +kernel
theorem dX0_isLike_8 : decode cX0_isLike 8 = .ok (.getfield 7, 3) := by decide +kernel
theorem dX0_isLike_11 : decode cX0_isLike 11 = .ok (.getfield 20, 3) := by decide +kernel
theorem dX0_isLike_14 : decode cX0_isLike 14 = .ok (.if_icmp .ne 29, 3) := by decide +kernel
theorem dX0_isLike_17 : decode cX0_isLike 17 = .ok (.aload_n 0, 1) := by decide +kernel
theorem dX0_isLike_18 : decode cX0_isLike 18 = .ok (.getfield 13, 3) := by decide +kernel
theorem dX0_isLike_21 : decode cX0_isLike 21 = .ok (.aload_n 1, 1) := by decide +kernel
theorem dX0_isLike_22 : decode cX0_isLike 22 = .ok (.getfield 13, 3) := by decide +kernel
theorem dX0_isLike_25 : decode cX0_isLike 25 = .ok (.if_icmp .ne 18, 3) := by decide +kernel
theorem dX0_isLike_28 : decode cX0_isLike 28 = .ok (.aload_n 0, 1) := by decide +kernel
theorem dX0_isLike_29 : decode cX0_isLike 29 = .ok (.getfield 17, 3) := by decide +kernel
theorem dX0_isLike_32 : decode cX0_isLike 32 = .ok (.aload_n 1, 1) := by decide +kernel
theorem dX0_isLike_33 : decode cX0_isLike 33 = .ok (.getfield 17, 3) := by decide +kernel
theorem dX0_isLike_36 : decode cX0_isLike 36 = .ok (.if_icmp .ne 7, 3) := by decide +kernel
theorem dX0_isLike_39 : decode cX0_isLike 39 = .ok (.iconst 1, 1) := by decide +kernel
theorem dX0_isLike_40 : decode cX0_isLike 40 = .ok (.goto 4, 3) := by decide +kernel
theorem dX0_isLike_43 : decode cX0_isLike 43 = .ok (.iconst 0, 1) := by decide +kernel
theorem dX0_isLike_44 : decode cX0_isLike 44 = .ok (.ireturn, 1) := by decide +kernel
theorem dX0_concerns_0 : decode cX0_concerns 0 = .ok (.aload_n 0, 1) := by decide +kernel
theorem dX0_concerns_1 : decode cX0_concerns 1 = .ok (.getfield 7, 3) := by decide +kernel
theorem dX0_concerns_4 : decode cX0_concerns 4 = .ok (.aload_n 1, 1) := by decide +kernel
theorem dX0_concerns_5 : decode cX0_concerns 5 = .ok (.getfield 25, 3) := by decide +kernel
theorem dX0_concerns_8 : decode cX0_concerns 8 = .ok (.invokevirtual 28, 3) := by decide +kernel
theorem dX0_concerns_11 : decode cX0_concerns 11 = .ok (.ireturn, 1) := by decide +kernel
theorem dX0_permits_0 : decode cX0_permits 0 = .ok (.aload_n 0, 1) := by decide +kernel
theorem dX0_permits_1 : decode cX0_permits 1 = .ok (.aload_n 1, 1) := by decide +kernel
theorem dX0_permits_2 : decode cX0_permits 2 = .ok (.invokevirtual 32, 3) := by decide +kernel
theorem dX0_permits_5 : decode cX0_permits 5 = .ok (.ifCond .eq 35, 3) := by decide +kernel
theorem dX0_permits_8 : decode cX0_permits 8 = .ok (.aload_n 0, 1) := by decide +kernel
theorem dX0_permits_9 : decode cX0_permits 9 = .ok (.getfield 17, 3) := by decide +kernel
theorem dX0_permits_12 : decode cX0_permits 12 = .ok (.aload_n 1, 1) := by decide +kernel
theorem dX0_permits_13 : decode cX0_permits 13 = .ok (.getfield 36, 3) := by decide +kernel
theorem dX0_permits_16 : decode cX0_permits 16 = .ok (.invokevirtual 40, 3) := by decide +kernel
theorem dX0_permits_19 : decode cX0_permits 19 = .ok (.if_icmp .ne 21, 3) := by decide +kernel
theorem dX0_permits_22 : decode cX0_permits 22 = .ok (.aload_n 0, 1) := by decide +kernel
theorem dX0_permits_23 : decode cX0_permits 23 = .ok (.getfield 13, 3) := by decide +kernel
theorem dX0_permits_26 : decode cX0_permits 26 = .ok (.aload_n 1, 1) := by decide +kernel
theorem dX0_permits_27 : decode cX0_permits 27 = .ok (.getfield 25, 3) := by decide +kernel
theorem dX0_permits_30 : decode cX0_permits 30 = .ok (.getfield 45, 3) := by decide +kernel
theorem dX0_permits_33 : decode cX0_permits 33 = .ok (.if_icmp .lt 7, 3) := by decide +kernel
theorem dX0_permits_36 : decode cX0_permits 36 = .ok (.iconst 1, 1) := by decide +kernel
theorem dX0_permits_37 : decode cX0_permits 37 = .ok (.goto 4, 3) := by decide +kernel
theorem dX0_permits_40 : decode cX0_permits 40 = .ok (.iconst 0, 1) := by decide +kernel
theorem dX0_permits_41 : decode cX0_permits 41 = .ok (.ireturn, 1) := by decide +kernel
theorem dX1_init_0 : decode cX1_init 0 = .ok (.aload_n 0, 1) := by decide +kernel
theorem dX1_init_1 : decode cX1_init 1 = .ok (.invokespecial 3, 3) := by decide +kernel
theorem dX1_init_4 : decode cX1_init 4 = .ok (.aload_n 0, 1) := by decide +kernel
theorem dX1_init_5 : decode cX1_init 5 = .ok (.sipush 300, 3) := by decide +kernel
theorem dX1_init_8 : decode cX1_init 8 = .ok (.newarray .int, 2) := by decide +kernel
theorem dX1_init_10 : decode cX1_init 10 = .ok (.putfield 9, 3) := by decide +kernel
theorem dX1_init_13 : decode cX1_init 13 = .ok (.aload_n 0, 1) := by decide +kernel
theorem dX1_init_14 : decode cX1_init 14 = .ok (.iconst 0, 1) := by decide +kernel
theorem dX1_init_15 : decode cX1_init 15 = .ok (.putfield 15, 3) := by decide +kernel
theorem dX1_init_18 : decode cX1_init 18 = .ok (.aload_n 0, 1) := by decide +kernel
theorem dX1_init_19 : decode cX1_init 19 = .ok (.sipush 300, 3) := by decide +kernel
theorem dX1_init_22 : decode cX1_init 22 = .ok (.anewarray 19, 3) := by decide +kernel
theorem dX1_init_25 : decode cX1_init 25 = .ok (.putfield 21, 3) := by decide +kernel
theorem dX1_init_28 : decode cX1_init 28 = .ok (.aload_n 0, 1) := by decide +kernel
theorem dX1_init_29 : decode cX1_init 29 = .ok (.iconst 0, 1) := by decide +kernel
theorem dX1_init_30 : decode cX1_init 30 = .ok (.putfield 25, 3) := by decide +kernel
theorem dX1_init_33 : decode cX1_init 33 = .ok (.aload_n 0, 1) := by decide +kernel
theorem dX1_init_34 : decode cX1_init 34 = .ok (.sipush 512, 3) := by decide +kernel
theorem dX1_init_37 : decode cX1_init 37 = .ok (.anewarray 19, 3) := by decide +kernel
theorem dX1_init_40 : decode cX1_init 40 = .ok (.putfield 28, 3) := by decide +kernel
theorem dX1_init_43 : decode cX1_init 43 = .ok (.aload_n 0, 1) := by decide +kernel
theorem dX1_init_44 : decode cX1_init 44 = .ok (.sipush 512, 3) := by decide +kernel
theorem dX1_init_47 : decode cX1_init 47 = .ok (.anewarray 19, 3) := by decide +kernel
theorem dX1_init_50 : decode cX1_init 50 = .ok (.putfield 31, 3) := by decide +kernel
theorem dX1_init_53 : decode cX1_init 53 = .ok (.return_, 1) := by decide +kernel
theorem dX1_size_0 : decode cX1_size 0 = .ok (.aload_n 0, 1) := by decide +kernel
theorem dX1_size_1 : decode cX1_size 1 = .ok (.getfield 15, 3) := by decide +kernel
theorem dX1_size_4 : decode cX1_size 4 = .ok (.ireturn, 1) := by decide +kernel
theorem dX1_isFull_0 : decode cX1_isFull 0 = .ok (.aload_n 0, 1) := by decide +kernel
theorem dX1_isFull_1 : decode cX1_isFull 1 = .ok (.getfield 15, 3) := by decide +kernel
theorem dX1_isFull_4 : decode cX1_isFull 4 = .ok (.sipush 300, 3) := by decide +kernel
theorem dX1_isFull_7 : decode cX1_isFull 7 = .ok (.if_icmp .lt 7, 3) := by decide +kernel
theorem dX1_isFull_10 : decode cX1_isFull 10 = .ok (.iconst 1, 1) := by decide +kernel
theorem dX1_isFull_11 : decode cX1_isFull 11 = .ok (.goto 4, 3) := by decide +kernel
theorem dX1_isFull_14 : decode cX1_isFull 14 = .ok (.iconst 0, 1) := by decide +kernel
theorem dX1_isFull_15 : decode cX1_isFull 15 = .ok (.ireturn, 1) := by decide +kernel
theorem dX1_noteUpdate_0 : decode cX1_noteUpdate 0 = .ok (.aload_n 0, 1) := by decide +kernel
theorem dX1_noteUpdate_1 : decode cX1_noteUpdate 1 = .ok (.invokevirtual 34, 3) := by decide +kernel
theorem dX1_noteUpdate_4 : decode cX1_noteUpdate 4 = .ok (.ifCond .ne 23, 3) := by decide +kernel
theorem dX1_noteUpdate_7 : decode cX1_noteUpdate 7 = .ok (.aload_n 0, 1) := by decide +kernel
theorem dX1_noteUpdate_8 : decode cX1_noteUpdate 8 = .ok (.getfield 9, 3) := by decide +kernel
theorem dX1_noteUpdate_11 : decode cX1_noteUpdate 11 = .ok (.aload_n 0, 1) := by decide +kernel
theorem dX1_noteUpdate_12 : decode cX1_noteUpdate 12 = .ok (.getfield 15, 3) := by decide +kernel
theorem dX1_noteUpdate_15 : decode cX1_noteUpdate 15 = .ok (.iload_n 1, 1) := by decide +kernel
theorem dX1_noteUpdate_16 : decode cX1_noteUpdate 16 = .ok (.iastore, 1) := by decide +kernel
theorem dX1_noteUpdate_17 : decode cX1_noteUpdate 17 = .ok (.aload_n 0, 1) := by decide +kernel
theorem dX1_noteUpdate_18 : decode cX1_noteUpdate 18 = .ok (.dup, 1) := by decide +kernel
theorem dX1_noteUpdate_19 : decode cX1_noteUpdate 19 = .ok (.getfield 15, 3) := by decide +kernel
theorem dX1_noteUpdate_22 : decode cX1_noteUpdate 22 = .ok (.iconst 1, 1) := by decide +kernel
theorem dX1_noteUpdate_23 : decode cX1_noteUpdate 23 = .ok (.iadd, 1) := by decide +kernel
theorem dX1_noteUpdate_24 : decode cX1_noteUpdate 24 = .ok (.putfield 15, 3) := by decide +kernel
theorem dX1_noteUpdate_27 : decode cX1_noteUpdate 27 = .ok (.return_, 1) := by decide +kernel
theorem dX1_keep_0 : decode cX1_keep 0 = .ok (.aload_n 0, 1) := by decide +kernel
theorem dX1_keep_1 : decode cX1_keep 1 = .ok (.getfield 25, 3) := by decide +kernel
theorem dX1_keep_4 : decode cX1_keep 4 = .ok (.sipush 300, 3) := by decide +kernel
theorem dX1_keep_7 : decode cX1_keep 7 = .ok (.if_icmp .ge 23, 3) := by decide +kernel
theorem dX1_keep_10 : decode cX1_keep 10 = .ok (.aload_n 0, 1) := by decide +kernel
theorem dX1_keep_11 : decode cX1_keep 11 = .ok (.getfield 21, 3) := by decide +kernel
theorem dX1_keep_14 : decode cX1_keep 14 = .ok (.aload_n 0, 1) := by decide +kernel
theorem dX1_keep_15 : decode cX1_keep 15 = .ok (.getfield 25, 3) := by decide +kernel
theorem dX1_keep_18 : decode cX1_keep 18 = .ok (.aload_n 1, 1) := by decide +kernel
theorem dX1_keep_19 : decode cX1_keep 19 = .ok (.aastore, 1) := by decide +kernel
theorem dX1_keep_20 : decode cX1_keep 20 = .ok (.aload_n 0, 1) := by decide +kernel
theorem dX1_keep_21 : decode cX1_keep 21 = .ok (.dup, 1) := by decide +kernel
theorem dX1_keep_22 : decode cX1_keep 22 = .ok (.getfield 25, 3) := by decide +kernel
theorem dX1_keep_25 : decode cX1_keep 25 = .ok (.iconst 1, 1) := by decide +kernel
theorem dX1_keep_26 : decode cX1_keep 26 = .ok (.iadd, 1) := by decide +kernel
theorem dX1_keep_27 : decode cX1_keep 27 = .ok (.putfield 25, 3) := by decide +kernel
theorem dX1_keep_30 : decode cX1_keep 30 = .ok (.return_, 1) := by decide +kernel
theorem dX1_sizeAt_0 : decode cX1_sizeAt 0 = .ok (.iconst 0, 1) := by decide +kernel
theorem dX1_sizeAt_1 : decode cX1_sizeAt 1 = .ok (.istore_n 2, 1) := by decide +kernel
theorem dX1_sizeAt_2 : decode cX1_sizeAt 2 = .ok (.iload_n 2, 1) := by decide +kernel
theorem dX1_sizeAt_3 : decode cX1_sizeAt 3 = .ok (.aload_n 0, 1) := by decide +kernel
theorem dX1_sizeAt_4 : decode cX1_sizeAt 4 = .ok (.getfield 15, 3) := by decide +kernel
theorem dX1_sizeAt_7 : decode cX1_sizeAt 7 = .ok (.if_icmp .ge 19, 3) := by decide +kernel
theorem dX1_sizeAt_10 : decode cX1_sizeAt 10 = .ok (.aload_n 0, 1) := by decide +kernel
theorem dX1_sizeAt_11 : decode cX1_sizeAt 11 = .ok (.getfield 9, 3) := by decide +kernel
theorem dX1_sizeAt_14 : decode cX1_sizeAt 14 = .ok (.iload_n 2, 1) := by decide +kernel
theorem dX1_sizeAt_15 : decode cX1_sizeAt 15 = .ok (.iaload, 1) := by decide +kernel
theorem dX1_sizeAt_16 : decode cX1_sizeAt 16 = .ok (.iload_n 1, 1) := by decide +kernel
theorem dX1_sizeAt_17 : decode cX1_sizeAt 17 = .ok (.if_icmp .gt 9, 3) := by decide +kernel
theorem dX1_sizeAt_20 : decode cX1_sizeAt 20 = .ok (.iinc 2 1, 3) := by decide +kernel
theorem dX1_sizeAt_23 : decode cX1_sizeAt 23 = .ok (.goto (-21), 3) := by decide +kernel
theorem dX1_sizeAt_26 : decode cX1_sizeAt 26 = .ok (.iload_n 2, 1) := by decide +kernel
theorem dX1_sizeAt_27 : decode cX1_sizeAt 27 = .ok (.ireturn, 1) := by decide +kernel
theorem dX1_routeFor_0 : decode cX1_routeFor 0 = .ok (.aconst_null, 1) := by decide +kernel
theorem dX1_routeFor_1 : decode cX1_routeFor 1 = .ok (.astore_n 3, 1) := by decide +kernel
theorem dX1_routeFor_2 : decode cX1_routeFor 2 = .ok (.iconst 0, 1) := by decide +kernel
theorem dX1_routeFor_3 : decode cX1_routeFor 3 = .ok (.istore 4, 2) := by decide +kernel
theorem dX1_routeFor_5 : decode cX1_routeFor 5 = .ok (.iload 4, 2) := by decide +kernel
theorem dX1_routeFor_7 : decode cX1_routeFor 7 = .ok (.aload_n 0, 1) := by decide +kernel
theorem dX1_routeFor_8 : decode cX1_routeFor 8 = .ok (.getfield 25, 3) := by decide +kernel
theorem dX1_routeFor_11 : decode cX1_routeFor 11 = .ok (.if_icmp .ge 51, 3) := by decide +kernel
theorem dX1_routeFor_14 : decode cX1_routeFor 14 = .ok (.aload_n 0, 1) := by decide +kernel
theorem dX1_routeFor_15 : decode cX1_routeFor 15 = .ok (.getfield 21, 3) := by decide +kernel
theorem dX1_routeFor_18 : decode cX1_routeFor 18 = .ok (.iload 4, 2) := by decide +kernel
theorem dX1_routeFor_20 : decode cX1_routeFor 20 = .ok (.aaload, 1) := by decide +kernel
theorem dX1_routeFor_21 : decode cX1_routeFor 21 = .ok (.astore 5, 2) := by decide +kernel
theorem dX1_routeFor_23 : decode cX1_routeFor 23 = .ok (.aload 5, 2) := by decide +kernel
theorem dX1_routeFor_25 : decode cX1_routeFor 25 = .ok (.iload_n 2, 1) := by decide +kernel
theorem dX1_routeFor_26 : decode cX1_routeFor 26 = .ok (.invokevirtual 38, 3) := by decide +kernel
theorem dX1_routeFor_29 : decode cX1_routeFor 29 = .ok (.ifCond .eq 27, 3) := by decide +kernel
theorem dX1_routeFor_32 : decode cX1_routeFor 32 = .ok (.aload 5, 2) := by decide +kernel
theorem dX1_routeFor_34 : decode cX1_routeFor 34 = .ok (.getfield 42, 3) := by decide +kernel
theorem dX1_routeFor_37 : decode cX1_routeFor 37 = .ok (.iload_n 1, 1) := by decide +kernel
theorem dX1_routeFor_38 : decode cX1_routeFor 38 = .ok (.invokevirtual 46, 3) := by decide +kernel
theorem dX1_routeFor_41 : decode cX1_routeFor 41 = .ok (.ifCond .eq 15, 3) := by decide +kernel
theorem dX1_routeFor_44 : decode cX1_routeFor 44 = .ok (.aload 5, 2) := by decide +kernel
theorem dX1_routeFor_46 : decode cX1_routeFor 46 = .ok (.aload_n 3, 1) := by decide +kernel
theorem dX1_routeFor_47 : decode cX1_routeFor 47 = .ok (.invokevirtual 51, 3) := by decide +kernel
theorem dX1_routeFor_50 : decode cX1_routeFor 50 = .ok (.ifCond .eq 6, 3) := by decide +kernel
theorem dX1_routeFor_53 : decode cX1_routeFor 53 = .ok (.aload 5, 2) := by decide +kernel
theorem dX1_routeFor_55 : decode cX1_routeFor 55 = .ok (.astore_n 3, 1) := by decide +kernel
theorem dX1_routeFor_56 : decode cX1_routeFor 56 = .ok (.iinc 4 1, 3) := by decide +kernel
theorem dX1_routeFor_59 : decode cX1_routeFor 59 = .ok (.goto (-54), 3) := by decide +kernel
theorem dX1_routeFor_62 : decode cX1_routeFor 62 = .ok (.aload_n 3, 1) := by decide +kernel
theorem dX1_routeFor_63 : decode cX1_routeFor 63 = .ok (.areturn, 1) := by decide +kernel
theorem dX1_countUnlike_0 : decode cX1_countUnlike 0 = .ok (.aload_n 0, 1) := by decide +kernel
theorem dX1_countUnlike_1 : decode cX1_countUnlike 1 = .ok (.aload_n 0, 1) := by decide +kernel
theorem dX1_countUnlike_2 : decode cX1_countUnlike 2 = .ok (.getfield 28, 3) := by decide +kernel
theorem dX1_countUnlike_5 : decode cX1_countUnlike 5 = .ok (.iload_n 1, 1) := by decide +kernel
theorem dX1_countUnlike_6 : decode cX1_countUnlike 6 = .ok (.invokevirtual 55, 3) := by decide +kernel
theorem dX1_countUnlike_9 : decode cX1_countUnlike 9 = .ok (.aload_n 0, 1) := by decide +kernel
theorem dX1_countUnlike_10 : decode cX1_countUnlike 10 = .ok (.aload_n 0, 1) := by decide +kernel
theorem dX1_countUnlike_11 : decode cX1_countUnlike 11 = .ok (.getfield 31, 3) := by decide +kernel
theorem dX1_countUnlike_14 : decode cX1_countUnlike 14 = .ok (.iload_n 2, 1) := by decide +kernel
theorem dX1_countUnlike_15 : decode cX1_countUnlike 15 = .ok (.invokevirtual 55, 3) := by decide +kernel
theorem dX1_countUnlike_18 : decode cX1_countUnlike 18 = .ok (.iconst 0, 1) := by decide +kernel
theorem dX1_countUnlike_19 : decode cX1_countUnlike 19 = .ok (.istore_n 3, 1) := by decide +kernel
theorem dX1_countUnlike_20 : decode cX1_countUnlike 20 = .ok (.iconst 1, 1) := by decide +kernel
theorem dX1_countUnlike_21 : decode cX1_countUnlike 21 = .ok (.istore 4, 2) := by decide +kernel
theorem dX1_countUnlike_23 : decode cX1_countUnlike 23 = .ok (.iload 4, 2) := by decide +kernel
theorem dX1_countUnlike_25 : decode cX1_countUnlike 25 = .ok (.sipush 512, 3) := by decide +kernel
theorem dX1_countUnlike_28 : decode cX1_countUnlike 28 = .ok (.if_icmp .ge 32, 3) := by decide +kernel
theorem dX1_countUnlike_31 : decode cX1_countUnlike 31 = .ok (.aload_n 0, 1) := by decide +kernel
theorem dX1_countUnlike_32 : decode cX1_countUnlike 32 = .ok (.getfield 28, 3) := by decide +kernel
theorem dX1_countUnlike_35 : decode cX1_countUnlike 35 = .ok (.iload 4, 2) := by decide +kernel
theorem dX1_countUnlike_37 : decode cX1_countUnlike 37 = .ok (.aaload, 1) := by decide +kernel
theorem dX1_countUnlike_38 : decode cX1_countUnlike 38 = .ok (.aload_n 0, 1) := by decide +kernel
theorem dX1_countUnlike_39 : decode cX1_countUnlike 39 = .ok (.getfield 31, 3) := by decide +kernel
theorem dX1_countUnlike_42 : decode cX1_countUnlike 42 = .ok (.iload 4, 2) := by decide +kernel
theorem dX1_countUnlike_44 : decode cX1_countUnlike 44 = .ok (.aaload, 1) := by decide +kernel
theorem dX1_countUnlike_45 : decode cX1_countUnlike 45 = .ok (.invokestatic 59, 3) := by decide +kernel
theorem dX1_countUnlike_48 : decode cX1_countUnlike 48 = .ok (.ifCond .eq 6, 3) := by decide +kernel
theorem dX1_countUnlike_51 : decode cX1_countUnlike 51 = .ok (.iinc 3 1, 3) := by decide +kernel
theorem dX1_countUnlike_54 : decode cX1_countUnlike 54 = .ok (.iinc 4 1, 3) := by decide +kernel
theorem dX1_countUnlike_57 : decode cX1_countUnlike 57 = .ok (.goto (-34), 3) := by decide +kernel
theorem dX1_countUnlike_60 : decode cX1_countUnlike 60 = .ok (.iload_n 3, 1) := by decide +kernel
theorem dX1_countUnlike_61 : decode cX1_countUnlike 61 = .ok (.ireturn, 1) := by decide +kernel
theorem dX1_fillBest_0 : decode cX1_fillBest 0 = .ok (.iconst 0, 1) := by decide +kernel
theorem dX1_fillBest_1 : decode cX1_fillBest 1 = .ok (.istore_n 3, 1) := by decide +kernel
theorem dX1_fillBest_2 : decode cX1_fillBest 2 = .ok (.iload_n 3, 1) := by decide +kernel
theorem dX1_fillBest_3 : decode cX1_fillBest 3 = .ok (.sipush 512, 3) := by decide +kernel
theorem dX1_fillBest_6 : decode cX1_fillBest 6 = .ok (.if_icmp .ge 13, 3) := by decide +kernel
theorem dX1_fillBest_9 : decode cX1_fillBest 9 = .ok (.aload_n 1, 1) := by decide +kernel
theorem dX1_fillBest_10 : decode cX1_fillBest 10 = .ok (.iload_n 3, 1) := by decide +kernel
theorem dX1_fillBest_11 : decode cX1_fillBest 11 = .ok (.aconst_null, 1) := by decide +kernel
theorem dX1_fillBest_12 : decode cX1_fillBest 12 = .ok (.aastore, 1) := by decide +kernel
theorem dX1_fillBest_13 : decode cX1_fillBest 13 = .ok (.iinc 3 1, 3) := by decide +kernel
theorem dX1_fillBest_16 : decode cX1_fillBest 16 = .ok (.goto (-14), 3) := by decide +kernel
theorem dX1_fillBest_19 : decode cX1_fillBest 19 = .ok (.iconst 0, 1) := by decide +kernel
theorem dX1_fillBest_20 : decode cX1_fillBest 20 = .ok (.istore_n 3, 1) := by decide +kernel
theorem dX1_fillBest_21 : decode cX1_fillBest 21 = .ok (.iload_n 3, 1) := by decide +kernel
theorem dX1_fillBest_22 : decode cX1_fillBest 22 = .ok (.aload_n 0, 1) := by decide +kernel
theorem dX1_fillBest_23 : decode cX1_fillBest 23 = .ok (.getfield 25, 3) := by decide +kernel
theorem dX1_fillBest_26 : decode cX1_fillBest 26 = .ok (.if_icmp .ge 62, 3) := by decide +kernel
theorem dX1_fillBest_29 : decode cX1_fillBest 29 = .ok (.aload_n 0, 1) := by decide +kernel
theorem dX1_fillBest_30 : decode cX1_fillBest 30 = .ok (.getfield 21, 3) := by decide +kernel
theorem dX1_fillBest_33 : decode cX1_fillBest 33 = .ok (.iload_n 3, 1) := by decide +kernel
theorem dX1_fillBest_34 : decode cX1_fillBest 34 = .ok (.aaload, 1) := by decide +kernel
theorem dX1_fillBest_35 : decode cX1_fillBest 35 = .ok (.astore 4, 2) := by decide +kernel
theorem dX1_fillBest_37 : decode cX1_fillBest 37 = .ok (.aload 4, 2) := by decide +kernel
theorem dX1_fillBest_39 : decode cX1_fillBest 39 = .ok (.getfield 42, 3) := by decide +kernel
theorem dX1_fillBest_42 : decode cX1_fillBest 42 = .ok (.getfield 63, 3) := by decide +kernel
theorem dX1_fillBest_45 : decode cX1_fillBest 45 = .ok (.istore 5, 2) := by decide +kernel
theorem dX1_fillBest_47 : decode cX1_fillBest 47 = .ok (.aload 4, 2) := by decide +kernel
theorem dX1_fillBest_49 : decode cX1_fillBest 49 = .ok (.iload_n 2, 1) := by decide +kernel
theorem dX1_fillBest_50 : decode cX1_fillBest 50 = .ok (.invokevirtual 38, 3) := by decide +kernel
theorem dX1_fillBest_53 : decode cX1_fillBest 53 = .ok (.ifCond .eq 29, 3) := by decide +kernel
theorem dX1_fillBest_56 : decode cX1_fillBest 56 = .ok (.iload 5, 2) := by decide +kernel
theorem dX1_fillBest_58 : decode cX1_fillBest 58 = .ok (.invokestatic 66, 3) := by decide +kernel
theorem dX1_fillBest_61 : decode cX1_fillBest 61 = .ok (.ifCond .eq 21, 3) := by decide +kernel
theorem dX1_fillBest_64 : decode cX1_fillBest 64 = .ok (.aload 4, 2) := by decide +kernel
theorem dX1_fillBest_66 : decode cX1_fillBest 66 = .ok (.aload_n 1, 1) := by decide +kernel
theorem dX1_fillBest_67 : decode cX1_fillBest 67 = .ok (.iload 5, 2) := by decide +kernel
theorem dX1_fillBest_69 : decode cX1_fillBest 69 = .ok (.aaload, 1) := by decide +kernel
theorem dX1_fillBest_70 : decode cX1_fillBest 70 = .ok (.invokevirtual 69, 3) := by decide +kernel
theorem dX1_fillBest_73 : decode cX1_fillBest 73 = .ok (.ifCond .eq 9, 3) := by decide +kernel
theorem dX1_fillBest_76 : decode cX1_fillBest 76 = .ok (.aload_n 1, 1) := by decide +kernel
theorem dX1_fillBest_77 : decode cX1_fillBest 77 = .ok (.iload 5, 2) := by decide +kernel
theorem dX1_fillBest_79 : decode cX1_fillBest 79 = .ok (.aload 4, 2) := by decide +kernel
theorem dX1_fillBest_81 : decode cX1_fillBest 81 = .ok (.aastore, 1) := by decide +kernel
theorem dX1_fillBest_82 : decode cX1_fillBest 82 = .ok (.iinc 3 1, 3) := by decide +kernel
theorem dX1_fillBest_85 : decode cX1_fillBest 85 = .ok (.goto (-64), 3) := by decide +kernel
theorem dX1_fillBest_88 : decode cX1_fillBest 88 = .ok (.return_, 1) := by decide +kernel
theorem dX1_areUnlike_0 : decode cX1_areUnlike 0 = .ok (.aload_n 0, 1) := by decide +kernel
theorem dX1_areUnlike_1 : decode cX1_areUnlike 1 = .ok (.ifnull 7, 3) := by decide +kernel
theorem dX1_areUnlike_4 : decode cX1_areUnlike 4 = .ok (.aload_n 1, 1) := by decide +kernel
theorem dX1_areUnlike_5 : decode cX1_areUnlike 5 = .ok (.ifnonnull 14, 3) := by decide +kernel
theorem dX1_areUnlike_8 : decode cX1_areUnlike 8 = .ok (.aload_n 0, 1) := by decide +kernel
theorem dX1_areUnlike_9 : decode cX1_areUnlike 9 = .ok (.aload_n 1, 1) := by decide +kernel
theorem dX1_areUnlike_10 : decode cX1_areUnlike 10 = .ok (.if_acmp .eq 7, 3) := by decide +kernel
theorem dX1_areUnlike_13 : decode cX1_areUnlike 13 = .ok (.iconst 1, 1) := by decide +kernel
theorem dX1_areUnlike_14 : decode cX1_areUnlike 14 = .ok (.goto 4, 3) := by decide +kernel
theorem dX1_areUnlike_17 : decode cX1_areUnlike 17 = .ok (.iconst 0, 1) := by decide +kernel
theorem dX1_areUnlike_18 : decode cX1_areUnlike 18 = .ok (.ireturn, 1) := by decide +kernel
theorem dX1_areUnlike_19 : decode cX1_areUnlike 19 = .ok (.aload_n 0, 1) := by decide +kernel
theorem dX1_areUnlike_20 : decode cX1_areUnlike 20 = .ok (.aload_n 1, 1) := by decide +kernel
theorem dX1_areUnlike_21 : decode cX1_areUnlike 21 = .ok (.invokevirtual 72, 3) := by decide +kernel
theorem dX1_areUnlike_24 : decode cX1_areUnlike 24 = .ok (.ifCond .ne 7, 3) := by decide +kernel
theorem dX1_areUnlike_27 : decode cX1_areUnlike 27 = .ok (.iconst 1, 1) := by decide +kernel
theorem dX1_areUnlike_28 : decode cX1_areUnlike 28 = .ok (.goto 4, 3) := by decide +kernel
theorem dX1_areUnlike_31 : decode cX1_areUnlike 31 = .ok (.iconst 0, 1) := by decide +kernel
theorem dX1_areUnlike_32 : decode cX1_areUnlike 32 = .ok (.ireturn, 1) := by decide +kernel
theorem dX2_init_0 : decode cX2_init 0 = .ok (.aload_n 0, 1) := by decide +kernel
theorem dX2_init_1 : decode cX2_init 1 = .ok (.invokespecial 3, 3) := by decide +kernel
theorem dX2_init_4 : decode cX2_init 4 = .ok (.aload_n 0, 1) := by decide +kernel
theorem dX2_init_5 : decode cX2_init 5 = .ok (.bipush 8, 2) := by decide +kernel
theorem dX2_init_7 : decode cX2_init 7 = .ok (.newarray .int, 2) := by decide +kernel
theorem dX2_init_9 : decode cX2_init 9 = .ok (.putfield 9, 3) := by decide +kernel
theorem dX2_init_12 : decode cX2_init 12 = .ok (.aload_n 0, 1) := by decide +kernel
theorem dX2_init_13 : decode cX2_init 13 = .ok (.iconst 0, 1) := by decide +kernel
theorem dX2_init_14 : decode cX2_init 14 = .ok (.putfield 15, 3) := by decide +kernel
theorem dX2_init_17 : decode cX2_init 17 = .ok (.return_, 1) := by decide +kernel
theorem dX2_size_0 : decode cX2_size 0 = .ok (.aload_n 0, 1) := by decide +kernel
theorem dX2_size_1 : decode cX2_size 1 = .ok (.getfield 15, 3) := by decide +kernel
theorem dX2_size_4 : decode cX2_size 4 = .ok (.ireturn, 1) := by decide +kernel
theorem dX2_isFull_0 : decode cX2_isFull 0 = .ok (.aload_n 0, 1) := by decide +kernel
theorem dX2_isFull_1 : decode cX2_isFull 1 = .ok (.getfield 15, 3) := by decide +kernel
theorem dX2_isFull_4 : decode cX2_isFull 4 = .ok (.bipush 8, 2) := by decide +kernel
theorem dX2_isFull_6 : decode cX2_isFull 6 = .ok (.if_icmp .lt 7, 3) := by decide +kernel
theorem dX2_isFull_9 : decode cX2_isFull 9 = .ok (.iconst 1, 1) := by decide +kernel
theorem dX2_isFull_10 : decode cX2_isFull 10 = .ok (.goto 4, 3) := by decide +kernel
theorem dX2_isFull_13 : decode cX2_isFull 13 = .ok (.iconst 0, 1) := by decide +kernel
theorem dX2_isFull_14 : decode cX2_isFull 14 = .ok (.ireturn, 1) := by decide +kernel
theorem dX2_networkAt_0 : decode cX2_networkAt 0 = .ok (.iload_n 1, 1) := by decide +kernel
theorem dX2_networkAt_1 : decode cX2_networkAt 1 = .ok (.ifCond .lt 11, 3) := by decide +kernel
theorem dX2_networkAt_4 : decode cX2_networkAt 4 = .ok (.iload_n 1, 1) := by decide +kernel
theorem dX2_networkAt_5 : decode cX2_networkAt 5 = .ok (.aload_n 0, 1) := by decide +kernel
theorem dX2_networkAt_6 : decode cX2_networkAt 6 = .ok (.getfield 15, 3) := by decide +kernel
theorem dX2_networkAt_9 : decode cX2_networkAt 9 = .ok (.if_icmp .lt 7, 3) := by decide +kernel
theorem dX2_networkAt_12 : decode cX2_networkAt 12 = .ok (.iconst (-1), 1) := by decide +kernel
theorem dX2_networkAt_13 : decode cX2_networkAt 13 = .ok (.goto 9, 3) := by decide +kernel
theorem dX2_networkAt_16 : decode cX2_networkAt 16 = .ok (.aload_n 0, 1) := by decide +kernel
theorem dX2_networkAt_17 : decode cX2_networkAt 17 = .ok (.getfield 9, 3) := by decide +kernel
theorem dX2_networkAt_20 : decode cX2_networkAt 20 = .ok (.iload_n 1, 1) := by decide +kernel
theorem dX2_networkAt_21 : decode cX2_networkAt 21 = .ok (.iaload, 1) := by decide +kernel
theorem dX2_networkAt_22 : decode cX2_networkAt 22 = .ok (.ireturn, 1) := by decide +kernel
theorem dX2_origin_0 : decode cX2_origin 0 = .ok (.aload_n 0, 1) := by decide +kernel
theorem dX2_origin_1 : decode cX2_origin 1 = .ok (.aload_n 0, 1) := by decide +kernel
theorem dX2_origin_2 : decode cX2_origin 2 = .ok (.getfield 15, 3) := by decide +kernel
theorem dX2_origin_5 : decode cX2_origin 5 = .ok (.iconst 1, 1) := by decide +kernel
theorem dX2_origin_6 : decode cX2_origin 6 = .ok (.isub, 1) := by decide +kernel
theorem dX2_origin_7 : decode cX2_origin 7 = .ok (.invokevirtual 19, 3) := by decide +kernel
theorem dX2_origin_10 : decode cX2_origin 10 = .ok (.ireturn, 1) := by decide +kernel
theorem dX2_hasLeft_0 : decode cX2_hasLeft 0 = .ok (.aload_n 0, 1) := by decide +kernel
theorem dX2_hasLeft_1 : decode cX2_hasLeft 1 = .ok (.invokevirtual 23, 3) := by decide +kernel
theorem dX2_hasLeft_4 : decode cX2_hasLeft 4 = .ok (.iload_n 1, 1) := by decide +kernel
theorem dX2_hasLeft_5 : decode cX2_hasLeft 5 = .ok (.if_icmp .ne 5, 3) := by decide +kernel
theorem dX2_hasLeft_8 : decode cX2_hasLeft 8 = .ok (.iconst 0, 1) := by decide +kernel
theorem dX2_hasLeft_9 : decode cX2_hasLeft 9 = .ok (.ireturn, 1) := by decide +kernel
theorem dX2_hasLeft_10 : decode cX2_hasLeft 10 = .ok (.iconst 0, 1) := by decide +kernel
theorem dX2_hasLeft_11 : decode cX2_hasLeft 11 = .ok (.istore_n 2, 1) := by decide +kernel
theorem dX2_hasLeft_12 : decode cX2_hasLeft 12 = .ok (.iload_n 2, 1) := by decide +kernel
theorem dX2_hasLeft_13 : decode cX2_hasLeft 13 = .ok (.aload_n 0, 1) := by decide +kernel
theorem dX2_hasLeft_14 : decode cX2_hasLeft 14 = .ok (.getfield 15, 3) := by decide +kernel
theorem dX2_hasLeft_17 : decode cX2_hasLeft 17 = .ok (.if_icmp .ge 21, 3) := by decide +kernel
theorem dX2_hasLeft_20 : decode cX2_hasLeft 20 = .ok (.aload_n 0, 1) := by decide +kernel
theorem dX2_hasLeft_21 : decode cX2_hasLeft 21 = .ok (.getfield 9, 3) := by decide +kernel
theorem dX2_hasLeft_24 : decode cX2_hasLeft 24 = .ok (.iload_n 2, 1) := by decide +kernel
theorem dX2_hasLeft_25 : decode cX2_hasLeft 25 = .ok (.iaload, 1) := by decide +kernel
theorem dX2_hasLeft_26 : decode cX2_hasLeft 26 = .ok (.iload_n 1, 1) := by decide +kernel
theorem dX2_hasLeft_27 : decode cX2_hasLeft 27 = .ok (.if_icmp .ne 5, 3) := by decide +kernel
theorem dX2_hasLeft_30 : decode cX2_hasLeft 30 = .ok (.iconst 1, 1) := by decide +kernel
theorem dX2_hasLeft_31 : decode cX2_hasLeft 31 = .ok (.ireturn, 1) := by decide +kernel
theorem dX2_hasLeft_32 : decode cX2_hasLeft 32 = .ok (.iinc 2 1, 3) := by decide +kernel
theorem dX2_hasLeft_35 : decode cX2_hasLeft 35 = .ok (.goto (-23), 3) := by decide +kernel
theorem dX2_hasLeft_38 : decode cX2_hasLeft 38 = .ok (.iconst 0, 1) := by decide +kernel
theorem dX2_hasLeft_39 : decode cX2_hasLeft 39 = .ok (.ireturn, 1) := by decide +kernel
theorem dX2_add_0 : decode cX2_add 0 = .ok (.aload_n 0, 1) := by decide +kernel
theorem dX2_add_1 : decode cX2_add 1 = .ok (.invokevirtual 27, 3) := by decide +kernel
theorem dX2_add_4 : decode cX2_add 4 = .ok (.ifCond .ne 23, 3) := by decide +kernel
theorem dX2_add_7 : decode cX2_add 7 = .ok (.aload_n 0, 1) := by decide +kernel
theorem dX2_add_8 : decode cX2_add 8 = .ok (.getfield 9, 3) := by decide +kernel
theorem dX2_add_11 : decode cX2_add 11 = .ok (.aload_n 0, 1) := by decide +kernel
theorem dX2_add_12 : decode cX2_add 12 = .ok (.getfield 15, 3) := by decide +kernel
theorem dX2_add_15 : decode cX2_add 15 = .ok (.iload_n 1, 1) := by decide +kernel
theorem dX2_add_16 : decode cX2_add 16 = .ok (.iastore, 1) := by decide +kernel
theorem dX2_add_17 : decode cX2_add 17 = .ok (.aload_n 0, 1) := by decide +kernel
theorem dX2_add_18 : decode cX2_add 18 = .ok (.dup, 1) := by decide +kernel
theorem dX2_add_19 : decode cX2_add 19 = .ok (.getfield 15, 3) := by decide +kernel
theorem dX2_add_22 : decode cX2_add 22 = .ok (.iconst 1, 1) := by decide +kernel
theorem dX2_add_23 : decode cX2_add 23 = .ok (.iadd, 1) := by decide +kernel
theorem dX2_add_24 : decode cX2_add 24 = .ok (.putfield 15, 3) := by decide +kernel
theorem dX2_add_27 : decode cX2_add 27 = .ok (.return_, 1) := by decide +kernel
theorem dX2_clear_0 : decode cX2_clear 0 = .ok (.aload_n 0, 1) := by decide +kernel
theorem dX2_clear_1 : decode cX2_clear 1 = .ok (.iconst 0, 1) := by decide +kernel
theorem dX2_clear_2 : decode cX2_clear 2 = .ok (.putfield 15, 3) := by decide +kernel
theorem dX2_clear_5 : decode cX2_clear 5 = .ok (.return_, 1) := by decide +kernel
theorem dX2_copy_0 : decode cX2_copy 0 = .ok (.new 10, 3) := by decide +kernel
theorem dX2_copy_3 : decode cX2_copy 3 = .ok (.dup, 1) := by decide +kernel
theorem dX2_copy_4 : decode cX2_copy 4 = .ok (.invokespecial 31, 3) := by decide +kernel
theorem dX2_copy_7 : decode cX2_copy 7 = .ok (.astore_n 1, 1) := by decide +kernel
theorem dX2_copy_8 : decode cX2_copy 8 = .ok (.iconst 0, 1) := by decide +kernel
theorem dX2_copy_9 : decode cX2_copy 9 = .ok (.istore_n 2, 1) := by decide +kernel
theorem dX2_copy_10 : decode cX2_copy 10 = .ok (.iload_n 2, 1) := by decide +kernel
theorem dX2_copy_11 : decode cX2_copy 11 = .ok (.aload_n 0, 1) := by decide +kernel
theorem dX2_copy_12 : decode cX2_copy 12 = .ok (.getfield 15, 3) := by decide +kernel
theorem dX2_copy_15 : decode cX2_copy 15 = .ok (.if_icmp .ge 19, 3) := by decide +kernel
theorem dX2_copy_18 : decode cX2_copy 18 = .ok (.aload_n 1, 1) := by decide +kernel
theorem dX2_copy_19 : decode cX2_copy 19 = .ok (.aload_n 0, 1) := by decide +kernel
theorem dX2_copy_20 : decode cX2_copy 20 = .ok (.getfield 9, 3) := by decide +kernel
theorem dX2_copy_23 : decode cX2_copy 23 = .ok (.iload_n 2, 1) := by decide +kernel
theorem dX2_copy_24 : decode cX2_copy 24 = .ok (.iaload, 1) := by decide +kernel
theorem dX2_copy_25 : decode cX2_copy 25 = .ok (.invokevirtual 32, 3) := by decide +kernel
theorem dX2_copy_28 : decode cX2_copy 28 = .ok (.iinc 2 1, 3) := by decide +kernel
theorem dX2_copy_31 : decode cX2_copy 31 = .ok (.goto (-21), 3) := by decide +kernel
theorem dX2_copy_34 : decode cX2_copy 34 = .ok (.aload_n 1, 1) := by decide +kernel
theorem dX2_copy_35 : decode cX2_copy 35 = .ok (.areturn, 1) := by decide +kernel
theorem dX2_isLike_0 : decode cX2_isLike 0 = .ok (.aload_n 0, 1) := by decide +kernel
theorem dX2_isLike_1 : decode cX2_isLike 1 = .ok (.getfield 15, 3) := by decide +kernel
theorem dX2_isLike_4 : decode cX2_isLike 4 = .ok (.aload_n 1, 1) := by decide +kernel
theorem dX2_isLike_5 : decode cX2_isLike 5 = .ok (.getfield 15, 3) := by decide +kernel
theorem dX2_isLike_8 : decode cX2_isLike 8 = .ok (.if_icmp .eq 5, 3) := by decide +kernel
theorem dX2_isLike_11 : decode cX2_isLike 11 = .ok (.iconst 0, 1) := by decide +kernel
theorem dX2_isLike_12 : decode cX2_isLike 12 = .ok (.ireturn, 1) := by decide +kernel
theorem dX2_isLike_13 : decode cX2_isLike 13 = .ok (.iconst 0, 1) := by decide +kernel
theorem dX2_isLike_14 : decode cX2_isLike 14 = .ok (.istore_n 2, 1) := by decide +kernel
theorem dX2_isLike_15 : decode cX2_isLike 15 = .ok (.iload_n 2, 1) := by decide +kernel
theorem dX2_isLike_16 : decode cX2_isLike 16 = .ok (.aload_n 0, 1) := by decide +kernel
theorem dX2_isLike_17 : decode cX2_isLike 17 = .ok (.getfield 15, 3) := by decide +kernel
theorem dX2_isLike_20 : decode cX2_isLike 20 = .ok (.if_icmp .ge 26, 3) := by decide +kernel
theorem dX2_isLike_23 : decode cX2_isLike 23 = .ok (.aload_n 0, 1) := by decide +kernel
theorem dX2_isLike_24 : decode cX2_isLike 24 = .ok (.getfield 9, 3) := by decide +kernel
theorem dX2_isLike_27 : decode cX2_isLike 27 = .ok (.iload_n 2, 1) := by decide +kernel
theorem dX2_isLike_28 : decode cX2_isLike 28 = .ok (.iaload, 1) := by decide +kernel
theorem dX2_isLike_29 : decode cX2_isLike 29 = .ok (.aload_n 1, 1) := by decide +kernel
theorem dX2_isLike_30 : decode cX2_isLike 30 = .ok (.getfield 9, 3) := by decide +kernel
theorem dX2_isLike_33 : decode cX2_isLike 33 = .ok (.iload_n 2, 1) := by decide +kernel
theorem dX2_isLike_34 : decode cX2_isLike 34 = .ok (.iaload, 1) := by decide +kernel
theorem dX2_isLike_35 : decode cX2_isLike 35 = .ok (.if_icmp .eq 5, 3) := by decide +kernel
theorem dX2_isLike_38 : decode cX2_isLike 38 = .ok (.iconst 0, 1) := by decide +kernel
theorem dX2_isLike_39 : decode cX2_isLike 39 = .ok (.ireturn, 1) := by decide +kernel
theorem dX2_isLike_40 : decode cX2_isLike 40 = .ok (.iinc 2 1, 3) := by decide +kernel
theorem dX2_isLike_43 : decode cX2_isLike 43 = .ok (.goto (-28), 3) := by decide +kernel
theorem dX2_isLike_46 : decode cX2_isLike 46 = .ok (.iconst 1, 1) := by decide +kernel
theorem dX2_isLike_47 : decode cX2_isLike 47 = .ok (.ireturn, 1) := by decide +kernel
theorem dX3_init_0 : decode cX3_init 0 = .ok (.aload_n 0, 1) := by decide +kernel
theorem dX3_init_1 : decode cX3_init 1 = .ok (.invokespecial 1, 3) := by decide +kernel
theorem dX3_init_4 : decode cX3_init 4 = .ok (.aload_n 0, 1) := by decide +kernel
theorem dX3_init_5 : decode cX3_init 5 = .ok (.iload_n 1, 1) := by decide +kernel
theorem dX3_init_6 : decode cX3_init 6 = .ok (.iload_n 2, 1) := by decide +kernel
theorem dX3_init_7 : decode cX3_init 7 = .ok (.invokestatic 7, 3) := by decide +kernel
theorem dX3_init_10 : decode cX3_init 10 = .ok (.putfield 13, 3) := by decide +kernel
theorem dX3_init_13 : decode cX3_init 13 = .ok (.aload_n 0, 1) := by decide +kernel
theorem dX3_init_14 : decode cX3_init 14 = .ok (.iload_n 2, 1) := by decide +kernel
theorem dX3_init_15 : decode cX3_init 15 = .ok (.putfield 19, 3) := by decide +kernel
theorem dX3_init_18 : decode cX3_init 18 = .ok (.return_, 1) := by decide +kernel
theorem dX3_has_0 : decode cX3_has 0 = .ok (.iload_n 1, 1) := by decide +kernel
theorem dX3_has_1 : decode cX3_has 1 = .ok (.aload_n 0, 1) := by decide +kernel
theorem dX3_has_2 : decode cX3_has 2 = .ok (.getfield 19, 3) := by decide +kernel
theorem dX3_has_5 : decode cX3_has 5 = .ok (.invokestatic 7, 3) := by decide +kernel
theorem dX3_has_8 : decode cX3_has 8 = .ok (.aload_n 0, 1) := by decide +kernel
theorem dX3_has_9 : decode cX3_has 9 = .ok (.getfield 13, 3) := by decide +kernel
theorem dX3_has_12 : decode cX3_has 12 = .ok (.if_icmp .ne 7, 3) := by decide +kernel
theorem dX3_has_15 : decode cX3_has 15 = .ok (.iconst 1, 1) := by decide +kernel
theorem dX3_has_16 : decode cX3_has 16 = .ok (.goto 4, 3) := by decide +kernel
theorem dX3_has_19 : decode cX3_has 19 = .ok (.iconst 0, 1) := by decide +kernel
theorem dX3_has_20 : decode cX3_has 20 = .ok (.ireturn, 1) := by decide +kernel
theorem dX3_covers_0 : decode cX3_covers 0 = .ok (.aload_n 0, 1) := by decide +kernel
theorem dX3_covers_1 : decode cX3_covers 1 = .ok (.getfield 19, 3) := by decide +kernel
theorem dX3_covers_4 : decode cX3_covers 4 = .ok (.aload_n 1, 1) := by decide +kernel
theorem dX3_covers_5 : decode cX3_covers 5 = .ok (.getfield 19, 3) := by decide +kernel
theorem dX3_covers_8 : decode cX3_covers 8 = .ok (.if_icmp .gt 28, 3) := by decide +kernel
theorem dX3_covers_11 : decode cX3_covers 11 = .ok (.aload_n 1, 1) := by decide +kernel
theorem dX3_covers_12 : decode cX3_covers 12 = .ok (.getfield 13, 3) := by decide +kernel
theorem dX3_covers_15 : decode cX3_covers 15 = .ok (.aload_n 1, 1) := by decide +kernel
theorem dX3_covers_16 : decode cX3_covers 16 = .ok (.getfield 19, 3) := by decide +kernel
theorem dX3_covers_19 : decode cX3_covers 19 = .ok (.aload_n 0, 1) := by decide +kernel
theorem dX3_covers_20 : decode cX3_covers 20 = .ok (.getfield 19, 3) := by decide +kernel
theorem dX3_covers_23 : decode cX3_covers 23 = .ok (.isub, 1) := by decide +kernel
theorem dX3_covers_24 : decode cX3_covers 24 = .ok (.ishr, 1) := by decide +kernel
theorem dX3_covers_25 : decode cX3_covers 25 = .ok (.aload_n 0, 1) := by decide +kernel
theorem dX3_covers_26 : decode cX3_covers 26 = .ok (.getfield 13, 3) := by decide +kernel
theorem dX3_covers_29 : decode cX3_covers 29 = .ok (.if_icmp .ne 7, 3) := by decide +kernel
theorem dX3_covers_32 : decode cX3_covers 32 = .ok (.iconst 1, 1) := by decide +kernel
theorem dX3_covers_33 : decode cX3_covers 33 = .ok (.goto 4, 3) := by decide +kernel
theorem dX3_covers_36 : decode cX3_covers 36 = .ok (.iconst 0, 1) := by decide +kernel
theorem dX3_covers_37 : decode cX3_covers 37 = .ok (.ireturn, 1) := by decide +kernel
theorem dX4_init_0 : decode cX4_init 0 = .ok (.aload_n 0, 1) := by decide +kernel
theorem dX4_init_1 : decode cX4_init 1 = .ok (.invokespecial 3, 3) := by decide +kernel
theorem dX4_init_4 : decode cX4_init 4 = .ok (.aload_n 0, 1) := by decide +kernel
theorem dX4_init_5 : decode cX4_init 5 = .ok (.bipush 20, 2) := by decide +kernel
theorem dX4_init_7 : decode cX4_init 7 = .ok (.anewarray 9, 3) := by decide +kernel
theorem dX4_init_10 : decode cX4_init 10 = .ok (.putfield 11, 3) := by decide +kernel
theorem dX4_init_13 : decode cX4_init 13 = .ok (.aload_n 0, 1) := by decide +kernel
theorem dX4_init_14 : decode cX4_init 14 = .ok (.iconst 0, 1) := by decide +kernel
theorem dX4_init_15 : decode cX4_init 15 = .ok (.putfield 17, 3) := by decide +kernel
theorem dX4_init_18 : decode cX4_init 18 = .ok (.return_, 1) := by decide +kernel
theorem dX4_isFull_0 : decode cX4_isFull 0 = .ok (.aload_n 0, 1) := by decide +kernel
theorem dX4_isFull_1 : decode cX4_isFull 1 = .ok (.getfield 17, 3) := by decide +kernel
theorem dX4_isFull_4 : decode cX4_isFull 4 = .ok (.bipush 20, 2) := by decide +kernel
theorem dX4_isFull_6 : decode cX4_isFull 6 = .ok (.if_icmp .lt 7, 3) := by decide +kernel
theorem dX4_isFull_9 : decode cX4_isFull 9 = .ok (.iconst 1, 1) := by decide +kernel
theorem dX4_isFull_10 : decode cX4_isFull 10 = .ok (.goto 4, 3) := by decide +kernel
theorem dX4_isFull_13 : decode cX4_isFull 13 = .ok (.iconst 0, 1) := by decide +kernel
theorem dX4_isFull_14 : decode cX4_isFull 14 = .ok (.ireturn, 1) := by decide +kernel
theorem dX4_placeOf_0 : decode cX4_placeOf 0 = .ok (.iconst 0, 1) := by decide +kernel
theorem dX4_placeOf_1 : decode cX4_placeOf 1 = .ok (.istore_n 2, 1) := by decide +kernel
theorem dX4_placeOf_2 : decode cX4_placeOf 2 = .ok (.iload_n 2, 1) := by decide +kernel
theorem dX4_placeOf_3 : decode cX4_placeOf 3 = .ok (.aload_n 0, 1) := by decide +kernel
theorem dX4_placeOf_4 : decode cX4_placeOf 4 = .ok (.getfield 17, 3) := by decide +kernel
theorem dX4_placeOf_7 : decode cX4_placeOf 7 = .ok (.if_icmp .ge 24, 3) := by decide +kernel
theorem dX4_placeOf_10 : decode cX4_placeOf 10 = .ok (.aload_n 0, 1) := by decide +kernel
theorem dX4_placeOf_11 : decode cX4_placeOf 11 = .ok (.getfield 11, 3) := by decide +kernel
theorem dX4_placeOf_14 : decode cX4_placeOf 14 = .ok (.iload_n 2, 1) := by decide +kernel
theorem dX4_placeOf_15 : decode cX4_placeOf 15 = .ok (.aaload, 1) := by decide +kernel
theorem dX4_placeOf_16 : decode cX4_placeOf 16 = .ok (.aload_n 1, 1) := by decide +kernel
theorem dX4_placeOf_17 : decode cX4_placeOf 17 = .ok (.invokevirtual 21, 3) := by decide +kernel
theorem dX4_placeOf_20 : decode cX4_placeOf 20 = .ok (.ifCond .eq 5, 3) := by decide +kernel
theorem dX4_placeOf_23 : decode cX4_placeOf 23 = .ok (.iload_n 2, 1) := by decide +kernel
theorem dX4_placeOf_24 : decode cX4_placeOf 24 = .ok (.ireturn, 1) := by decide +kernel
theorem dX4_placeOf_25 : decode cX4_placeOf 25 = .ok (.iinc 2 1, 3) := by decide +kernel
theorem dX4_placeOf_28 : decode cX4_placeOf 28 = .ok (.goto (-26), 3) := by decide +kernel
theorem dX4_placeOf_31 : decode cX4_placeOf 31 = .ok (.iconst (-1), 1) := by decide +kernel
theorem dX4_placeOf_32 : decode cX4_placeOf 32 = .ok (.ireturn, 1) := by decide +kernel
theorem dX4_add_0 : decode cX4_add 0 = .ok (.aload_n 0, 1) := by decide +kernel
theorem dX4_add_1 : decode cX4_add 1 = .ok (.invokevirtual 25, 3) := by decide +kernel
theorem dX4_add_4 : decode cX4_add 4 = .ok (.ifCond .ne 23, 3) := by decide +kernel
theorem dX4_add_7 : decode cX4_add 7 = .ok (.aload_n 0, 1) := by decide +kernel
theorem dX4_add_8 : decode cX4_add 8 = .ok (.getfield 11, 3) := by decide +kernel
theorem dX4_add_11 : decode cX4_add 11 = .ok (.aload_n 0, 1) := by decide +kernel
theorem dX4_add_12 : decode cX4_add 12 = .ok (.getfield 17, 3) := by decide +kernel
theorem dX4_add_15 : decode cX4_add 15 = .ok (.aload_n 1, 1) := by decide +kernel
theorem dX4_add_16 : decode cX4_add 16 = .ok (.aastore, 1) := by decide +kernel
theorem dX4_add_17 : decode cX4_add 17 = .ok (.aload_n 0, 1) := by decide +kernel
theorem dX4_add_18 : decode cX4_add 18 = .ok (.dup, 1) := by decide +kernel
theorem dX4_add_19 : decode cX4_add 19 = .ok (.getfield 17, 3) := by decide +kernel
theorem dX4_add_22 : decode cX4_add 22 = .ok (.iconst 1, 1) := by decide +kernel
theorem dX4_add_23 : decode cX4_add 23 = .ok (.iadd, 1) := by decide +kernel
theorem dX4_add_24 : decode cX4_add 24 = .ok (.putfield 17, 3) := by decide +kernel
theorem dX4_add_27 : decode cX4_add 27 = .ok (.return_, 1) := by decide +kernel
theorem dX4_takeOut_0 : decode cX4_takeOut 0 = .ok (.iload_n 1, 1) := by decide +kernel
theorem dX4_takeOut_1 : decode cX4_takeOut 1 = .ok (.ifCond .lt 46, 3) := by decide +kernel
theorem dX4_takeOut_4 : decode cX4_takeOut 4 = .ok (.iload_n 1, 1) := by decide +kernel
theorem dX4_takeOut_5 : decode cX4_takeOut 5 = .ok (.aload_n 0, 1) := by decide +kernel
theorem dX4_takeOut_6 : decode cX4_takeOut 6 = .ok (.getfield 17, 3) := by decide +kernel
theorem dX4_takeOut_9 : decode cX4_takeOut 9 = .ok (.if_icmp .ge 38, 3) := by decide +kernel
theorem dX4_takeOut_12 : decode cX4_takeOut 12 = .ok (.aload_n 0, 1) := by decide +kernel
theorem dX4_takeOut_13 : decode cX4_takeOut 13 = .ok (.dup, 1) := by decide +kernel
theorem dX4_takeOut_14 : decode cX4_takeOut 14 = .ok (.getfield 17, 3) := by decide +kernel
theorem dX4_takeOut_17 : decode cX4_takeOut 17 = .ok (.iconst 1, 1) := by decide +kernel
theorem dX4_takeOut_18 : decode cX4_takeOut 18 = .ok (.isub, 1) := by decide +kernel
theorem dX4_takeOut_19 : decode cX4_takeOut 19 = .ok (.putfield 17, 3) := by decide +kernel
theorem dX4_takeOut_22 : decode cX4_takeOut 22 = .ok (.aload_n 0, 1) := by decide +kernel
theorem dX4_takeOut_23 : decode cX4_takeOut 23 = .ok (.getfield 11, 3) := by decide +kernel
theorem dX4_takeOut_26 : decode cX4_takeOut 26 = .ok (.iload_n 1, 1) := by decide +kernel
theorem dX4_takeOut_27 : decode cX4_takeOut 27 = .ok (.aload_n 0, 1) := by decide +kernel
theorem dX4_takeOut_28 : decode cX4_takeOut 28 = .ok (.getfield 11, 3) := by decide +kernel
theorem dX4_takeOut_31 : decode cX4_takeOut 31 = .ok (.aload_n 0, 1) := by decide +kernel
theorem dX4_takeOut_32 : decode cX4_takeOut 32 = .ok (.getfield 17, 3) := by decide +kernel
theorem dX4_takeOut_35 : decode cX4_takeOut 35 = .ok (.aaload, 1) := by decide +kernel
theorem dX4_takeOut_36 : decode cX4_takeOut 36 = .ok (.aastore, 1) := by decide +kernel
theorem dX4_takeOut_37 : decode cX4_takeOut 37 = .ok (.aload_n 0, 1) := by decide +kernel
theorem dX4_takeOut_38 : decode cX4_takeOut 38 = .ok (.getfield 11, 3) := by decide +kernel
theorem dX4_takeOut_41 : decode cX4_takeOut 41 = .ok (.aload_n 0, 1) := by decide +kernel
theorem dX4_takeOut_42 : decode cX4_takeOut 42 = .ok (.getfield 17, 3) := by decide +kernel
theorem dX4_takeOut_45 : decode cX4_takeOut 45 = .ok (.aconst_null, 1) := by decide +kernel
theorem dX4_takeOut_46 : decode cX4_takeOut 46 = .ok (.aastore, 1) := by decide +kernel
theorem dX4_takeOut_47 : decode cX4_takeOut 47 = .ok (.return_, 1) := by decide +kernel
theorem dX4_judge_0 : decode cX4_judge 0 = .ok (.iconst 0, 1) := by decide +kernel
theorem dX4_judge_1 : decode cX4_judge 1 = .ok (.istore_n 2, 1) := by decide +kernel
theorem dX4_judge_2 : decode cX4_judge 2 = .ok (.iconst 0, 1) := by decide +kernel
theorem dX4_judge_3 : decode cX4_judge 3 = .ok (.istore_n 3, 1) := by decide +kernel
theorem dX4_judge_4 : decode cX4_judge 4 = .ok (.iload_n 3, 1) := by decide +kernel
theorem dX4_judge_5 : decode cX4_judge 5 = .ok (.aload_n 0, 1) := by decide +kernel
theorem dX4_judge_6 : decode cX4_judge 6 = .ok (.getfield 17, 3) := by decide +kernel
theorem dX4_judge_9 : decode cX4_judge 9 = .ok (.if_icmp .ge 39, 3) := by decide +kernel
theorem dX4_judge_12 : decode cX4_judge 12 = .ok (.aload_n 0, 1) := by decide +kernel
theorem dX4_judge_13 : decode cX4_judge 13 = .ok (.getfield 11, 3) := by decide +kernel
theorem dX4_judge_16 : decode cX4_judge 16 = .ok (.iload_n 3, 1) := by decide +kernel
theorem dX4_judge_17 : decode cX4_judge 17 = .ok (.aaload, 1) := by decide +kernel
theorem dX4_judge_18 : decode cX4_judge 18 = .ok (.aload_n 1, 1) := by decide +kernel
theorem dX4_judge_19 : decode cX4_judge 19 = .ok (.invokevirtual 29, 3) := by decide +kernel
theorem dX4_judge_22 : decode cX4_judge 22 = .ok (.ifCond .eq 5, 3) := by decide +kernel
theorem dX4_judge_25 : decode cX4_judge 25 = .ok (.iconst 1, 1) := by decide +kernel
theorem dX4_judge_26 : decode cX4_judge 26 = .ok (.ireturn, 1) := by decide +kernel
theorem dX4_judge_27 : decode cX4_judge 27 = .ok (.aload_n 0, 1) := by decide +kernel
theorem dX4_judge_28 : decode cX4_judge 28 = .ok (.getfield 11, 3) := by decide +kernel
theorem dX4_judge_31 : decode cX4_judge 31 = .ok (.iload_n 3, 1) := by decide +kernel
theorem dX4_judge_32 : decode cX4_judge 32 = .ok (.aaload, 1) := by decide +kernel
theorem dX4_judge_33 : decode cX4_judge 33 = .ok (.aload_n 1, 1) := by decide +kernel
theorem dX4_judge_34 : decode cX4_judge 34 = .ok (.invokevirtual 33, 3) := by decide +kernel
theorem dX4_judge_37 : decode cX4_judge 37 = .ok (.ifCond .eq 5, 3) := by decide +kernel
theorem dX4_judge_40 : decode cX4_judge 40 = .ok (.iconst 1, 1) := by decide +kernel
theorem dX4_judge_41 : decode cX4_judge 41 = .ok (.istore_n 2, 1) := by decide +kernel
theorem dX4_judge_42 : decode cX4_judge 42 = .ok (.iinc 3 1, 3) := by decide +kernel
theorem dX4_judge_45 : decode cX4_judge 45 = .ok (.goto (-41), 3) := by decide +kernel
theorem dX4_judge_48 : decode cX4_judge 48 = .ok (.iload_n 2, 1) := by decide +kernel
theorem dX4_judge_49 : decode cX4_judge 49 = .ok (.ifCond .eq 7, 3) := by decide +kernel
theorem dX4_judge_52 : decode cX4_judge 52 = .ok (.iconst 2, 1) := by decide +kernel
theorem dX4_judge_53 : decode cX4_judge 53 = .ok (.goto 4, 3) := by decide +kernel
theorem dX4_judge_56 : decode cX4_judge 56 = .ok (.iconst 0, 1) := by decide +kernel
theorem dX4_judge_57 : decode cX4_judge 57 = .ok (.ireturn, 1) := by decide +kernel
theorem dX5_init_0 : decode cX5_init 0 = .ok (.aload_n 0, 1) := by decide +kernel
theorem dX5_init_1 : decode cX5_init 1 = .ok (.invokespecial 3, 3) := by decide +kernel
theorem dX5_init_4 : decode cX5_init 4 = .ok (.aload_n 0, 1) := by decide +kernel
theorem dX5_init_5 : decode cX5_init 5 = .ok (.bipush 31, 2) := by decide +kernel
theorem dX5_init_7 : decode cX5_init 7 = .ok (.bipush 31, 2) := by decide +kernel
theorem dX5_init_9 : decode cX5_init 9 = .ok (.multianewarray 9 2, 4) := by decide +kernel
theorem dX5_init_13 : decode cX5_init 13 = .ok (.putfield 11, 3) := by decide +kernel
theorem dX5_init_16 : decode cX5_init 16 = .ok (.return_, 1) := by decide +kernel
theorem dX5_between_0 : decode cX5_between 0 = .ok (.iload_n 1, 1) := by decide +kernel
theorem dX5_between_1 : decode cX5_between 1 = .ok (.invokestatic 16, 3) := by decide +kernel
theorem dX5_between_4 : decode cX5_between 4 = .ok (.ifCond .eq 21, 3) := by decide +kernel
theorem dX5_between_7 : decode cX5_between 7 = .ok (.iload_n 2, 1) := by decide +kernel
theorem dX5_between_8 : decode cX5_between 8 = .ok (.invokestatic 16, 3) := by decide +kernel
theorem dX5_between_11 : decode cX5_between 11 = .ok (.ifCond .eq 14, 3) := by decide +kernel
theorem dX5_between_14 : decode cX5_between 14 = .ok (.aload_n 0, 1) := by decide +kernel
theorem dX5_between_15 : decode cX5_between 15 = .ok (.getfield 11, 3) := by decide +kernel
theorem dX5_between_18 : decode cX5_between 18 = .ok (.iload_n 1, 1) := by decide +kernel
theorem dX5_between_19 : decode cX5_between 19 = .ok (.aaload, 1) := by decide +kernel
theorem dX5_between_20 : decode cX5_between 20 = .ok (.iload_n 2, 1) := by decide +kernel
theorem dX5_between_21 : decode cX5_between 21 = .ok (.iaload, 1) := by decide +kernel
theorem dX5_between_22 : decode cX5_between 22 = .ok (.goto 4, 3) := by decide +kernel
theorem dX5_between_25 : decode cX5_between 25 = .ok (.iconst 0, 1) := by decide +kernel
theorem dX5_between_26 : decode cX5_between 26 = .ok (.ireturn, 1) := by decide +kernel
theorem dX5_put_0 : decode cX5_put 0 = .ok (.iload_n 1, 1) := by decide +kernel
theorem dX5_put_1 : decode cX5_put 1 = .ok (.invokestatic 16, 3) := by decide +kernel
theorem dX5_put_4 : decode cX5_put 4 = .ok (.ifCond .eq 19, 3) := by decide +kernel
theorem dX5_put_7 : decode cX5_put 7 = .ok (.iload_n 2, 1) := by decide +kernel
theorem dX5_put_8 : decode cX5_put 8 = .ok (.invokestatic 16, 3) := by decide +kernel
theorem dX5_put_11 : decode cX5_put 11 = .ok (.ifCond .eq 12, 3) := by decide +kernel
theorem dX5_put_14 : decode cX5_put 14 = .ok (.aload_n 0, 1) := by decide +kernel
theorem dX5_put_15 : decode cX5_put 15 = .ok (.getfield 11, 3) := by decide +kernel
theorem dX5_put_18 : decode cX5_put 18 = .ok (.iload_n 1, 1) := by decide +kernel
theorem dX5_put_19 : decode cX5_put 19 = .ok (.aaload, 1) := by decide +kernel
theorem dX5_put_20 : decode cX5_put 20 = .ok (.iload_n 2, 1) := by decide +kernel
theorem dX5_put_21 : decode cX5_put 21 = .ok (.iload_n 3, 1) := by decide +kernel
theorem dX5_put_22 : decode cX5_put 22 = .ok (.iastore, 1) := by decide +kernel
theorem dX5_put_23 : decode cX5_put 23 = .ok (.return_, 1) := by decide +kernel
theorem dX5_shapeOf_0 : decode cX5_shapeOf 0 = .ok (.iconst 0, 1) := by decide +kernel
theorem dX5_shapeOf_1 : decode cX5_shapeOf 1 = .ok (.istore_n 2, 1) := by decide +kernel
theorem dX5_shapeOf_2 : decode cX5_shapeOf 2 = .ok (.iconst 0, 1) := by decide +kernel
theorem dX5_shapeOf_3 : decode cX5_shapeOf 3 = .ok (.istore_n 3, 1) := by decide +kernel
theorem dX5_shapeOf_4 : decode cX5_shapeOf 4 = .ok (.aload_n 1, 1) := by decide +kernel
theorem dX5_shapeOf_5 : decode cX5_shapeOf 5 = .ok (.invokevirtual 20, 3) := by decide +kernel
theorem dX5_shapeOf_8 : decode cX5_shapeOf 8 = .ok (.iconst 1, 1) := by decide +kernel
theorem dX5_shapeOf_9 : decode cX5_shapeOf 9 = .ok (.isub, 1) := by decide +kernel
theorem dX5_shapeOf_10 : decode cX5_shapeOf 10 = .ok (.istore 4, 2) := by decide +kernel
theorem dX5_shapeOf_12 : decode cX5_shapeOf 12 = .ok (.iload 4, 2) := by decide +kernel
theorem dX5_shapeOf_14 : decode cX5_shapeOf 14 = .ok (.ifCond .le 77, 3) := by decide +kernel
theorem dX5_shapeOf_17 : decode cX5_shapeOf 17 = .ok (.aload_n 1, 1) := by decide +kernel
theorem dX5_shapeOf_18 : decode cX5_shapeOf 18 = .ok (.iload 4, 2) := by decide +kernel
theorem dX5_shapeOf_20 : decode cX5_shapeOf 20 = .ok (.invokevirtual 26, 3) := by decide +kernel
theorem dX5_shapeOf_23 : decode cX5_shapeOf 23 = .ok (.istore 5, 2) := by decide +kernel
theorem dX5_shapeOf_25 : decode cX5_shapeOf 25 = .ok (.aload_n 1, 1) := by decide +kernel
theorem dX5_shapeOf_26 : decode cX5_shapeOf 26 = .ok (.iload 4, 2) := by decide +kernel
theorem dX5_shapeOf_28 : decode cX5_shapeOf 28 = .ok (.iconst 1, 1) := by decide +kernel
theorem dX5_shapeOf_29 : decode cX5_shapeOf 29 = .ok (.isub, 1) := by decide +kernel
theorem dX5_shapeOf_30 : decode cX5_shapeOf 30 = .ok (.invokevirtual 26, 3) := by decide +kernel
theorem dX5_shapeOf_33 : decode cX5_shapeOf 33 = .ok (.istore 6, 2) := by decide +kernel
theorem dX5_shapeOf_35 : decode cX5_shapeOf 35 = .ok (.iload 6, 2) := by decide +kernel
theorem dX5_shapeOf_37 : decode cX5_shapeOf 37 = .ok (.iload 5, 2) := by decide +kernel
theorem dX5_shapeOf_39 : decode cX5_shapeOf 39 = .ok (.if_icmp .ne 6, 3) := by decide +kernel
theorem dX5_shapeOf_42 : decode cX5_shapeOf 42 = .ok (.goto 43, 3) := by decide +kernel
theorem dX5_shapeOf_45 : decode cX5_shapeOf 45 = .ok (.aload_n 0, 1) := by decide +kernel
theorem dX5_shapeOf_46 : decode cX5_shapeOf 46 = .ok (.iload 6, 2) := by decide +kernel
theorem dX5_shapeOf_48 : decode cX5_shapeOf 48 = .ok (.iload 5, 2) := by decide +kernel
theorem dX5_shapeOf_50 : decode cX5_shapeOf 50 = .ok (.invokevirtual 30, 3) := by decide +kernel
theorem dX5_shapeOf_53 : decode cX5_shapeOf 53 = .ok (.istore 7, 2) := by decide +kernel
theorem dX5_shapeOf_55 : decode cX5_shapeOf 55 = .ok (.iload 7, 2) := by decide +kernel
theorem dX5_shapeOf_57 : decode cX5_shapeOf 57 = .ok (.ifCond .ne 8, 3) := by decide +kernel
theorem dX5_shapeOf_60 : decode cX5_shapeOf 60 = .ok (.iconst 1, 1) := by decide +kernel
theorem dX5_shapeOf_61 : decode cX5_shapeOf 61 = .ok (.istore_n 3, 1) := by decide +kernel
theorem dX5_shapeOf_62 : decode cX5_shapeOf 62 = .ok (.goto 23, 3) := by decide +kernel
theorem dX5_shapeOf_65 : decode cX5_shapeOf 65 = .ok (.iload_n 2, 1) := by decide +kernel
theorem dX5_shapeOf_66 : decode cX5_shapeOf 66 = .ok (.ifCond .eq 11, 3) := by decide +kernel
theorem dX5_shapeOf_69 : decode cX5_shapeOf 69 = .ok (.iload 7, 2) := by decide +kernel
theorem dX5_shapeOf_71 : decode cX5_shapeOf 71 = .ok (.iconst 3, 1) := by decide +kernel
theorem dX5_shapeOf_72 : decode cX5_shapeOf 72 = .ok (.if_icmp .eq 5, 3) := by decide +kernel
theorem dX5_shapeOf_75 : decode cX5_shapeOf 75 = .ok (.iconst 1, 1) := by decide +kernel
theorem dX5_shapeOf_76 : decode cX5_shapeOf 76 = .ok (.ireturn, 1) := by decide +kernel
theorem dX5_shapeOf_77 : decode cX5_shapeOf 77 = .ok (.iload 7, 2) := by decide +kernel
theorem dX5_shapeOf_79 : decode cX5_shapeOf 79 = .ok (.iconst 1, 1) := by decide +kernel
theorem dX5_shapeOf_80 : decode cX5_shapeOf 80 = .ok (.if_icmp .eq 5, 3) := by decide +kernel
theorem dX5_shapeOf_83 : decode cX5_shapeOf 83 = .ok (.iconst 1, 1) := by decide +kernel
theorem dX5_shapeOf_84 : decode cX5_shapeOf 84 = .ok (.istore_n 2, 1) := by decide +kernel
theorem dX5_shapeOf_85 : decode cX5_shapeOf 85 = .ok (.iinc 4 (-1), 3) := by decide +kernel
theorem dX5_shapeOf_88 : decode cX5_shapeOf 88 = .ok (.goto (-76), 3) := by decide +kernel
theorem dX5_shapeOf_91 : decode cX5_shapeOf 91 = .ok (.iload_n 3, 1) := by decide +kernel
theorem dX5_shapeOf_92 : decode cX5_shapeOf 92 = .ok (.ifCond .eq 7, 3) := by decide +kernel
theorem dX5_shapeOf_95 : decode cX5_shapeOf 95 = .ok (.iconst 2, 1) := by decide +kernel
theorem dX5_shapeOf_96 : decode cX5_shapeOf 96 = .ok (.goto 4, 3) := by decide +kernel
theorem dX5_shapeOf_99 : decode cX5_shapeOf 99 = .ok (.iconst 0, 1) := by decide +kernel
theorem dX5_shapeOf_100 : decode cX5_shapeOf 100 = .ok (.ireturn, 1) := by decide +kernel
theorem dX6_init_0 : decode cX6_init 0 = .ok (.aload_n 0, 1) := by decide +kernel
theorem dX6_init_1 : decode cX6_init 1 = .ok (.invokespecial 3, 3) := by decide +kernel
theorem dX6_init_4 : decode cX6_init 4 = .ok (.aload_n 0, 1) := by decide +kernel
theorem dX6_init_5 : decode cX6_init 5 = .ok (.sipush 300, 3) := by decide +kernel
theorem dX6_init_8 : decode cX6_init 8 = .ok (.putfield 9, 3) := by decide +kernel
theorem dX6_init_11 : decode cX6_init 11 = .ok (.aload_n 0, 1) := by decide +kernel
theorem dX6_init_12 : decode cX6_init 12 = .ok (.iload_n 1, 1) := by decide +kernel
theorem dX6_init_13 : decode cX6_init 13 = .ok (.putfield 15, 3) := by decide +kernel
theorem dX6_init_16 : decode cX6_init 16 = .ok (.aload_n 0, 1) := by decide +kernel
theorem dX6_init_17 : decode cX6_init 17 = .ok (.aload_n 2, 1) := by decide +kernel
theorem dX6_init_18 : decode cX6_init 18 = .ok (.putfield 18, 3) := by decide +kernel
theorem dX6_init_21 : decode cX6_init 21 = .ok (.aload_n 0, 1) := by decide +kernel
theorem dX6_init_22 : decode cX6_init 22 = .ok (.aload_n 3, 1) := by decide +kernel
theorem dX6_init_23 : decode cX6_init 23 = .ok (.putfield 22, 3) := by decide +kernel
theorem dX6_init_26 : decode cX6_init 26 = .ok (.aload_n 0, 1) := by decide +kernel
theorem dX6_init_27 : decode cX6_init 27 = .ok (.iload 4, 2) := by decide +kernel
theorem dX6_init_29 : decode cX6_init 29 = .ok (.putfield 26, 3) := by decide +kernel
theorem dX6_init_32 : decode cX6_init 32 = .ok (.return_, 1) := by decide +kernel
theorem dX6_standsAfter_0 : decode cX6_standsAfter 0 = .ok (.aload_n 0, 1) := by decide +kernel
theorem dX6_standsAfter_1 : decode cX6_standsAfter 1 = .ok (.getfield 26, 3) := by decide +kernel
theorem dX6_standsAfter_4 : decode cX6_standsAfter 4 = .ok (.iload_n 1, 1) := by decide +kernel
theorem dX6_standsAfter_5 : decode cX6_standsAfter 5 = .ok (.if_icmp .ge 15, 3) := by decide +kernel
theorem dX6_standsAfter_8 : decode cX6_standsAfter 8 = .ok (.iload_n 1, 1) := by decide +kernel
theorem dX6_standsAfter_9 : decode cX6_standsAfter 9 = .ok (.aload_n 0, 1) := by decide +kernel
theorem dX6_standsAfter_10 : decode cX6_standsAfter 10 = .ok (.getfield 9, 3) := by decide +kernel
theorem dX6_standsAfter_13 : decode cX6_standsAfter 13 = .ok (.if_icmp .gt 7, 3) := by decide +kernel
theorem dX6_standsAfter_16 : decode cX6_standsAfter 16 = .ok (.iconst 1, 1) := by decide +kernel
theorem dX6_standsAfter_17 : decode cX6_standsAfter 17 = .ok (.goto 4, 3) := by decide +kernel
theorem dX6_standsAfter_20 : decode cX6_standsAfter 20 = .ok (.iconst 0, 1) := by decide +kernel
theorem dX6_standsAfter_21 : decode cX6_standsAfter 21 = .ok (.ireturn, 1) := by decide +kernel
theorem dX6_isBetterThan_0 : decode cX6_isBetterThan 0 = .ok (.aload_n 1, 1) := by decide +kernel
theorem dX6_isBetterThan_1 : decode cX6_isBetterThan 1 = .ok (.ifnonnull 5, 3) := by decide +kernel
theorem dX6_isBetterThan_4 : decode cX6_isBetterThan 4 = .ok (.iconst 1, 1) := by decide +kernel
theorem dX6_isBetterThan_5 : decode cX6_isBetterThan 5 = .ok (.ireturn, 1) := by decide +kernel
theorem dX6_isBetterThan_6 : decode cX6_isBetterThan 6 = .ok (.aload_n 0, 1) := by decide +kernel
theorem dX6_isBetterThan_7 : decode cX6_isBetterThan 7 = .ok (.getfield 22, 3) := by decide +kernel
theorem dX6_isBetterThan_10 : decode cX6_isBetterThan 10 = .ok (.invokevirtual 29, 3) := by decide +kernel
theorem dX6_isBetterThan_13 : decode cX6_isBetterThan 13 = .ok (.aload_n 1, 1) := by decide +kernel
theorem dX6_isBetterThan_14 : decode cX6_isBetterThan 14 = .ok (.getfield 22, 3) := by decide +kernel
theorem dX6_isBetterThan_17 : decode cX6_isBetterThan 17 = .ok (.invokevirtual 29, 3) := by decide +kernel
theorem dX6_isBetterThan_20 : decode cX6_isBetterThan 20 = .ok (.if_icmp .eq 26, 3) := by decide +kernel
theorem dX6_isBetterThan_23 : decode cX6_isBetterThan 23 = .ok (.aload_n 0, 1) := by decide +kernel
theorem dX6_isBetterThan_24 : decode cX6_isBetterThan 24 = .ok (.getfield 22, 3) := by decide +kernel
theorem dX6_isBetterThan_27 : decode cX6_isBetterThan 27 = .ok (.invokevirtual 29, 3) := by decide +kernel
theorem dX6_isBetterThan_30 : decode cX6_isBetterThan 30 = .ok (.aload_n 1, 1) := by decide +kernel
theorem dX6_isBetterThan_31 : decode cX6_isBetterThan 31 = .ok (.getfield 22, 3) := by decide +kernel
theorem dX6_isBetterThan_34 : decode cX6_isBetterThan 34 = .ok (.invokevirtual 29, 3) := by decide +kernel
theorem dX6_isBetterThan_37 : decode cX6_isBetterThan 37 = .ok (.if_icmp .ge 7, 3) := by decide +kernel
theorem dX6_isBetterThan_40 : decode cX6_isBetterThan 40 = .ok (.iconst 1, 1) := by decide +kernel
theorem dX6_isBetterThan_41 : decode cX6_isBetterThan 41 = .ok (.goto 4, 3) := by decide +kernel
theorem dX6_isBetterThan_44 : decode cX6_isBetterThan 44 = .ok (.iconst 0, 1) := by decide +kernel
theorem dX6_isBetterThan_45 : decode cX6_isBetterThan 45 = .ok (.ireturn, 1) := by decide +kernel
theorem dX6_isBetterThan_46 : decode cX6_isBetterThan 46 = .ok (.aload_n 0, 1) := by decide +kernel
theorem dX6_isBetterThan_47 : decode cX6_isBetterThan 47 = .ok (.getfield 15, 3) := by decide +kernel
theorem dX6_isBetterThan_50 : decode cX6_isBetterThan 50 = .ok (.aload_n 1, 1) := by decide +kernel
theorem dX6_isBetterThan_51 : decode cX6_isBetterThan 51 = .ok (.getfield 15, 3) := by decide +kernel
theorem dX6_isBetterThan_54 : decode cX6_isBetterThan 54 = .ok (.if_icmp .ge 7, 3) := by decide +kernel
theorem dX6_isBetterThan_57 : decode cX6_isBetterThan 57 = .ok (.iconst 1, 1) := by decide +kernel
theorem dX6_isBetterThan_58 : decode cX6_isBetterThan 58 = .ok (.goto 4, 3) := by decide +kernel
theorem dX6_isBetterThan_61 : decode cX6_isBetterThan 61 = .ok (.iconst 0, 1) := by decide +kernel
theorem dX6_isBetterThan_62 : decode cX6_isBetterThan 62 = .ok (.ireturn, 1) := by decide +kernel
theorem dX6_isFoundBefore_0 : decode cX6_isFoundBefore 0 = .ok (.aload_n 1, 1) := by decide +kernel
theorem dX6_isFoundBefore_1 : decode cX6_isFoundBefore 1 = .ok (.ifnonnull 5, 3) := by decide +kernel
theorem dX6_isFoundBefore_4 : decode cX6_isFoundBefore 4 = .ok (.iconst 1, 1) := by decide +kernel
theorem dX6_isFoundBefore_5 : decode cX6_isFoundBefore 5 = .ok (.ireturn, 1) := by decide +kernel
theorem dX6_isFoundBefore_6 : decode cX6_isFoundBefore 6 = .ok (.aload_n 0, 1) := by decide +kernel
theorem dX6_isFoundBefore_7 : decode cX6_isFoundBefore 7 = .ok (.getfield 18, 3) := by decide +kernel
theorem dX6_isFoundBefore_10 : decode cX6_isFoundBefore 10 = .ok (.getfield 35, 3) := by decide +kernel
theorem dX6_isFoundBefore_13 : decode cX6_isFoundBefore 13 = .ok (.aload_n 1, 1) := by decide +kernel
theorem dX6_isFoundBefore_14 : decode cX6_isFoundBefore 14 = .ok (.getfield 18, 3) := by decide +kernel
theorem dX6_isFoundBefore_17 : decode cX6_isFoundBefore 17 = .ok (.getfield 35, 3) := by decide +kernel
theorem dX6_isFoundBefore_20 : decode cX6_isFoundBefore 20 = .ok (.if_icmp .eq 26, 3) := by decide +kernel
theorem dX6_isFoundBefore_23 : decode cX6_isFoundBefore 23 = .ok (.aload_n 0, 1) := by decide +kernel
theorem dX6_isFoundBefore_24 : decode cX6_isFoundBefore 24 = .ok (.getfield 18, 3) := by decide +kernel
theorem dX6_isFoundBefore_27 : decode cX6_isFoundBefore 27 = .ok (.getfield 35, 3) := by decide +kernel
theorem dX6_isFoundBefore_30 : decode cX6_isFoundBefore 30 = .ok (.aload_n 1, 1) := by decide +kernel
theorem dX6_isFoundBefore_31 : decode cX6_isFoundBefore 31 = .ok (.getfield 18, 3) := by decide +kernel
theorem dX6_isFoundBefore_34 : decode cX6_isFoundBefore 34 = .ok (.getfield 35, 3) := by decide +kernel
theorem dX6_isFoundBefore_37 : decode cX6_isFoundBefore 37 = .ok (.if_icmp .le 7, 3) := by decide +kernel
theorem dX6_isFoundBefore_40 : decode cX6_isFoundBefore 40 = .ok (.iconst 1, 1) := by decide +kernel
theorem dX6_isFoundBefore_41 : decode cX6_isFoundBefore 41 = .ok (.goto 4, 3) := by decide +kernel
theorem dX6_isFoundBefore_44 : decode cX6_isFoundBefore 44 = .ok (.iconst 0, 1) := by decide +kernel
theorem dX6_isFoundBefore_45 : decode cX6_isFoundBefore 45 = .ok (.ireturn, 1) := by decide +kernel
theorem dX6_isFoundBefore_46 : decode cX6_isFoundBefore 46 = .ok (.aload_n 0, 1) := by decide +kernel
theorem dX6_isFoundBefore_47 : decode cX6_isFoundBefore 47 = .ok (.aload_n 1, 1) := by decide +kernel
theorem dX6_isFoundBefore_48 : decode cX6_isFoundBefore 48 = .ok (.invokevirtual 40, 3) := by decide +kernel
theorem dX6_isFoundBefore_51 : decode cX6_isFoundBefore 51 = .ok (.ireturn, 1) := by decide +kernel
theorem dX6_isLike_0 : decode cX6_isLike 0 = .ok (.aload_n 0, 1) := by decide +kernel
theorem dX6_isLike_1 : decode cX6_isLike 1 = .ok (.getfield 15, 3) := by decide +kernel
theorem dX6_isLike_4 : decode cX6_isLike 4 = .ok (.aload_n 1, 1) := by decide +kernel
theorem dX6_isLike_5 : decode cX6_isLike 5 = .ok (.getfield 15, 3) := by decide +kernel
theorem dX6_isLike_8 : decode cX6_isLike 8 = .ok (.if_icmp .ne 21, 3) := by decide +kernel
theorem dX6_isLike_11 : decode cX6_isLike 11 = .ok (.aload_n 0, 1) := by decide +kernel
theorem dX6_isLike_12 : decode cX6_isLike 12 = .ok (.getfield 22, 3) := by decide +kernel
theorem dX6_isLike_15 : decode cX6_isLike 15 = .ok (.aload_n 1, 1) := by decide +kernel
theorem dX6_isLike_16 : decode cX6_isLike 16 = .ok (.getfield 22, 3) := by decide +kernel
theorem dX6_isLike_19 : decode cX6_isLike 19 = .ok (.invokevirtual 44, 3) := by decide +kernel
theorem dX6_isLike_22 : decode cX6_isLike 22 = .ok (.ifCond .eq 7, 3) := by decide +kernel
theorem dX6_isLike_25 : decode cX6_isLike 25 = .ok (.iconst 1, 1) := by decide +kernel
theorem dX6_isLike_26 : decode cX6_isLike 26 = .ok (.goto 4, 3) := by decide +kernel
theorem dX6_isLike_29 : decode cX6_isLike 29 = .ok (.iconst 0, 1) := by decide +kernel
theorem dX6_isLike_30 : decode cX6_isLike 30 = .ok (.ireturn, 1) := by decide +kernel
theorem dX7_init_0 : decode cX7_init 0 = .ok (.aload_n 0, 1) := by decide +kernel
theorem dX7_init_1 : decode cX7_init 1 = .ok (.invokespecial 3, 3) := by decide +kernel
theorem dX7_init_4 : decode cX7_init 4 = .ok (.aload_n 0, 1) := by decide +kernel
theorem dX7_init_5 : decode cX7_init 5 = .ok (.sipush 3072, 3) := by decide +kernel
theorem dX7_init_8 : decode cX7_init 8 = .ok (.anewarray 9, 3) := by decide +kernel
theorem dX7_init_11 : decode cX7_init 11 = .ok (.putfield 11, 3) := by decide +kernel
theorem dX7_init_14 : decode cX7_init 14 = .ok (.aload_n 0, 1) := by decide +kernel
theorem dX7_init_15 : decode cX7_init 15 = .ok (.sipush 512, 3) := by decide +kernel
theorem dX7_init_18 : decode cX7_init 18 = .ok (.newarray .int, 2) := by decide +kernel
theorem dX7_init_20 : decode cX7_init 20 = .ok (.putfield 17, 3) := by decide +kernel
theorem dX7_init_23 : decode cX7_init 23 = .ok (.aload_n 0, 1) := by decide +kernel
theorem dX7_init_24 : decode cX7_init 24 = .ok (.bipush 6, 2) := by decide +kernel
theorem dX7_init_26 : decode cX7_init 26 = .ok (.newarray .int, 2) := by decide +kernel
theorem dX7_init_28 : decode cX7_init 28 = .ok (.putfield 21, 3) := by decide +kernel
theorem dX7_init_31 : decode cX7_init 31 = .ok (.return_, 1) := by decide +kernel
theorem dX7_routeOf_0 : decode cX7_routeOf 0 = .ok (.iload_n 1, 1) := by decide +kernel
theorem dX7_routeOf_1 : decode cX7_routeOf 1 = .ok (.iload_n 2, 1) := by decide +kernel
theorem dX7_routeOf_2 : decode cX7_routeOf 2 = .ok (.invokestatic 24, 3) := by decide +kernel
theorem dX7_routeOf_5 : decode cX7_routeOf 5 = .ok (.istore_n 3, 1) := by decide +kernel
theorem dX7_routeOf_6 : decode cX7_routeOf 6 = .ok (.iload_n 3, 1) := by decide +kernel
theorem dX7_routeOf_7 : decode cX7_routeOf 7 = .ok (.iconst (-1), 1) := by decide +kernel
theorem dX7_routeOf_8 : decode cX7_routeOf 8 = .ok (.if_icmp .ne 7, 3) := by decide +kernel
theorem dX7_routeOf_11 : decode cX7_routeOf 11 = .ok (.aconst_null, 1) := by decide +kernel
theorem dX7_routeOf_12 : decode cX7_routeOf 12 = .ok (.goto 9, 3) := by decide +kernel
theorem dX7_routeOf_15 : decode cX7_routeOf 15 = .ok (.aload_n 0, 1) := by decide +kernel
theorem dX7_routeOf_16 : decode cX7_routeOf 16 = .ok (.getfield 11, 3) := by decide +kernel
theorem dX7_routeOf_19 : decode cX7_routeOf 19 = .ok (.iload_n 3, 1) := by decide +kernel
theorem dX7_routeOf_20 : decode cX7_routeOf 20 = .ok (.aaload, 1) := by decide +kernel
theorem dX7_routeOf_21 : decode cX7_routeOf 21 = .ok (.areturn, 1) := by decide +kernel
theorem dX7_put_0 : decode cX7_put 0 = .ok (.aload_n 1, 1) := by decide +kernel
theorem dX7_put_1 : decode cX7_put 1 = .ok (.getfield 28, 3) := by decide +kernel
theorem dX7_put_4 : decode cX7_put 4 = .ok (.getfield 32, 3) := by decide +kernel
theorem dX7_put_7 : decode cX7_put 7 = .ok (.istore_n 2, 1) := by decide +kernel
theorem dX7_put_8 : decode cX7_put 8 = .ok (.aload_n 1, 1) := by decide +kernel
theorem dX7_put_9 : decode cX7_put 9 = .ok (.getfield 38, 3) := by decide +kernel
theorem dX7_put_12 : decode cX7_put 12 = .ok (.iload_n 2, 1) := by decide +kernel
theorem dX7_put_13 : decode cX7_put 13 = .ok (.invokestatic 24, 3) := by decide +kernel
theorem dX7_put_16 : decode cX7_put 16 = .ok (.istore_n 3, 1) := by decide +kernel
theorem dX7_put_17 : decode cX7_put 17 = .ok (.iload_n 3, 1) := by decide +kernel
theorem dX7_put_18 : decode cX7_put 18 = .ok (.iconst (-1), 1) := by decide +kernel
theorem dX7_put_19 : decode cX7_put 19 = .ok (.if_icmp .eq 42, 3) := by decide +kernel
theorem dX7_put_22 : decode cX7_put 22 = .ok (.aload_n 0, 1) := by decide +kernel
theorem dX7_put_23 : decode cX7_put 23 = .ok (.getfield 11, 3) := by decide +kernel
theorem dX7_put_26 : decode cX7_put 26 = .ok (.iload_n 3, 1) := by decide +kernel
theorem dX7_put_27 : decode cX7_put 27 = .ok (.aaload, 1) := by decide +kernel
theorem dX7_put_28 : decode cX7_put 28 = .ok (.ifnonnull 33, 3) := by decide +kernel
theorem dX7_put_31 : decode cX7_put 31 = .ok (.aload_n 0, 1) := by decide +kernel
theorem dX7_put_32 : decode cX7_put 32 = .ok (.getfield 11, 3) := by decide +kernel
theorem dX7_put_35 : decode cX7_put 35 = .ok (.iload_n 3, 1) := by decide +kernel
theorem dX7_put_36 : decode cX7_put 36 = .ok (.aload_n 1, 1) := by decide +kernel
theorem dX7_put_37 : decode cX7_put 37 = .ok (.aastore, 1) := by decide +kernel
theorem dX7_put_38 : decode cX7_put 38 = .ok (.aload_n 0, 1) := by decide +kernel
theorem dX7_put_39 : decode cX7_put 39 = .ok (.getfield 17, 3) := by decide +kernel
theorem dX7_put_42 : decode cX7_put 42 = .ok (.iload_n 2, 1) := by decide +kernel
theorem dX7_put_43 : decode cX7_put 43 = .ok (.dup2, 1) := by decide +kernel
theorem dX7_put_44 : decode cX7_put 44 = .ok (.iaload, 1) := by decide +kernel
theorem dX7_put_45 : decode cX7_put 45 = .ok (.iconst 1, 1) := by decide +kernel
theorem dX7_put_46 : decode cX7_put 46 = .ok (.iadd, 1) := by decide +kernel
theorem dX7_put_47 : decode cX7_put 47 = .ok (.iastore, 1) := by decide +kernel
theorem dX7_put_48 : decode cX7_put 48 = .ok (.aload_n 0, 1) := by decide +kernel
theorem dX7_put_49 : decode cX7_put 49 = .ok (.getfield 21, 3) := by decide +kernel
theorem dX7_put_52 : decode cX7_put 52 = .ok (.aload_n 1, 1) := by decide +kernel
theorem dX7_put_53 : decode cX7_put 53 = .ok (.getfield 38, 3) := by decide +kernel
theorem dX7_put_56 : decode cX7_put 56 = .ok (.dup2, 1) := by decide +kernel
theorem dX7_put_57 : decode cX7_put 57 = .ok (.iaload, 1) := by decide +kernel
theorem dX7_put_58 : decode cX7_put 58 = .ok (.iconst 1, 1) := by decide +kernel
theorem dX7_put_59 : decode cX7_put 59 = .ok (.iadd, 1) := by decide +kernel
theorem dX7_put_60 : decode cX7_put 60 = .ok (.iastore, 1) := by decide +kernel
theorem dX7_put_61 : decode cX7_put 61 = .ok (.return_, 1) := by decide +kernel
theorem dX7_remove_0 : decode cX7_remove 0 = .ok (.aload_n 1, 1) := by decide +kernel
theorem dX7_remove_1 : decode cX7_remove 1 = .ok (.getfield 28, 3) := by decide +kernel
theorem dX7_remove_4 : decode cX7_remove 4 = .ok (.getfield 32, 3) := by decide +kernel
theorem dX7_remove_7 : decode cX7_remove 7 = .ok (.istore_n 2, 1) := by decide +kernel
theorem dX7_remove_8 : decode cX7_remove 8 = .ok (.aload_n 1, 1) := by decide +kernel
theorem dX7_remove_9 : decode cX7_remove 9 = .ok (.getfield 38, 3) := by decide +kernel
theorem dX7_remove_12 : decode cX7_remove 12 = .ok (.iload_n 2, 1) := by decide +kernel
theorem dX7_remove_13 : decode cX7_remove 13 = .ok (.invokestatic 24, 3) := by decide +kernel
theorem dX7_remove_16 : decode cX7_remove 16 = .ok (.istore_n 3, 1) := by decide +kernel
theorem dX7_remove_17 : decode cX7_remove 17 = .ok (.iload_n 3, 1) := by decide +kernel
theorem dX7_remove_18 : decode cX7_remove 18 = .ok (.iconst (-1), 1) := by decide +kernel
theorem dX7_remove_19 : decode cX7_remove 19 = .ok (.if_icmp .eq 43, 3) := by decide +kernel
theorem dX7_remove_22 : decode cX7_remove 22 = .ok (.aload_n 0, 1) := by decide +kernel
theorem dX7_remove_23 : decode cX7_remove 23 = .ok (.getfield 11, 3) := by decide +kernel
theorem dX7_remove_26 : decode cX7_remove 26 = .ok (.iload_n 3, 1) := by decide +kernel
theorem dX7_remove_27 : decode cX7_remove 27 = .ok (.aaload, 1) := by decide +kernel
theorem dX7_remove_28 : decode cX7_remove 28 = .ok (.aload_n 1, 1) := by decide +kernel
theorem dX7_remove_29 : decode cX7_remove 29 = .ok (.if_acmp .ne 33, 3) := by decide +kernel
theorem dX7_remove_32 : decode cX7_remove 32 = .ok (.aload_n 0, 1) := by decide +kernel
theorem dX7_remove_33 : decode cX7_remove 33 = .ok (.getfield 11, 3) := by decide +kernel
theorem dX7_remove_36 : decode cX7_remove 36 = .ok (.iload_n 3, 1) := by decide +kernel
theorem dX7_remove_37 : decode cX7_remove 37 = .ok (.aconst_null, 1) := by decide +kernel
theorem dX7_remove_38 : decode cX7_remove 38 = .ok (.aastore, 1) := by decide +kernel
theorem dX7_remove_39 : decode cX7_remove 39 = .ok (.aload_n 0, 1) := by decide +kernel
theorem dX7_remove_40 : decode cX7_remove 40 = .ok (.getfield 17, 3) := by decide +kernel
theorem dX7_remove_43 : decode cX7_remove 43 = .ok (.iload_n 2, 1) := by decide +kernel
theorem dX7_remove_44 : decode cX7_remove 44 = .ok (.dup2, 1) := by decide +kernel
theorem dX7_remove_45 : decode cX7_remove 45 = .ok (.iaload, 1) := by decide +kernel
theorem dX7_remove_46 : decode cX7_remove 46 = .ok (.iconst 1, 1) := by decide +kernel
theorem dX7_remove_47 : decode cX7_remove 47 = .ok (.isub, 1) := by decide +kernel
theorem dX7_remove_48 : decode cX7_remove 48 = .ok (.iastore, 1) := by decide +kernel
theorem dX7_remove_49 : decode cX7_remove 49 = .ok (.aload_n 0, 1) := by decide +kernel
theorem dX7_remove_50 : decode cX7_remove 50 = .ok (.getfield 21, 3) := by decide +kernel
theorem dX7_remove_53 : decode cX7_remove 53 = .ok (.aload_n 1, 1) := by decide +kernel
theorem dX7_remove_54 : decode cX7_remove 54 = .ok (.getfield 38, 3) := by decide +kernel
theorem dX7_remove_57 : decode cX7_remove 57 = .ok (.dup2, 1) := by decide +kernel
theorem dX7_remove_58 : decode cX7_remove 58 = .ok (.iaload, 1) := by decide +kernel
theorem dX7_remove_59 : decode cX7_remove 59 = .ok (.iconst 1, 1) := by decide +kernel
theorem dX7_remove_60 : decode cX7_remove 60 = .ok (.isub, 1) := by decide +kernel
theorem dX7_remove_61 : decode cX7_remove 61 = .ok (.iastore, 1) := by decide +kernel
theorem dX7_remove_62 : decode cX7_remove 62 = .ok (.return_, 1) := by decide +kernel
theorem dX7_countOfPeer_0 : decode cX7_countOfPeer 0 = .ok (.iload_n 1, 1) := by decide +kernel
theorem dX7_countOfPeer_1 : decode cX7_countOfPeer 1 = .ok (.invokestatic 41, 3) := by decide +kernel
theorem dX7_countOfPeer_4 : decode cX7_countOfPeer 4 = .ok (.ifCond .eq 12, 3) := by decide +kernel
theorem dX7_countOfPeer_7 : decode cX7_countOfPeer 7 = .ok (.aload_n 0, 1) := by decide +kernel
theorem dX7_countOfPeer_8 : decode cX7_countOfPeer 8 = .ok (.getfield 21, 3) := by decide +kernel
theorem dX7_countOfPeer_11 : decode cX7_countOfPeer 11 = .ok (.iload_n 1, 1) := by decide +kernel
theorem dX7_countOfPeer_12 : decode cX7_countOfPeer 12 = .ok (.iaload, 1) := by decide +kernel
theorem dX7_countOfPeer_13 : decode cX7_countOfPeer 13 = .ok (.goto 4, 3) := by decide +kernel
theorem dX7_countOfPeer_16 : decode cX7_countOfPeer 16 = .ok (.iconst 0, 1) := by decide +kernel
theorem dX7_countOfPeer_17 : decode cX7_countOfPeer 17 = .ok (.ireturn, 1) := by decide +kernel
theorem dX7_countPrefixes_0 : decode cX7_countPrefixes 0 = .ok (.iconst 0, 1) := by decide +kernel
theorem dX7_countPrefixes_1 : decode cX7_countPrefixes 1 = .ok (.istore_n 1, 1) := by decide +kernel
theorem dX7_countPrefixes_2 : decode cX7_countPrefixes 2 = .ok (.iconst 1, 1) := by decide +kernel
theorem dX7_countPrefixes_3 : decode cX7_countPrefixes 3 = .ok (.istore_n 2, 1) := by decide +kernel
theorem dX7_countPrefixes_4 : decode cX7_countPrefixes 4 = .ok (.iload_n 2, 1) := by decide +kernel
theorem dX7_countPrefixes_5 : decode cX7_countPrefixes 5 = .ok (.sipush 512, 3) := by decide +kernel
theorem dX7_countPrefixes_8 : decode cX7_countPrefixes 8 = .ok (.if_icmp .ge 20, 3) := by decide +kernel
theorem dX7_countPrefixes_11 : decode cX7_countPrefixes 11 = .ok (.aload_n 0, 1) := by decide +kernel
theorem dX7_countPrefixes_12 : decode cX7_countPrefixes 12 = .ok (.iload_n 2, 1) := by decide +kernel
theorem dX7_countPrefixes_13 : decode cX7_countPrefixes 13 = .ok (.invokevirtual 45, 3) := by decide +kernel
theorem dX7_countPrefixes_16 : decode cX7_countPrefixes 16 = .ok (.ifCond .eq 6, 3) := by decide +kernel
theorem dX7_countPrefixes_19 : decode cX7_countPrefixes 19 = .ok (.iinc 1 1, 3) := by decide +kernel
theorem dX7_countPrefixes_22 : decode cX7_countPrefixes 22 = .ok (.iinc 2 1, 3) := by decide +kernel
theorem dX7_countPrefixes_25 : decode cX7_countPrefixes 25 = .ok (.goto (-21), 3) := by decide +kernel
theorem dX7_countPrefixes_28 : decode cX7_countPrefixes 28 = .ok (.iload_n 1, 1) := by decide +kernel
theorem dX7_countPrefixes_29 : decode cX7_countPrefixes 29 = .ok (.ireturn, 1) := by decide +kernel
theorem dX7_bestOf_0 : decode cX7_bestOf 0 = .ok (.aconst_null, 1) := by decide +kernel
theorem dX7_bestOf_1 : decode cX7_bestOf 1 = .ok (.astore_n 2, 1) := by decide +kernel
theorem dX7_bestOf_2 : decode cX7_bestOf 2 = .ok (.iconst 0, 1) := by decide +kernel
theorem dX7_bestOf_3 : decode cX7_bestOf 3 = .ok (.istore_n 3, 1) := by decide +kernel
theorem dX7_bestOf_4 : decode cX7_bestOf 4 = .ok (.iload_n 3, 1) := by decide +kernel
theorem dX7_bestOf_5 : decode cX7_bestOf 5 = .ok (.bipush 6, 2) := by decide +kernel
theorem dX7_bestOf_7 : decode cX7_bestOf 7 = .ok (.if_icmp .ge 34, 3) := by decide +kernel
theorem dX7_bestOf_10 : decode cX7_bestOf 10 = .ok (.aload_n 0, 1) := by decide +kernel
theorem dX7_bestOf_11 : decode cX7_bestOf 11 = .ok (.iload_n 3, 1) := by decide +kernel
theorem dX7_bestOf_12 : decode cX7_bestOf 12 = .ok (.iload_n 1, 1) := by decide +kernel
theorem dX7_bestOf_13 : decode cX7_bestOf 13 = .ok (.invokevirtual 48, 3) := by decide +kernel
theorem dX7_bestOf_16 : decode cX7_bestOf 16 = .ok (.astore 4, 2) := by decide +kernel
theorem dX7_bestOf_18 : decode cX7_bestOf 18 = .ok (.aload 4, 2) := by decide +kernel
theorem dX7_bestOf_20 : decode cX7_bestOf 20 = .ok (.ifnull 15, 3) := by decide +kernel
theorem dX7_bestOf_23 : decode cX7_bestOf 23 = .ok (.aload 4, 2) := by decide +kernel
theorem dX7_bestOf_25 : decode cX7_bestOf 25 = .ok (.aload_n 2, 1) := by decide +kernel
theorem dX7_bestOf_26 : decode cX7_bestOf 26 = .ok (.invokevirtual 52, 3) := by decide +kernel
theorem dX7_bestOf_29 : decode cX7_bestOf 29 = .ok (.ifCond .eq 6, 3) := by decide +kernel
theorem dX7_bestOf_32 : decode cX7_bestOf 32 = .ok (.aload 4, 2) := by decide +kernel
theorem dX7_bestOf_34 : decode cX7_bestOf 34 = .ok (.astore_n 2, 1) := by decide +kernel
theorem dX7_bestOf_35 : decode cX7_bestOf 35 = .ok (.iinc 3 1, 3) := by decide +kernel
theorem dX7_bestOf_38 : decode cX7_bestOf 38 = .ok (.goto (-34), 3) := by decide +kernel
theorem dX7_bestOf_41 : decode cX7_bestOf 41 = .ok (.aload_n 2, 1) := by decide +kernel
theorem dX7_bestOf_42 : decode cX7_bestOf 42 = .ok (.areturn, 1) := by decide +kernel
theorem dX7_longestLengthFor_0 : decode cX7_longestLengthFor 0 = .ok (.iconst (-1), 1) := by decide +kernel
theorem dX7_longestLengthFor_1 : decode cX7_longestLengthFor 1 = .ok (.istore_n 2, 1) := by decide +kernel
theorem dX7_longestLengthFor_2 : decode cX7_longestLengthFor 2 = .ok (.iconst 0, 1) := by decide +kernel
theorem dX7_longestLengthFor_3 : decode cX7_longestLengthFor 3 = .ok (.istore_n 3, 1) := by decide +kernel
theorem dX7_longestLengthFor_4 : decode cX7_longestLengthFor 4 = .ok (.iload_n 3, 1) := by decide +kernel
theorem dX7_longestLengthFor_5 : decode cX7_longestLengthFor 5 = .ok (.bipush 8, 2) := by decide +kernel
theorem dX7_longestLengthFor_7 : decode cX7_longestLengthFor 7 = .ok (.if_icmp .gt 23, 3) := by decide +kernel
theorem dX7_longestLengthFor_10 : decode cX7_longestLengthFor 10 = .ok (.aload_n 0, 1) := by decide +kernel
theorem dX7_longestLengthFor_11 : decode cX7_longestLengthFor 11 = .ok (.iload_n 1, 1) := by decide +kernel
theorem dX7_longestLengthFor_12 : decode cX7_longestLengthFor 12 = .ok (.iload_n 3, 1) := by decide +kernel
theorem dX7_longestLengthFor_13 : decode cX7_longestLengthFor 13 = .ok (.invokestatic 56, 3) := by decide +kernel
theorem dX7_longestLengthFor_16 : decode cX7_longestLengthFor 16 = .ok (.invokevirtual 45, 3) := by decide +kernel
theorem dX7_longestLengthFor_19 : decode cX7_longestLengthFor 19 = .ok (.ifCond .eq 5, 3) := by decide +kernel
theorem dX7_longestLengthFor_22 : decode cX7_longestLengthFor 22 = .ok (.iload_n 3, 1) := by decide +kernel
theorem dX7_longestLengthFor_23 : decode cX7_longestLengthFor 23 = .ok (.istore_n 2, 1) := by decide +kernel
theorem dX7_longestLengthFor_24 : decode cX7_longestLengthFor 24 = .ok (.iinc 3 1, 3) := by decide +kernel
theorem dX7_longestLengthFor_27 : decode cX7_longestLengthFor 27 = .ok (.goto (-23), 3) := by decide +kernel
theorem dX7_longestLengthFor_30 : decode cX7_longestLengthFor 30 = .ok (.iload_n 2, 1) := by decide +kernel
theorem dX7_longestLengthFor_31 : decode cX7_longestLengthFor 31 = .ok (.ireturn, 1) := by decide +kernel
theorem dX7_nearestAbove_0 : decode cX7_nearestAbove 0 = .ok (.iload_n 1, 1) := by decide +kernel
theorem dX7_nearestAbove_1 : decode cX7_nearestAbove 1 = .ok (.iconst 2, 1) := by decide +kernel
theorem dX7_nearestAbove_2 : decode cX7_nearestAbove 2 = .ok (.idiv, 1) := by decide +kernel
theorem dX7_nearestAbove_3 : decode cX7_nearestAbove 3 = .ok (.istore_n 2, 1) := by decide +kernel
theorem dX7_nearestAbove_4 : decode cX7_nearestAbove 4 = .ok (.iload_n 2, 1) := by decide +kernel
theorem dX7_nearestAbove_5 : decode cX7_nearestAbove 5 = .ok (.iconst 1, 1) := by decide +kernel
theorem dX7_nearestAbove_6 : decode cX7_nearestAbove 6 = .ok (.if_icmp .lt 20, 3) := by decide +kernel
theorem dX7_nearestAbove_9 : decode cX7_nearestAbove 9 = .ok (.aload_n 0, 1) := by decide +kernel
theorem dX7_nearestAbove_10 : decode cX7_nearestAbove 10 = .ok (.iload_n 2, 1) := by decide +kernel
theorem dX7_nearestAbove_11 : decode cX7_nearestAbove 11 = .ok (.invokevirtual 45, 3) := by decide +kernel
theorem dX7_nearestAbove_14 : decode cX7_nearestAbove 14 = .ok (.ifCond .eq 5, 3) := by decide +kernel
theorem dX7_nearestAbove_17 : decode cX7_nearestAbove 17 = .ok (.iload_n 2, 1) := by decide +kernel
theorem dX7_nearestAbove_18 : decode cX7_nearestAbove 18 = .ok (.ireturn, 1) := by decide +kernel
theorem dX7_nearestAbove_19 : decode cX7_nearestAbove 19 = .ok (.iload_n 2, 1) := by decide +kernel
theorem dX7_nearestAbove_20 : decode cX7_nearestAbove 20 = .ok (.iconst 2, 1) := by decide +kernel
theorem dX7_nearestAbove_21 : decode cX7_nearestAbove 21 = .ok (.idiv, 1) := by decide +kernel
theorem dX7_nearestAbove_22 : decode cX7_nearestAbove 22 = .ok (.istore_n 2, 1) := by decide +kernel
theorem dX7_nearestAbove_23 : decode cX7_nearestAbove 23 = .ok (.goto (-19), 3) := by decide +kernel
theorem dX7_nearestAbove_26 : decode cX7_nearestAbove 26 = .ok (.iconst (-1), 1) := by decide +kernel
theorem dX7_nearestAbove_27 : decode cX7_nearestAbove 27 = .ok (.ireturn, 1) := by decide +kernel
theorem dX7_countOrigins_0 : decode cX7_countOrigins 0 = .ok (.aload_n 0, 1) := by decide +kernel
theorem dX7_countOrigins_1 : decode cX7_countOrigins 1 = .ok (.iload_n 1, 1) := by decide +kernel
theorem dX7_countOrigins_2 : decode cX7_countOrigins 2 = .ok (.invokevirtual 59, 3) := by decide +kernel
theorem dX7_countOrigins_5 : decode cX7_countOrigins 5 = .ok (.invokestatic 63, 3) := by decide +kernel
theorem dX7_countOrigins_8 : decode cX7_countOrigins 8 = .ok (.ireturn, 1) := by decide +kernel
theorem dX7_hasOrigin_0 : decode cX7_hasOrigin 0 = .ok (.aload_n 0, 1) := by decide +kernel
theorem dX7_hasOrigin_1 : decode cX7_hasOrigin 1 = .ok (.iload_n 1, 1) := by decide +kernel
theorem dX7_hasOrigin_2 : decode cX7_hasOrigin 2 = .ok (.invokevirtual 59, 3) := by decide +kernel
theorem dX7_hasOrigin_5 : decode cX7_hasOrigin 5 = .ok (.iconst 1, 1) := by decide +kernel
theorem dX7_hasOrigin_6 : decode cX7_hasOrigin 6 = .ok (.iload_n 2, 1) := by decide +kernel
theorem dX7_hasOrigin_7 : decode cX7_hasOrigin 7 = .ok (.ishl, 1) := by decide +kernel
theorem dX7_hasOrigin_8 : decode cX7_hasOrigin 8 = .ok (.iand, 1) := by decide +kernel
theorem dX7_hasOrigin_9 : decode cX7_hasOrigin 9 = .ok (.ifCond .eq 7, 3) := by decide +kernel
theorem dX7_hasOrigin_12 : decode cX7_hasOrigin 12 = .ok (.iconst 1, 1) := by decide +kernel
theorem dX7_hasOrigin_13 : decode cX7_hasOrigin 13 = .ok (.goto 4, 3) := by decide +kernel
theorem dX7_hasOrigin_16 : decode cX7_hasOrigin 16 = .ok (.iconst 0, 1) := by decide +kernel
theorem dX7_hasOrigin_17 : decode cX7_hasOrigin 17 = .ok (.ireturn, 1) := by decide +kernel
theorem dX7_originBits_0 : decode cX7_originBits 0 = .ok (.aload_n 0, 1) := by decide +kernel
theorem dX7_originBits_1 : decode cX7_originBits 1 = .ok (.iload_n 1, 1) := by decide +kernel
theorem dX7_originBits_2 : decode cX7_originBits 2 = .ok (.invokevirtual 45, 3) := by decide +kernel
theorem dX7_originBits_5 : decode cX7_originBits 5 = .ok (.ifCond .ne 5, 3) := by decide +kernel
theorem dX7_originBits_8 : decode cX7_originBits 8 = .ok (.iconst 0, 1) := by decide +kernel
theorem dX7_originBits_9 : decode cX7_originBits 9 = .ok (.ireturn, 1) := by decide +kernel
theorem dX7_originBits_10 : decode cX7_originBits 10 = .ok (.iconst 0, 1) := by decide +kernel
theorem dX7_originBits_11 : decode cX7_originBits 11 = .ok (.istore_n 2, 1) := by decide +kernel
theorem dX7_originBits_12 : decode cX7_originBits 12 = .ok (.iconst 0, 1) := by decide +kernel
theorem dX7_originBits_13 : decode cX7_originBits 13 = .ok (.istore_n 3, 1) := by decide +kernel
theorem dX7_originBits_14 : decode cX7_originBits 14 = .ok (.iload_n 3, 1) := by decide +kernel
theorem dX7_originBits_15 : decode cX7_originBits 15 = .ok (.bipush 6, 2) := by decide +kernel
theorem dX7_originBits_17 : decode cX7_originBits 17 = .ok (.if_icmp .ge 35, 3) := by decide +kernel
theorem dX7_originBits_20 : decode cX7_originBits 20 = .ok (.aload_n 0, 1) := by decide +kernel
theorem dX7_originBits_21 : decode cX7_originBits 21 = .ok (.iload_n 3, 1) := by decide +kernel
theorem dX7_originBits_22 : decode cX7_originBits 22 = .ok (.iload_n 1, 1) := by decide +kernel
theorem dX7_originBits_23 : decode cX7_originBits 23 = .ok (.invokevirtual 48, 3) := by decide +kernel
theorem dX7_originBits_26 : decode cX7_originBits 26 = .ok (.astore 4, 2) := by decide +kernel
theorem dX7_originBits_28 : decode cX7_originBits 28 = .ok (.aload 4, 2) := by decide +kernel
theorem dX7_originBits_30 : decode cX7_originBits 30 = .ok (.ifnull 16, 3) := by decide +kernel
theorem dX7_originBits_33 : decode cX7_originBits 33 = .ok (.iload_n 2, 1) := by decide +kernel
theorem dX7_originBits_34 : decode cX7_originBits 34 = .ok (.iconst 1, 1) := by decide +kernel
theorem dX7_originBits_35 : decode cX7_originBits 35 = .ok (.aload 4, 2) := by decide +kernel
theorem dX7_originBits_37 : decode cX7_originBits 37 = .ok (.getfield 68, 3) := by decide +kernel
theorem dX7_originBits_40 : decode cX7_originBits 40 = .ok (.invokevirtual 72, 3) := by decide +kernel
theorem dX7_originBits_43 : decode cX7_originBits 43 = .ok (.ishl, 1) := by decide +kernel
theorem dX7_originBits_44 : decode cX7_originBits 44 = .ok (.ior, 1) := by decide +kernel
theorem dX7_originBits_45 : decode cX7_originBits 45 = .ok (.istore_n 2, 1) := by decide +kernel
theorem dX7_originBits_46 : decode cX7_originBits 46 = .ok (.iinc 3 1, 3) := by decide +kernel
theorem dX7_originBits_49 : decode cX7_originBits 49 = .ok (.goto (-35), 3) := by decide +kernel
theorem dX7_originBits_52 : decode cX7_originBits 52 = .ok (.iload_n 2, 1) := by decide +kernel
theorem dX7_originBits_53 : decode cX7_originBits 53 = .ok (.ireturn, 1) := by decide +kernel
theorem dX7_isThere_0 : decode cX7_isThere 0 = .ok (.iload_n 1, 1) := by decide +kernel
theorem dX7_isThere_1 : decode cX7_isThere 1 = .ok (.invokestatic 78, 3) := by decide +kernel
theorem dX7_isThere_4 : decode cX7_isThere 4 = .ok (.ifCond .eq 16, 3) := by decide +kernel
theorem dX7_isThere_7 : decode cX7_isThere 7 = .ok (.aload_n 0, 1) := by decide +kernel
theorem dX7_isThere_8 : decode cX7_isThere 8 = .ok (.getfield 17, 3) := by decide +kernel
theorem dX7_isThere_11 : decode cX7_isThere 11 = .ok (.iload_n 1, 1) := by decide +kernel
theorem dX7_isThere_12 : decode cX7_isThere 12 = .ok (.iaload, 1) := by decide +kernel
theorem dX7_isThere_13 : decode cX7_isThere 13 = .ok (.ifCond .le 7, 3) := by decide +kernel
theorem dX7_isThere_16 : decode cX7_isThere 16 = .ok (.iconst 1, 1) := by decide +kernel
theorem dX7_isThere_17 : decode cX7_isThere 17 = .ok (.goto 4, 3) := by decide +kernel
theorem dX7_isThere_20 : decode cX7_isThere 20 = .ok (.iconst 0, 1) := by decide +kernel
theorem dX7_isThere_21 : decode cX7_isThere 21 = .ok (.ireturn, 1) := by decide +kernel
theorem dX7_cellOf_0 : decode cX7_cellOf 0 = .ok (.iload_n 0, 1) := by decide +kernel
theorem dX7_cellOf_1 : decode cX7_cellOf 1 = .ok (.invokestatic 41, 3) := by decide +kernel
theorem dX7_cellOf_4 : decode cX7_cellOf 4 = .ok (.ifCond .eq 20, 3) := by decide +kernel
theorem dX7_cellOf_7 : decode cX7_cellOf 7 = .ok (.iload_n 1, 1) := by decide +kernel
theorem dX7_cellOf_8 : decode cX7_cellOf 8 = .ok (.invokestatic 78, 3) := by decide +kernel
theorem dX7_cellOf_11 : decode cX7_cellOf 11 = .ok (.ifCond .eq 13, 3) := by decide +kernel
theorem dX7_cellOf_14 : decode cX7_cellOf 14 = .ok (.iload_n 0, 1) := by decide +kernel
theorem dX7_cellOf_15 : decode cX7_cellOf 15 = .ok (.sipush 512, 3) := by decide +kernel
theorem dX7_cellOf_18 : decode cX7_cellOf 18 = .ok (.imul, 1) := by decide +kernel
theorem dX7_cellOf_19 : decode cX7_cellOf 19 = .ok (.iload_n 1, 1) := by decide +kernel
theorem dX7_cellOf_20 : decode cX7_cellOf 20 = .ok (.iadd, 1) := by decide +kernel
theorem dX7_cellOf_21 : decode cX7_cellOf 21 = .ok (.goto 4, 3) := by decide +kernel
theorem dX7_cellOf_24 : decode cX7_cellOf 24 = .ok (.iconst (-1), 1) := by decide +kernel
theorem dX7_cellOf_25 : decode cX7_cellOf 25 = .ok (.ireturn, 1) := by decide +kernel
theorem dJ6_bitCount_0f7a4_0 : decode cJ6_bitCount_0f7a4 0 = .ok (.iload_n 0, 1) := by decide +kernel
theorem dJ6_bitCount_0f7a4_1 : decode cJ6_bitCount_0f7a4 1 = .ok (.iload_n 0, 1) := by decide +kernel
theorem dJ6_bitCount_0f7a4_2 : decode cJ6_bitCount_0f7a4 2 = .ok (.iconst 1, 1) := by decide +kernel
theorem dJ6_bitCount_0f7a4_3 : decode cJ6_bitCount_0f7a4 3 = .ok (.iushr, 1) := by decide +kernel
theorem dJ6_bitCount_0f7a4_4 : decode cJ6_bitCount_0f7a4 4 = .ok (.ldc_w 265, 3) := by decide +kernel
theorem dJ6_bitCount_0f7a4_7 : decode cJ6_bitCount_0f7a4 7 = .ok (.iand, 1) := by decide +kernel
theorem dJ6_bitCount_0f7a4_8 : decode cJ6_bitCount_0f7a4 8 = .ok (.isub, 1) := by decide +kernel
theorem dJ6_bitCount_0f7a4_9 : decode cJ6_bitCount_0f7a4 9 = .ok (.istore_n 0, 1) := by decide +kernel
theorem dJ6_bitCount_0f7a4_10 : decode cJ6_bitCount_0f7a4 10 = .ok (.iload_n 0, 1) := by decide +kernel
theorem dJ6_bitCount_0f7a4_11 : decode cJ6_bitCount_0f7a4 11 = .ok (.ldc_w 266, 3) := by decide +kernel
theorem dJ6_bitCount_0f7a4_14 : decode cJ6_bitCount_0f7a4 14 = .ok (.iand, 1) := by decide +kernel
theorem dJ6_bitCount_0f7a4_15 : decode cJ6_bitCount_0f7a4 15 = .ok (.iload_n 0, 1) := by decide +kernel
theorem dJ6_bitCount_0f7a4_16 : decode cJ6_bitCount_0f7a4 16 = .ok (.iconst 2, 1) := by decide +kernel
theorem dJ6_bitCount_0f7a4_17 : decode cJ6_bitCount_0f7a4 17 = .ok (.iushr, 1) := by decide +kernel
theorem dJ6_bitCount_0f7a4_18 : decode cJ6_bitCount_0f7a4 18 = .ok (.ldc_w 266, 3) := by decide +kernel
theorem dJ6_bitCount_0f7a4_21 : decode cJ6_bitCount_0f7a4 21 = .ok (.iand, 1) := by decide +kernel
theorem dJ6_bitCount_0f7a4_22 : decode cJ6_bitCount_0f7a4 22 = .ok (.iadd, 1) := by decide +kernel
theorem dJ6_bitCount_0f7a4_23 : decode cJ6_bitCount_0f7a4 23 = .ok (.istore_n 0, 1) := by decide +kernel
theorem dJ6_bitCount_0f7a4_24 : decode cJ6_bitCount_0f7a4 24 = .ok (.iload_n 0, 1) := by decide +kernel
theorem dJ6_bitCount_0f7a4_25 : decode cJ6_bitCount_0f7a4 25 = .ok (.iload_n 0, 1) := by decide +kernel
theorem dJ6_bitCount_0f7a4_26 : decode cJ6_bitCount_0f7a4 26 = .ok (.iconst 4, 1) := by decide +kernel
theorem dJ6_bitCount_0f7a4_27 : decode cJ6_bitCount_0f7a4 27 = .ok (.iushr, 1) := by decide +kernel
theorem dJ6_bitCount_0f7a4_28 : decode cJ6_bitCount_0f7a4 28 = .ok (.iadd, 1) := by decide +kernel
theorem dJ6_bitCount_0f7a4_29 : decode cJ6_bitCount_0f7a4 29 = .ok (.ldc_w 267, 3) := by decide +kernel
theorem dJ6_bitCount_0f7a4_32 : decode cJ6_bitCount_0f7a4 32 = .ok (.iand, 1) := by decide +kernel
theorem dJ6_bitCount_0f7a4_33 : decode cJ6_bitCount_0f7a4 33 = .ok (.istore_n 0, 1) := by decide +kernel
theorem dJ6_bitCount_0f7a4_34 : decode cJ6_bitCount_0f7a4 34 = .ok (.iload_n 0, 1) := by decide +kernel
theorem dJ6_bitCount_0f7a4_35 : decode cJ6_bitCount_0f7a4 35 = .ok (.iload_n 0, 1) := by decide +kernel
theorem dJ6_bitCount_0f7a4_36 : decode cJ6_bitCount_0f7a4 36 = .ok (.bipush 8, 2) := by decide +kernel
theorem dJ6_bitCount_0f7a4_38 : decode cJ6_bitCount_0f7a4 38 = .ok (.iushr, 1) := by decide +kernel
theorem dJ6_bitCount_0f7a4_39 : decode cJ6_bitCount_0f7a4 39 = .ok (.iadd, 1) := by decide +kernel
theorem dJ6_bitCount_0f7a4_40 : decode cJ6_bitCount_0f7a4 40 = .ok (.istore_n 0, 1) := by decide +kernel
theorem dJ6_bitCount_0f7a4_41 : decode cJ6_bitCount_0f7a4 41 = .ok (.iload_n 0, 1) := by decide +kernel
theorem dJ6_bitCount_0f7a4_42 : decode cJ6_bitCount_0f7a4 42 = .ok (.iload_n 0, 1) := by decide +kernel
theorem dJ6_bitCount_0f7a4_43 : decode cJ6_bitCount_0f7a4 43 = .ok (.bipush 16, 2) := by decide +kernel
theorem dJ6_bitCount_0f7a4_45 : decode cJ6_bitCount_0f7a4 45 = .ok (.iushr, 1) := by decide +kernel
theorem dJ6_bitCount_0f7a4_46 : decode cJ6_bitCount_0f7a4 46 = .ok (.iadd, 1) := by decide +kernel
theorem dJ6_bitCount_0f7a4_47 : decode cJ6_bitCount_0f7a4 47 = .ok (.istore_n 0, 1) := by decide +kernel
theorem dJ6_bitCount_0f7a4_48 : decode cJ6_bitCount_0f7a4 48 = .ok (.iload_n 0, 1) := by decide +kernel
theorem dJ6_bitCount_0f7a4_49 : decode cJ6_bitCount_0f7a4 49 = .ok (.bipush 63, 2) := by decide +kernel
theorem dJ6_bitCount_0f7a4_51 : decode cJ6_bitCount_0f7a4 51 = .ok (.iand, 1) := by decide +kernel
theorem dJ6_bitCount_0f7a4_52 : decode cJ6_bitCount_0f7a4 52 = .ok (.ireturn, 1) := by decide +kernel
end
section
theorem dX8_init_0 : decode cX8_init 0 = .ok (.aload_n 0, 1) := by decide +kernel
theorem dX8_init_1 : decode cX8_init 1 = .ok (.invokespecial 3, 3) := by decide +kernel
theorem dX8_init_4 : decode cX8_init 4 = .ok (.aload_n 0, 1) := by decide +kernel
theorem dX8_init_5 : decode cX8_init 5 = .ok (.new 9, 3) := by decide +kernel
theorem dX8_init_8 : decode cX8_init 8 = .ok (.dup, 1) := by decide +kernel
theorem dX8_init_9 : decode cX8_init 9 = .ok (.invokespecial 11, 3) := by decide +kernel
theorem dX8_init_12 : decode cX8_init 12 = .ok (.putfield 12, 3) := by decide +kernel
theorem dX8_init_15 : decode cX8_init 15 = .ok (.aload_n 0, 1) := by decide +kernel
theorem dX8_init_16 : decode cX8_init 16 = .ok (.new 16, 3) := by decide +kernel
theorem dX8_init_19 : decode cX8_init 19 = .ok (.dup, 1) := by decide +kernel
theorem dX8_init_20 : decode cX8_init 20 = .ok (.invokespecial 18, 3) := by decide +kernel
theorem dX8_init_23 : decode cX8_init 23 = .ok (.putfield 19, 3) := by decide +kernel
theorem dX8_init_26 : decode cX8_init 26 = .ok (.aload_n 0, 1) := by decide +kernel
theorem dX8_init_27 : decode cX8_init 27 = .ok (.new 23, 3) := by decide +kernel
theorem dX8_init_30 : decode cX8_init 30 = .ok (.dup, 1) := by decide +kernel
theorem dX8_init_31 : decode cX8_init 31 = .ok (.invokespecial 25, 3) := by decide +kernel
theorem dX8_init_34 : decode cX8_init 34 = .ok (.putfield 26, 3) := by decide +kernel
theorem dX8_init_37 : decode cX8_init 37 = .ok (.aload_n 0, 1) := by decide +kernel
theorem dX8_init_38 : decode cX8_init 38 = .ok (.new 30, 3) := by decide +kernel
theorem dX8_init_41 : decode cX8_init 41 = .ok (.dup, 1) := by decide +kernel
theorem dX8_init_42 : decode cX8_init 42 = .ok (.invokespecial 32, 3) := by decide +kernel
theorem dX8_init_45 : decode cX8_init 45 = .ok (.putfield 33, 3) := by decide +kernel
theorem dX8_init_48 : decode cX8_init 48 = .ok (.aload_n 0, 1) := by decide +kernel
theorem dX8_init_49 : decode cX8_init 49 = .ok (.new 37, 3) := by decide +kernel
theorem dX8_init_52 : decode cX8_init 52 = .ok (.dup, 1) := by decide +kernel
theorem dX8_init_53 : decode cX8_init 53 = .ok (.invokespecial 39, 3) := by decide +kernel
theorem dX8_init_56 : decode cX8_init 56 = .ok (.putfield 40, 3) := by decide +kernel
theorem dX8_init_59 : decode cX8_init 59 = .ok (.aload_n 0, 1) := by decide +kernel
theorem dX8_init_60 : decode cX8_init 60 = .ok (.iconst 0, 1) := by decide +kernel
theorem dX8_init_61 : decode cX8_init 61 = .ok (.putfield 44, 3) := by decide +kernel
theorem dX8_init_64 : decode cX8_init 64 = .ok (.return_, 1) := by decide +kernel
theorem dX8_pass_0 : decode cX8_pass 0 = .ok (.iload_n 1, 1) := by decide +kernel
theorem dX8_pass_1 : decode cX8_pass 1 = .ok (.iconst 1, 1) := by decide +kernel
theorem dX8_pass_2 : decode cX8_pass 2 = .ok (.if_icmp .lt 10, 3) := by decide +kernel
theorem dX8_pass_5 : decode cX8_pass 5 = .ok (.iload_n 1, 1) := by decide +kernel
theorem dX8_pass_6 : decode cX8_pass 6 = .ok (.sipush 1000, 3) := by decide +kernel
theorem dX8_pass_9 : decode cX8_pass 9 = .ok (.if_icmp .le 13, 3) := by decide +kernel
theorem dX8_pass_12 : decode cX8_pass 12 = .ok (.new 48, 3) := by decide +kernel
theorem dX8_pass_15 : decode cX8_pass 15 = .ok (.dup, 1) := by decide +kernel
theorem dX8_pass_16 : decode cX8_pass 16 = .ok (.ldc 50, 2) := by decide +kernel
theorem dX8_pass_18 : decode cX8_pass 18 = .ok (.invokespecial 52, 3) := by decide +kernel
theorem dX8_pass_21 : decode cX8_pass 21 = .ok (.athrow, 1) := by decide +kernel
theorem dX8_pass_22 : decode cX8_pass 22 = .ok (.aload_n 0, 1) := by decide +kernel
theorem dX8_pass_23 : decode cX8_pass 23 = .ok (.getfield 44, 3) := by decide +kernel
theorem dX8_pass_26 : decode cX8_pass 26 = .ok (.ldc 55, 2) := by decide +kernel
theorem dX8_pass_28 : decode cX8_pass 28 = .ok (.iload_n 1, 1) := by decide +kernel
theorem dX8_pass_29 : decode cX8_pass 29 = .ok (.isub, 1) := by decide +kernel
theorem dX8_pass_30 : decode cX8_pass 30 = .ok (.if_icmp .le 13, 3) := by decide +kernel
theorem dX8_pass_33 : decode cX8_pass 33 = .ok (.new 56, 3) := by decide +kernel
theorem dX8_pass_36 : decode cX8_pass 36 = .ok (.dup, 1) := by decide +kernel
theorem dX8_pass_37 : decode cX8_pass 37 = .ok (.ldc 58, 2) := by decide +kernel
theorem dX8_pass_39 : decode cX8_pass 39 = .ok (.invokespecial 60, 3) := by decide +kernel
theorem dX8_pass_42 : decode cX8_pass 42 = .ok (.athrow, 1) := by decide +kernel
theorem dX8_pass_43 : decode cX8_pass 43 = .ok (.aload_n 0, 1) := by decide +kernel
theorem dX8_pass_44 : decode cX8_pass 44 = .ok (.dup, 1) := by decide +kernel
theorem dX8_pass_45 : decode cX8_pass 45 = .ok (.getfield 44, 3) := by decide +kernel
theorem dX8_pass_48 : decode cX8_pass 48 = .ok (.iload_n 1, 1) := by decide +kernel
theorem dX8_pass_49 : decode cX8_pass 49 = .ok (.iadd, 1) := by decide +kernel
theorem dX8_pass_50 : decode cX8_pass 50 = .ok (.putfield 44, 3) := by decide +kernel
theorem dX8_pass_53 : decode cX8_pass 53 = .ok (.aload_n 0, 1) := by decide +kernel
theorem dX8_pass_54 : decode cX8_pass 54 = .ok (.getfield 44, 3) := by decide +kernel
theorem dX8_pass_57 : decode cX8_pass 57 = .ok (.ireturn, 1) := by decide +kernel
theorem dX8_now_0 : decode cX8_now 0 = .ok (.aload_n 0, 1) := by decide +kernel
theorem dX8_now_1 : decode cX8_now 1 = .ok (.getfield 44, 3) := by decide +kernel
theorem dX8_now_4 : decode cX8_now 4 = .ok (.ireturn, 1) := by decide +kernel
theorem dX8_hop_0 : decode cX8_hop 0 = .ok (.iload_n 1, 1) := by decide +kernel
theorem dX8_hop_1 : decode cX8_hop 1 = .ok (.invokestatic 61, 3) := by decide +kernel
theorem dX8_hop_4 : decode cX8_hop 4 = .ok (.ifCond .ne 13, 3) := by decide +kernel
theorem dX8_hop_7 : decode cX8_hop 7 = .ok (.new 48, 3) := by decide +kernel
theorem dX8_hop_10 : decode cX8_hop 10 = .ok (.dup, 1) := by decide +kernel
theorem dX8_hop_11 : decode cX8_hop 11 = .ok (.ldc 65, 2) := by decide +kernel
theorem dX8_hop_13 : decode cX8_hop 13 = .ok (.invokespecial 52, 3) := by decide +kernel
theorem dX8_hop_16 : decode cX8_hop 16 = .ok (.athrow, 1) := by decide +kernel
theorem dX8_hop_17 : decode cX8_hop 17 = .ok (.aload_n 0, 1) := by decide +kernel
theorem dX8_hop_18 : decode cX8_hop 18 = .ok (.getfield 12, 3) := by decide +kernel
theorem dX8_hop_21 : decode cX8_hop 21 = .ok (.invokevirtual 67, 3) := by decide +kernel
theorem dX8_hop_24 : decode cX8_hop 24 = .ok (.ifCond .eq 13, 3) := by decide +kernel
theorem dX8_hop_27 : decode cX8_hop 27 = .ok (.new 56, 3) := by decide +kernel
theorem dX8_hop_30 : decode cX8_hop 30 = .ok (.dup, 1) := by decide +kernel
theorem dX8_hop_31 : decode cX8_hop 31 = .ok (.ldc 71, 2) := by decide +kernel
theorem dX8_hop_33 : decode cX8_hop 33 = .ok (.invokespecial 60, 3) := by decide +kernel
theorem dX8_hop_36 : decode cX8_hop 36 = .ok (.athrow, 1) := by decide +kernel
theorem dX8_hop_37 : decode cX8_hop 37 = .ok (.aload_n 0, 1) := by decide +kernel
theorem dX8_hop_38 : decode cX8_hop 38 = .ok (.getfield 12, 3) := by decide +kernel
theorem dX8_hop_41 : decode cX8_hop 41 = .ok (.iload_n 1, 1) := by decide +kernel
theorem dX8_hop_42 : decode cX8_hop 42 = .ok (.invokevirtual 73, 3) := by decide +kernel
theorem dX8_hop_45 : decode cX8_hop 45 = .ok (.ifCond .eq 13, 3) := by decide +kernel
theorem dX8_hop_48 : decode cX8_hop 48 = .ok (.new 56, 3) := by decide +kernel
theorem dX8_hop_51 : decode cX8_hop 51 = .ok (.dup, 1) := by decide +kernel
theorem dX8_hop_52 : decode cX8_hop 52 = .ok (.ldc 76, 2) := by decide +kernel
theorem dX8_hop_54 : decode cX8_hop 54 = .ok (.invokespecial 60, 3) := by decide +kernel
theorem dX8_hop_57 : decode cX8_hop 57 = .ok (.athrow, 1) := by decide +kernel
theorem dX8_hop_58 : decode cX8_hop 58 = .ok (.aload_n 0, 1) := by decide +kernel
theorem dX8_hop_59 : decode cX8_hop 59 = .ok (.getfield 12, 3) := by decide +kernel
theorem dX8_hop_62 : decode cX8_hop 62 = .ok (.iload_n 1, 1) := by decide +kernel
theorem dX8_hop_63 : decode cX8_hop 63 = .ok (.invokevirtual 78, 3) := by decide +kernel
theorem dX8_hop_66 : decode cX8_hop 66 = .ok (.aload_n 0, 1) := by decide +kernel
theorem dX8_hop_67 : decode cX8_hop 67 = .ok (.getfield 12, 3) := by decide +kernel
theorem dX8_hop_70 : decode cX8_hop 70 = .ok (.invokevirtual 82, 3) := by decide +kernel
theorem dX8_hop_73 : decode cX8_hop 73 = .ok (.ireturn, 1) := by decide +kernel
theorem dX8_clearPath_0 : decode cX8_clearPath 0 = .ok (.aload_n 0, 1) := by decide +kernel
theorem dX8_clearPath_1 : decode cX8_clearPath 1 = .ok (.getfield 12, 3) := by decide +kernel
theorem dX8_clearPath_4 : decode cX8_clearPath 4 = .ok (.invokevirtual 82, 3) := by decide +kernel
theorem dX8_clearPath_7 : decode cX8_clearPath 7 = .ok (.istore_n 1, 1) := by decide +kernel
theorem dX8_clearPath_8 : decode cX8_clearPath 8 = .ok (.aload_n 0, 1) := by decide +kernel
theorem dX8_clearPath_9 : decode cX8_clearPath 9 = .ok (.getfield 12, 3) := by decide +kernel
theorem dX8_clearPath_12 : decode cX8_clearPath 12 = .ok (.invokevirtual 86, 3) := by decide +kernel
theorem dX8_clearPath_15 : decode cX8_clearPath 15 = .ok (.iload_n 1, 1) := by decide +kernel
theorem dX8_clearPath_16 : decode cX8_clearPath 16 = .ok (.ireturn, 1) := by decide +kernel
theorem dX8_announce_0 : decode cX8_announce 0 = .ok (.aload_n 0, 1) := by decide +kernel
theorem dX8_announce_1 : decode cX8_announce 1 = .ok (.iload_n 1, 1) := by decide +kernel
theorem dX8_announce_2 : decode cX8_announce 2 = .ok (.invokevirtual 89, 3) := by decide +kernel
theorem dX8_announce_5 : decode cX8_announce 5 = .ok (.aload_n 0, 1) := by decide +kernel
theorem dX8_announce_6 : decode cX8_announce 6 = .ok (.iload_n 2, 1) := by decide +kernel
theorem dX8_announce_7 : decode cX8_announce 7 = .ok (.iload_n 3, 1) := by decide +kernel
theorem dX8_announce_8 : decode cX8_announce 8 = .ok (.invokevirtual 92, 3) := by decide +kernel
theorem dX8_announce_11 : decode cX8_announce 11 = .ok (.astore 4, 2) := by decide +kernel
theorem dX8_announce_13 : decode cX8_announce 13 = .ok (.aload_n 0, 1) := by decide +kernel
theorem dX8_announce_14 : decode cX8_announce 14 = .ok (.getfield 12, 3) := by decide +kernel
theorem dX8_announce_17 : decode cX8_announce 17 = .ok (.iconst 0, 1) := by decide +kernel
theorem dX8_announce_18 : decode cX8_announce 18 = .ok (.invokevirtual 96, 3) := by decide +kernel
theorem dX8_announce_21 : decode cX8_announce 21 = .ok (.iload_n 1, 1) := by decide +kernel
theorem dX8_announce_22 : decode cX8_announce 22 = .ok (.invokestatic 100, 3) := by decide +kernel
theorem dX8_announce_25 : decode cX8_announce 25 = .ok (.if_icmp .eq 13, 3) := by decide +kernel
theorem dX8_announce_28 : decode cX8_announce 28 = .ok (.new 56, 3) := by decide +kernel
theorem dX8_announce_31 : decode cX8_announce 31 = .ok (.dup, 1) := by decide +kernel
theorem dX8_announce_32 : decode cX8_announce 32 = .ok (.ldc 103, 2) := by decide +kernel
theorem dX8_announce_34 : decode cX8_announce 34 = .ok (.invokespecial 60, 3) := by decide +kernel
theorem dX8_announce_37 : decode cX8_announce 37 = .ok (.athrow, 1) := by decide +kernel
theorem dX8_announce_38 : decode cX8_announce 38 = .ok (.aload_n 0, 1) := by decide +kernel
theorem dX8_announce_39 : decode cX8_announce 39 = .ok (.invokevirtual 105, 3) := by decide +kernel
theorem dX8_announce_42 : decode cX8_announce 42 = .ok (.aload_n 0, 1) := by decide +kernel
theorem dX8_announce_43 : decode cX8_announce 43 = .ok (.getfield 19, 3) := by decide +kernel
theorem dX8_announce_46 : decode cX8_announce 46 = .ok (.iload_n 1, 1) := by decide +kernel
theorem dX8_announce_47 : decode cX8_announce 47 = .ok (.aload 4, 2) := by decide +kernel
theorem dX8_announce_49 : decode cX8_announce 49 = .ok (.getfield 108, 3) := by decide +kernel
theorem dX8_announce_52 : decode cX8_announce 52 = .ok (.invokevirtual 113, 3) := by decide +kernel
theorem dX8_announce_55 : decode cX8_announce 55 = .ok (.astore 5, 2) := by decide +kernel
theorem dX8_announce_57 : decode cX8_announce 57 = .ok (.aload 5, 2) := by decide +kernel
theorem dX8_announce_59 : decode cX8_announce 59 = .ok (.ifnull 9, 3) := by decide +kernel
theorem dX8_announce_62 : decode cX8_announce 62 = .ok (.aload_n 0, 1) := by decide +kernel
theorem dX8_announce_63 : decode cX8_announce 63 = .ok (.aload 5, 2) := by decide +kernel
theorem dX8_announce_65 : decode cX8_announce 65 = .ok (.invokevirtual 117, 3) := by decide +kernel
theorem dX8_announce_68 : decode cX8_announce 68 = .ok (.new 121, 3) := by decide +kernel
theorem dX8_announce_71 : decode cX8_announce 71 = .ok (.dup, 1) := by decide +kernel
theorem dX8_announce_72 : decode cX8_announce 72 = .ok (.iload_n 1, 1) := by decide +kernel
theorem dX8_announce_73 : decode cX8_announce 73 = .ok (.aload 4, 2) := by decide +kernel
theorem dX8_announce_75 : decode cX8_announce 75 = .ok (.aload_n 0, 1) := by decide +kernel
theorem dX8_announce_76 : decode cX8_announce 76 = .ok (.getfield 12, 3) := by decide +kernel
theorem dX8_announce_79 : decode cX8_announce 79 = .ok (.invokevirtual 123, 3) := by decide +kernel
theorem dX8_announce_82 : decode cX8_announce 82 = .ok (.aload_n 0, 1) := by decide +kernel
theorem dX8_announce_83 : decode cX8_announce 83 = .ok (.getfield 26, 3) := by decide +kernel
theorem dX8_announce_86 : decode cX8_announce 86 = .ok (.invokevirtual 127, 3) := by decide +kernel
theorem dX8_announce_89 : decode cX8_announce 89 = .ok (.invokespecial 128, 3) := by decide +kernel
theorem dX8_announce_92 : decode cX8_announce 92 = .ok (.astore 6, 2) := by decide +kernel
theorem dX8_announce_94 : decode cX8_announce 94 = .ok (.aload_n 0, 1) := by decide +kernel
theorem dX8_announce_95 : decode cX8_announce 95 = .ok (.getfield 19, 3) := by decide +kernel
theorem dX8_announce_98 : decode cX8_announce 98 = .ok (.aload 6, 2) := by decide +kernel
theorem dX8_announce_100 : decode cX8_announce 100 = .ok (.invokevirtual 131, 3) := by decide +kernel
theorem dX8_announce_103 : decode cX8_announce 103 = .ok (.aload_n 0, 1) := by decide +kernel
theorem dX8_announce_104 : decode cX8_announce 104 = .ok (.getfield 26, 3) := by decide +kernel
theorem dX8_announce_107 : decode cX8_announce 107 = .ok (.aload 6, 2) := by decide +kernel
theorem dX8_announce_109 : decode cX8_announce 109 = .ok (.invokevirtual 134, 3) := by decide +kernel
theorem dX8_announce_112 : decode cX8_announce 112 = .ok (.aload_n 0, 1) := by decide +kernel
theorem dX8_announce_113 : decode cX8_announce 113 = .ok (.getfield 26, 3) := by decide +kernel
theorem dX8_announce_116 : decode cX8_announce 116 = .ok (.aload_n 0, 1) := by decide +kernel
theorem dX8_announce_117 : decode cX8_announce 117 = .ok (.getfield 44, 3) := by decide +kernel
theorem dX8_announce_120 : decode cX8_announce 120 = .ok (.invokevirtual 137, 3) := by decide +kernel
theorem dX8_announce_123 : decode cX8_announce 123 = .ok (.aload 5, 2) := by decide +kernel
theorem dX8_announce_125 : decode cX8_announce 125 = .ok (.ifnonnull 7, 3) := by decide +kernel
theorem dX8_announce_128 : decode cX8_announce 128 = .ok (.iconst 1, 1) := by decide +kernel
theorem dX8_announce_129 : decode cX8_announce 129 = .ok (.goto 4, 3) := by decide +kernel
theorem dX8_announce_132 : decode cX8_announce 132 = .ok (.iconst 0, 1) := by decide +kernel
theorem dX8_announce_133 : decode cX8_announce 133 = .ok (.ireturn, 1) := by decide +kernel
theorem dX8_withdraw_0 : decode cX8_withdraw 0 = .ok (.aload_n 0, 1) := by decide +kernel
theorem dX8_withdraw_1 : decode cX8_withdraw 1 = .ok (.iload_n 1, 1) := by decide +kernel
theorem dX8_withdraw_2 : decode cX8_withdraw 2 = .ok (.iload_n 2, 1) := by decide +kernel
theorem dX8_withdraw_3 : decode cX8_withdraw 3 = .ok (.iload_n 3, 1) := by decide +kernel
theorem dX8_withdraw_4 : decode cX8_withdraw 4 = .ok (.invokevirtual 140, 3) := by decide +kernel
theorem dX8_withdraw_7 : decode cX8_withdraw 7 = .ok (.astore 4, 2) := by decide +kernel
theorem dX8_withdraw_9 : decode cX8_withdraw 9 = .ok (.aload_n 0, 1) := by decide +kernel
theorem dX8_withdraw_10 : decode cX8_withdraw 10 = .ok (.invokevirtual 105, 3) := by decide +kernel
theorem dX8_withdraw_13 : decode cX8_withdraw 13 = .ok (.aload_n 0, 1) := by decide +kernel
theorem dX8_withdraw_14 : decode cX8_withdraw 14 = .ok (.aload 4, 2) := by decide +kernel
theorem dX8_withdraw_16 : decode cX8_withdraw 16 = .ok (.invokevirtual 117, 3) := by decide +kernel
theorem dX8_withdraw_19 : decode cX8_withdraw 19 = .ok (.aload_n 0, 1) := by decide +kernel
theorem dX8_withdraw_20 : decode cX8_withdraw 20 = .ok (.getfield 26, 3) := by decide +kernel
theorem dX8_withdraw_23 : decode cX8_withdraw 23 = .ok (.aload_n 0, 1) := by decide +kernel
theorem dX8_withdraw_24 : decode cX8_withdraw 24 = .ok (.getfield 44, 3) := by decide +kernel
theorem dX8_withdraw_27 : decode cX8_withdraw 27 = .ok (.invokevirtual 137, 3) := by decide +kernel
theorem dX8_withdraw_30 : decode cX8_withdraw 30 = .ok (.aload_n 0, 1) := by decide +kernel
theorem dX8_withdraw_31 : decode cX8_withdraw 31 = .ok (.getfield 19, 3) := by decide +kernel
theorem dX8_withdraw_34 : decode cX8_withdraw 34 = .ok (.iload_n 1, 1) := by decide +kernel
theorem dX8_withdraw_35 : decode cX8_withdraw 35 = .ok (.invokevirtual 144, 3) := by decide +kernel
theorem dX8_withdraw_38 : decode cX8_withdraw 38 = .ok (.ireturn, 1) := by decide +kernel
theorem dX8_drop_0 : decode cX8_drop 0 = .ok (.aload_n 0, 1) := by decide +kernel
theorem dX8_drop_1 : decode cX8_drop 1 = .ok (.iload_n 1, 1) := by decide +kernel
theorem dX8_drop_2 : decode cX8_drop 2 = .ok (.invokevirtual 89, 3) := by decide +kernel
theorem dX8_drop_5 : decode cX8_drop 5 = .ok (.aload_n 0, 1) := by decide +kernel
theorem dX8_drop_6 : decode cX8_drop 6 = .ok (.invokevirtual 105, 3) := by decide +kernel
theorem dX8_drop_9 : decode cX8_drop 9 = .ok (.aload_n 0, 1) := by decide +kernel
theorem dX8_drop_10 : decode cX8_drop 10 = .ok (.getfield 19, 3) := by decide +kernel
theorem dX8_drop_13 : decode cX8_drop 13 = .ok (.iload_n 1, 1) := by decide +kernel
theorem dX8_drop_14 : decode cX8_drop 14 = .ok (.invokevirtual 144, 3) := by decide +kernel
theorem dX8_drop_17 : decode cX8_drop 17 = .ok (.istore_n 2, 1) := by decide +kernel
theorem dX8_drop_18 : decode cX8_drop 18 = .ok (.iconst 1, 1) := by decide +kernel
theorem dX8_drop_19 : decode cX8_drop 19 = .ok (.istore_n 3, 1) := by decide +kernel
theorem dX8_drop_20 : decode cX8_drop 20 = .ok (.iload_n 3, 1) := by decide +kernel
theorem dX8_drop_21 : decode cX8_drop 21 = .ok (.sipush 512, 3) := by decide +kernel
theorem dX8_drop_24 : decode cX8_drop 24 = .ok (.if_icmp .ge 31, 3) := by decide +kernel
theorem dX8_drop_27 : decode cX8_drop 27 = .ok (.aload_n 0, 1) := by decide +kernel
theorem dX8_drop_28 : decode cX8_drop 28 = .ok (.getfield 19, 3) := by decide +kernel
theorem dX8_drop_31 : decode cX8_drop 31 = .ok (.iload_n 1, 1) := by decide +kernel
theorem dX8_drop_32 : decode cX8_drop 32 = .ok (.iload_n 3, 1) := by decide +kernel
theorem dX8_drop_33 : decode cX8_drop 33 = .ok (.invokevirtual 113, 3) := by decide +kernel
theorem dX8_drop_36 : decode cX8_drop 36 = .ok (.astore 4, 2) := by decide +kernel
theorem dX8_drop_38 : decode cX8_drop 38 = .ok (.aload 4, 2) := by decide +kernel
theorem dX8_drop_40 : decode cX8_drop 40 = .ok (.ifnull 9, 3) := by decide +kernel
theorem dX8_drop_43 : decode cX8_drop 43 = .ok (.aload_n 0, 1) := by decide +kernel
theorem dX8_drop_44 : decode cX8_drop 44 = .ok (.aload 4, 2) := by decide +kernel
theorem dX8_drop_46 : decode cX8_drop 46 = .ok (.invokevirtual 117, 3) := by decide +kernel
theorem dX8_drop_49 : decode cX8_drop 49 = .ok (.iinc 3 1, 3) := by decide +kernel
theorem dX8_drop_52 : decode cX8_drop 52 = .ok (.goto (-32), 3) := by decide +kernel
theorem dX8_drop_55 : decode cX8_drop 55 = .ok (.aload_n 0, 1) := by decide +kernel
theorem dX8_drop_56 : decode cX8_drop 56 = .ok (.getfield 26, 3) := by decide +kernel
theorem dX8_drop_59 : decode cX8_drop 59 = .ok (.aload_n 0, 1) := by decide +kernel
theorem dX8_drop_60 : decode cX8_drop 60 = .ok (.getfield 44, 3) := by decide +kernel
theorem dX8_drop_63 : decode cX8_drop 63 = .ok (.invokevirtual 137, 3) := by decide +kernel
theorem dX8_drop_66 : decode cX8_drop 66 = .ok (.iload_n 2, 1) := by decide +kernel
theorem dX8_drop_67 : decode cX8_drop 67 = .ok (.ireturn, 1) := by decide +kernel
theorem dX8_updates_0 : decode cX8_updates 0 = .ok (.aload_n 0, 1) := by decide +kernel
theorem dX8_updates_1 : decode cX8_updates 1 = .ok (.getfield 26, 3) := by decide +kernel
theorem dX8_updates_4 : decode cX8_updates 4 = .ok (.invokevirtual 127, 3) := by decide +kernel
theorem dX8_updates_7 : decode cX8_updates 7 = .ok (.ireturn, 1) := by decide +kernel
theorem dX8_routes_0 : decode cX8_routes 0 = .ok (.aload_n 0, 1) := by decide +kernel
theorem dX8_routes_1 : decode cX8_routes 1 = .ok (.iload_n 1, 1) := by decide +kernel
theorem dX8_routes_2 : decode cX8_routes 2 = .ok (.invokevirtual 89, 3) := by decide +kernel
theorem dX8_routes_5 : decode cX8_routes 5 = .ok (.aload_n 0, 1) := by decide +kernel
theorem dX8_routes_6 : decode cX8_routes 6 = .ok (.getfield 19, 3) := by decide +kernel
theorem dX8_routes_9 : decode cX8_routes 9 = .ok (.iload_n 1, 1) := by decide +kernel
theorem dX8_routes_10 : decode cX8_routes 10 = .ok (.invokevirtual 144, 3) := by decide +kernel
theorem dX8_routes_13 : decode cX8_routes 13 = .ok (.ireturn, 1) := by decide +kernel
theorem dX8_prefixes_0 : decode cX8_prefixes 0 = .ok (.aload_n 0, 1) := by decide +kernel
theorem dX8_prefixes_1 : decode cX8_prefixes 1 = .ok (.getfield 19, 3) := by decide +kernel
theorem dX8_prefixes_4 : decode cX8_prefixes 4 = .ok (.invokevirtual 147, 3) := by decide +kernel
theorem dX8_prefixes_7 : decode cX8_prefixes 7 = .ok (.ireturn, 1) := by decide +kernel
theorem dX8_pathAt_0 : decode cX8_pathAt 0 = .ok (.iload 4, 2) := by decide +kernel
theorem dX8_pathAt_2 : decode cX8_pathAt 2 = .ok (.ifCond .ge 13, 3) := by decide +kernel
theorem dX8_pathAt_5 : decode cX8_pathAt 5 = .ok (.new 150, 3) := by decide +kernel
theorem dX8_pathAt_8 : decode cX8_pathAt 8 = .ok (.dup, 1) := by decide +kernel
theorem dX8_pathAt_9 : decode cX8_pathAt 9 = .ok (.ldc 152, 2) := by decide +kernel
theorem dX8_pathAt_11 : decode cX8_pathAt 11 = .ok (.invokespecial 154, 3) := by decide +kernel
theorem dX8_pathAt_14 : decode cX8_pathAt 14 = .ok (.athrow, 1) := by decide +kernel
theorem dX8_pathAt_15 : decode cX8_pathAt 15 = .ok (.aload_n 0, 1) := by decide +kernel
theorem dX8_pathAt_16 : decode cX8_pathAt 16 = .ok (.iload_n 1, 1) := by decide +kernel
theorem dX8_pathAt_17 : decode cX8_pathAt 17 = .ok (.iload_n 2, 1) := by decide +kernel
theorem dX8_pathAt_18 : decode cX8_pathAt 18 = .ok (.iload_n 3, 1) := by decide +kernel
theorem dX8_pathAt_19 : decode cX8_pathAt 19 = .ok (.invokevirtual 140, 3) := by decide +kernel
theorem dX8_pathAt_22 : decode cX8_pathAt 22 = .ok (.getfield 155, 3) := by decide +kernel
theorem dX8_pathAt_25 : decode cX8_pathAt 25 = .ok (.iload 4, 2) := by decide +kernel
theorem dX8_pathAt_27 : decode cX8_pathAt 27 = .ok (.invokevirtual 96, 3) := by decide +kernel
theorem dX8_pathAt_30 : decode cX8_pathAt 30 = .ok (.ireturn, 1) := by decide +kernel
theorem dX8_bestPeer_0 : decode cX8_bestPeer 0 = .ok (.aload_n 0, 1) := by decide +kernel
theorem dX8_bestPeer_1 : decode cX8_bestPeer 1 = .ok (.getfield 19, 3) := by decide +kernel
theorem dX8_bestPeer_4 : decode cX8_bestPeer 4 = .ok (.aload_n 0, 1) := by decide +kernel
theorem dX8_bestPeer_5 : decode cX8_bestPeer 5 = .ok (.iload_n 1, 1) := by decide +kernel
theorem dX8_bestPeer_6 : decode cX8_bestPeer 6 = .ok (.iload_n 2, 1) := by decide +kernel
theorem dX8_bestPeer_7 : decode cX8_bestPeer 7 = .ok (.invokevirtual 92, 3) := by decide +kernel
theorem dX8_bestPeer_10 : decode cX8_bestPeer 10 = .ok (.getfield 108, 3) := by decide +kernel
theorem dX8_bestPeer_13 : decode cX8_bestPeer 13 = .ok (.invokevirtual 158, 3) := by decide +kernel
theorem dX8_bestPeer_16 : decode cX8_bestPeer 16 = .ok (.astore_n 3, 1) := by decide +kernel
theorem dX8_bestPeer_17 : decode cX8_bestPeer 17 = .ok (.aload_n 3, 1) := by decide +kernel
theorem dX8_bestPeer_18 : decode cX8_bestPeer 18 = .ok (.ifnonnull 7, 3) := by decide +kernel
theorem dX8_bestPeer_21 : decode cX8_bestPeer 21 = .ok (.iconst (-1), 1) := by decide +kernel
theorem dX8_bestPeer_22 : decode cX8_bestPeer 22 = .ok (.goto 7, 3) := by decide +kernel
theorem dX8_bestPeer_25 : decode cX8_bestPeer 25 = .ok (.aload_n 3, 1) := by decide +kernel
theorem dX8_bestPeer_26 : decode cX8_bestPeer 26 = .ok (.getfield 162, 3) := by decide +kernel
theorem dX8_bestPeer_29 : decode cX8_bestPeer 29 = .ok (.ireturn, 1) := by decide +kernel
theorem dX8_lookUp_0 : decode cX8_lookUp 0 = .ok (.aload_n 0, 1) := by decide +kernel
theorem dX8_lookUp_1 : decode cX8_lookUp 1 = .ok (.iload_n 1, 1) := by decide +kernel
theorem dX8_lookUp_2 : decode cX8_lookUp 2 = .ok (.invokevirtual 165, 3) := by decide +kernel
theorem dX8_lookUp_5 : decode cX8_lookUp 5 = .ok (.aload_n 0, 1) := by decide +kernel
theorem dX8_lookUp_6 : decode cX8_lookUp 6 = .ok (.getfield 19, 3) := by decide +kernel
theorem dX8_lookUp_9 : decode cX8_lookUp 9 = .ok (.iload_n 1, 1) := by decide +kernel
theorem dX8_lookUp_10 : decode cX8_lookUp 10 = .ok (.invokevirtual 168, 3) := by decide +kernel
theorem dX8_lookUp_13 : decode cX8_lookUp 13 = .ok (.ireturn, 1) := by decide +kernel
theorem dX8_lookUpByScan_0 : decode cX8_lookUpByScan 0 = .ok (.aload_n 0, 1) := by decide +kernel
theorem dX8_lookUpByScan_1 : decode cX8_lookUpByScan 1 = .ok (.iload_n 1, 1) := by decide +kernel
theorem dX8_lookUpByScan_2 : decode cX8_lookUpByScan 2 = .ok (.invokevirtual 165, 3) := by decide +kernel
theorem dX8_lookUpByScan_5 : decode cX8_lookUpByScan 5 = .ok (.aload_n 0, 1) := by decide +kernel
theorem dX8_lookUpByScan_6 : decode cX8_lookUpByScan 6 = .ok (.getfield 26, 3) := by decide +kernel
theorem dX8_lookUpByScan_9 : decode cX8_lookUpByScan 9 = .ok (.iload_n 1, 1) := by decide +kernel
theorem dX8_lookUpByScan_10 : decode cX8_lookUpByScan 10 = .ok (.aload_n 0, 1) := by decide +kernel
theorem dX8_lookUpByScan_11 : decode cX8_lookUpByScan 11 = .ok (.getfield 26, 3) := by decide +kernel
theorem dX8_lookUpByScan_14 : decode cX8_lookUpByScan 14 = .ok (.invokevirtual 127, 3) := by decide +kernel
theorem dX8_lookUpByScan_17 : decode cX8_lookUpByScan 17 = .ok (.invokevirtual 171, 3) := by decide +kernel
theorem dX8_lookUpByScan_20 : decode cX8_lookUpByScan 20 = .ok (.invokestatic 174, 3) := by decide +kernel
theorem dX8_lookUpByScan_23 : decode cX8_lookUpByScan 23 = .ok (.ireturn, 1) := by decide +kernel
theorem dX8_origins_0 : decode cX8_origins 0 = .ok (.aload_n 0, 1) := by decide +kernel
theorem dX8_origins_1 : decode cX8_origins 1 = .ok (.getfield 19, 3) := by decide +kernel
theorem dX8_origins_4 : decode cX8_origins 4 = .ok (.aload_n 0, 1) := by decide +kernel
theorem dX8_origins_5 : decode cX8_origins 5 = .ok (.iload_n 1, 1) := by decide +kernel
theorem dX8_origins_6 : decode cX8_origins 6 = .ok (.iload_n 2, 1) := by decide +kernel
theorem dX8_origins_7 : decode cX8_origins 7 = .ok (.invokevirtual 92, 3) := by decide +kernel
theorem dX8_origins_10 : decode cX8_origins 10 = .ok (.getfield 108, 3) := by decide +kernel
theorem dX8_origins_13 : decode cX8_origins 13 = .ok (.invokevirtual 178, 3) := by decide +kernel
theorem dX8_origins_16 : decode cX8_origins 16 = .ok (.ireturn, 1) := by decide +kernel
theorem dX8_contested_0 : decode cX8_contested 0 = .ok (.iconst 0, 1) := by decide +kernel
theorem dX8_contested_1 : decode cX8_contested 1 = .ok (.istore_n 1, 1) := by decide +kernel
theorem dX8_contested_2 : decode cX8_contested 2 = .ok (.iconst 1, 1) := by decide +kernel
theorem dX8_contested_3 : decode cX8_contested 3 = .ok (.istore_n 2, 1) := by decide +kernel
theorem dX8_contested_4 : decode cX8_contested 4 = .ok (.iload_n 2, 1) := by decide +kernel
theorem dX8_contested_5 : decode cX8_contested 5 = .ok (.sipush 512, 3) := by decide +kernel
theorem dX8_contested_8 : decode cX8_contested 8 = .ok (.if_icmp .ge 24, 3) := by decide +kernel
theorem dX8_contested_11 : decode cX8_contested 11 = .ok (.aload_n 0, 1) := by decide +kernel
theorem dX8_contested_12 : decode cX8_contested 12 = .ok (.getfield 19, 3) := by decide +kernel
theorem dX8_contested_15 : decode cX8_contested 15 = .ok (.iload_n 2, 1) := by decide +kernel
theorem dX8_contested_16 : decode cX8_contested 16 = .ok (.invokevirtual 178, 3) := by decide +kernel
theorem dX8_contested_19 : decode cX8_contested 19 = .ok (.iconst 1, 1) := by decide +kernel
theorem dX8_contested_20 : decode cX8_contested 20 = .ok (.if_icmp .le 6, 3) := by decide +kernel
theorem dX8_contested_23 : decode cX8_contested 23 = .ok (.iinc 1 1, 3) := by decide +kernel
theorem dX8_contested_26 : decode cX8_contested 26 = .ok (.iinc 2 1, 3) := by decide +kernel
theorem dX8_contested_29 : decode cX8_contested 29 = .ok (.goto (-25), 3) := by decide +kernel
theorem dX8_contested_32 : decode cX8_contested 32 = .ok (.iload_n 1, 1) := by decide +kernel
theorem dX8_contested_33 : decode cX8_contested 33 = .ok (.ireturn, 1) := by decide +kernel
theorem dX8_isHijack_0 : decode cX8_isHijack 0 = .ok (.aload_n 0, 1) := by decide +kernel
theorem dX8_isHijack_1 : decode cX8_isHijack 1 = .ok (.iload_n 1, 1) := by decide +kernel
theorem dX8_isHijack_2 : decode cX8_isHijack 2 = .ok (.iload_n 2, 1) := by decide +kernel
theorem dX8_isHijack_3 : decode cX8_isHijack 3 = .ok (.iload_n 3, 1) := by decide +kernel
theorem dX8_isHijack_4 : decode cX8_isHijack 4 = .ok (.invokevirtual 140, 3) := by decide +kernel
theorem dX8_isHijack_7 : decode cX8_isHijack 7 = .ok (.astore 4, 2) := by decide +kernel
theorem dX8_isHijack_9 : decode cX8_isHijack 9 = .ok (.aload_n 0, 1) := by decide +kernel
theorem dX8_isHijack_10 : decode cX8_isHijack 10 = .ok (.getfield 19, 3) := by decide +kernel
theorem dX8_isHijack_13 : decode cX8_isHijack 13 = .ok (.aload 4, 2) := by decide +kernel
theorem dX8_isHijack_15 : decode cX8_isHijack 15 = .ok (.getfield 181, 3) := by decide +kernel
theorem dX8_isHijack_18 : decode cX8_isHijack 18 = .ok (.getfield 108, 3) := by decide +kernel
theorem dX8_isHijack_21 : decode cX8_isHijack 21 = .ok (.invokevirtual 185, 3) := by decide +kernel
theorem dX8_isHijack_24 : decode cX8_isHijack 24 = .ok (.istore 5, 2) := by decide +kernel
theorem dX8_isHijack_26 : decode cX8_isHijack 26 = .ok (.iload 5, 2) := by decide +kernel
theorem dX8_isHijack_28 : decode cX8_isHijack 28 = .ok (.iconst (-1), 1) := by decide +kernel
theorem dX8_isHijack_29 : decode cX8_isHijack 29 = .ok (.if_icmp .eq 27, 3) := by decide +kernel
theorem dX8_isHijack_32 : decode cX8_isHijack 32 = .ok (.aload_n 0, 1) := by decide +kernel
theorem dX8_isHijack_33 : decode cX8_isHijack 33 = .ok (.getfield 19, 3) := by decide +kernel
theorem dX8_isHijack_36 : decode cX8_isHijack 36 = .ok (.iload 5, 2) := by decide +kernel
theorem dX8_isHijack_38 : decode cX8_isHijack 38 = .ok (.aload 4, 2) := by decide +kernel
theorem dX8_isHijack_40 : decode cX8_isHijack 40 = .ok (.getfield 155, 3) := by decide +kernel
theorem dX8_isHijack_43 : decode cX8_isHijack 43 = .ok (.invokevirtual 188, 3) := by decide +kernel
theorem dX8_isHijack_46 : decode cX8_isHijack 46 = .ok (.invokevirtual 191, 3) := by decide +kernel
theorem dX8_isHijack_49 : decode cX8_isHijack 49 = .ok (.ifCond .ne 7, 3) := by decide +kernel
theorem dX8_isHijack_52 : decode cX8_isHijack 52 = .ok (.iconst 1, 1) := by decide +kernel
theorem dX8_isHijack_53 : decode cX8_isHijack 53 = .ok (.goto 4, 3) := by decide +kernel
theorem dX8_isHijack_56 : decode cX8_isHijack 56 = .ok (.iconst 0, 1) := by decide +kernel
theorem dX8_isHijack_57 : decode cX8_isHijack 57 = .ok (.ireturn, 1) := by decide +kernel
theorem dX8_allow_0 : decode cX8_allow 0 = .ok (.aload_n 0, 1) := by decide +kernel
theorem dX8_allow_1 : decode cX8_allow 1 = .ok (.iload_n 1, 1) := by decide +kernel
theorem dX8_allow_2 : decode cX8_allow 2 = .ok (.iload_n 2, 1) := by decide +kernel
theorem dX8_allow_3 : decode cX8_allow 3 = .ok (.invokevirtual 92, 3) := by decide +kernel
theorem dX8_allow_6 : decode cX8_allow 6 = .ok (.astore 5, 2) := by decide +kernel
theorem dX8_allow_8 : decode cX8_allow 8 = .ok (.iload 4, 2) := by decide +kernel
theorem dX8_allow_10 : decode cX8_allow 10 = .ok (.invokestatic 61, 3) := by decide +kernel
theorem dX8_allow_13 : decode cX8_allow 13 = .ok (.ifCond .ne 13, 3) := by decide +kernel
theorem dX8_allow_16 : decode cX8_allow 16 = .ok (.new 48, 3) := by decide +kernel
theorem dX8_allow_19 : decode cX8_allow 19 = .ok (.dup, 1) := by decide +kernel
theorem dX8_allow_20 : decode cX8_allow 20 = .ok (.ldc 65, 2) := by decide +kernel
theorem dX8_allow_22 : decode cX8_allow 22 = .ok (.invokespecial 52, 3) := by decide +kernel
theorem dX8_allow_25 : decode cX8_allow 25 = .ok (.athrow, 1) := by decide +kernel
theorem dX8_allow_26 : decode cX8_allow 26 = .ok (.iload_n 3, 1) := by decide +kernel
theorem dX8_allow_27 : decode cX8_allow 27 = .ok (.iload_n 2, 1) := by decide +kernel
theorem dX8_allow_28 : decode cX8_allow 28 = .ok (.if_icmp .lt 9, 3) := by decide +kernel
theorem dX8_allow_31 : decode cX8_allow 31 = .ok (.iload_n 3, 1) := by decide +kernel
theorem dX8_allow_32 : decode cX8_allow 32 = .ok (.bipush 8, 2) := by decide +kernel
theorem dX8_allow_34 : decode cX8_allow 34 = .ok (.if_icmp .le 13, 3) := by decide +kernel
theorem dX8_allow_37 : decode cX8_allow 37 = .ok (.new 48, 3) := by decide +kernel
theorem dX8_allow_40 : decode cX8_allow 40 = .ok (.dup, 1) := by decide +kernel
theorem dX8_allow_41 : decode cX8_allow 41 = .ok (.ldc 195, 2) := by decide +kernel
theorem dX8_allow_43 : decode cX8_allow 43 = .ok (.invokespecial 52, 3) := by decide +kernel
theorem dX8_allow_46 : decode cX8_allow 46 = .ok (.athrow, 1) := by decide +kernel
theorem dX8_allow_47 : decode cX8_allow 47 = .ok (.new 197, 3) := by decide +kernel
theorem dX8_allow_50 : decode cX8_allow 50 = .ok (.dup, 1) := by decide +kernel
theorem dX8_allow_51 : decode cX8_allow 51 = .ok (.aload 5, 2) := by decide +kernel
theorem dX8_allow_53 : decode cX8_allow 53 = .ok (.iload_n 3, 1) := by decide +kernel
theorem dX8_allow_54 : decode cX8_allow 54 = .ok (.iload 4, 2) := by decide +kernel
theorem dX8_allow_56 : decode cX8_allow 56 = .ok (.invokespecial 199, 3) := by decide +kernel
theorem dX8_allow_59 : decode cX8_allow 59 = .ok (.astore 6, 2) := by decide +kernel
theorem dX8_allow_61 : decode cX8_allow 61 = .ok (.aload_n 0, 1) := by decide +kernel
theorem dX8_allow_62 : decode cX8_allow 62 = .ok (.getfield 33, 3) := by decide +kernel
theorem dX8_allow_65 : decode cX8_allow 65 = .ok (.aload 6, 2) := by decide +kernel
theorem dX8_allow_67 : decode cX8_allow 67 = .ok (.invokevirtual 202, 3) := by decide +kernel
theorem dX8_allow_70 : decode cX8_allow 70 = .ok (.istore 7, 2) := by decide +kernel
theorem dX8_allow_72 : decode cX8_allow 72 = .ok (.iload 7, 2) := by decide +kernel
theorem dX8_allow_74 : decode cX8_allow 74 = .ok (.iconst (-1), 1) := by decide +kernel
theorem dX8_allow_75 : decode cX8_allow 75 = .ok (.if_icmp .eq 14, 3) := by decide +kernel
theorem dX8_allow_78 : decode cX8_allow 78 = .ok (.aload_n 0, 1) := by decide +kernel
theorem dX8_allow_79 : decode cX8_allow 79 = .ok (.getfield 33, 3) := by decide +kernel
theorem dX8_allow_82 : decode cX8_allow 82 = .ok (.iload 7, 2) := by decide +kernel
theorem dX8_allow_84 : decode cX8_allow 84 = .ok (.invokevirtual 206, 3) := by decide +kernel
theorem dX8_allow_87 : decode cX8_allow 87 = .ok (.iconst 0, 1) := by decide +kernel
theorem dX8_allow_88 : decode cX8_allow 88 = .ok (.ireturn, 1) := by decide +kernel
theorem dX8_allow_89 : decode cX8_allow 89 = .ok (.aload_n 0, 1) := by decide +kernel
theorem dX8_allow_90 : decode cX8_allow 90 = .ok (.getfield 33, 3) := by decide +kernel
theorem dX8_allow_93 : decode cX8_allow 93 = .ok (.invokevirtual 209, 3) := by decide +kernel
theorem dX8_allow_96 : decode cX8_allow 96 = .ok (.ifCond .eq 13, 3) := by decide +kernel
theorem dX8_allow_99 : decode cX8_allow 99 = .ok (.new 56, 3) := by decide +kernel
theorem dX8_allow_102 : decode cX8_allow 102 = .ok (.dup, 1) := by decide +kernel
theorem dX8_allow_103 : decode cX8_allow 103 = .ok (.ldc 210, 2) := by decide +kernel
theorem dX8_allow_105 : decode cX8_allow 105 = .ok (.invokespecial 60, 3) := by decide +kernel
theorem dX8_allow_108 : decode cX8_allow 108 = .ok (.athrow, 1) := by decide +kernel
theorem dX8_allow_109 : decode cX8_allow 109 = .ok (.aload_n 0, 1) := by decide +kernel
theorem dX8_allow_110 : decode cX8_allow 110 = .ok (.getfield 33, 3) := by decide +kernel
theorem dX8_allow_113 : decode cX8_allow 113 = .ok (.aload 6, 2) := by decide +kernel
theorem dX8_allow_115 : decode cX8_allow 115 = .ok (.invokevirtual 212, 3) := by decide +kernel
theorem dX8_allow_118 : decode cX8_allow 118 = .ok (.iconst 1, 1) := by decide +kernel
theorem dX8_allow_119 : decode cX8_allow 119 = .ok (.ireturn, 1) := by decide +kernel
theorem dX8_verdict_0 : decode cX8_verdict 0 = .ok (.aload_n 0, 1) := by decide +kernel
theorem dX8_verdict_1 : decode cX8_verdict 1 = .ok (.getfield 33, 3) := by decide +kernel
theorem dX8_verdict_4 : decode cX8_verdict 4 = .ok (.aload_n 0, 1) := by decide +kernel
theorem dX8_verdict_5 : decode cX8_verdict 5 = .ok (.iload_n 1, 1) := by decide +kernel
theorem dX8_verdict_6 : decode cX8_verdict 6 = .ok (.iload_n 2, 1) := by decide +kernel
theorem dX8_verdict_7 : decode cX8_verdict 7 = .ok (.iload_n 3, 1) := by decide +kernel
theorem dX8_verdict_8 : decode cX8_verdict 8 = .ok (.invokevirtual 140, 3) := by decide +kernel
theorem dX8_verdict_11 : decode cX8_verdict 11 = .ok (.invokevirtual 215, 3) := by decide +kernel
theorem dX8_verdict_14 : decode cX8_verdict 14 = .ok (.ireturn, 1) := by decide +kernel
theorem dX8_relate_0 : decode cX8_relate 0 = .ok (.iload_n 1, 1) := by decide +kernel
theorem dX8_relate_1 : decode cX8_relate 1 = .ok (.invokestatic 61, 3) := by decide +kernel
theorem dX8_relate_4 : decode cX8_relate 4 = .ok (.ifCond .eq 15, 3) := by decide +kernel
theorem dX8_relate_7 : decode cX8_relate 7 = .ok (.iload_n 2, 1) := by decide +kernel
theorem dX8_relate_8 : decode cX8_relate 8 = .ok (.invokestatic 61, 3) := by decide +kernel
theorem dX8_relate_11 : decode cX8_relate 11 = .ok (.ifCond .eq 8, 3) := by decide +kernel
theorem dX8_relate_14 : decode cX8_relate 14 = .ok (.iload_n 1, 1) := by decide +kernel
theorem dX8_relate_15 : decode cX8_relate 15 = .ok (.iload_n 2, 1) := by decide +kernel
theorem dX8_relate_16 : decode cX8_relate 16 = .ok (.if_icmp .ne 13, 3) := by decide +kernel
theorem dX8_relate_19 : decode cX8_relate 19 = .ok (.new 48, 3) := by decide +kernel
theorem dX8_relate_22 : decode cX8_relate 22 = .ok (.dup, 1) := by decide +kernel
theorem dX8_relate_23 : decode cX8_relate 23 = .ok (.ldc 218, 2) := by decide +kernel
theorem dX8_relate_25 : decode cX8_relate 25 = .ok (.invokespecial 52, 3) := by decide +kernel
theorem dX8_relate_28 : decode cX8_relate 28 = .ok (.athrow, 1) := by decide +kernel
theorem dX8_relate_29 : decode cX8_relate 29 = .ok (.iload_n 3, 1) := by decide +kernel
theorem dX8_relate_30 : decode cX8_relate 30 = .ok (.ifCond .lt 8, 3) := by decide +kernel
theorem dX8_relate_33 : decode cX8_relate 33 = .ok (.iload_n 3, 1) := by decide +kernel
theorem dX8_relate_34 : decode cX8_relate 34 = .ok (.iconst 3, 1) := by decide +kernel
theorem dX8_relate_35 : decode cX8_relate 35 = .ok (.if_icmp .le 13, 3) := by decide +kernel
theorem dX8_relate_38 : decode cX8_relate 38 = .ok (.new 48, 3) := by decide +kernel
theorem dX8_relate_41 : decode cX8_relate 41 = .ok (.dup, 1) := by decide +kernel
theorem dX8_relate_42 : decode cX8_relate 42 = .ok (.ldc 220, 2) := by decide +kernel
theorem dX8_relate_44 : decode cX8_relate 44 = .ok (.invokespecial 52, 3) := by decide +kernel
theorem dX8_relate_47 : decode cX8_relate 47 = .ok (.athrow, 1) := by decide +kernel
theorem dX8_relate_48 : decode cX8_relate 48 = .ok (.aload_n 0, 1) := by decide +kernel
theorem dX8_relate_49 : decode cX8_relate 49 = .ok (.getfield 40, 3) := by decide +kernel
theorem dX8_relate_52 : decode cX8_relate 52 = .ok (.iload_n 1, 1) := by decide +kernel
theorem dX8_relate_53 : decode cX8_relate 53 = .ok (.iload_n 2, 1) := by decide +kernel
theorem dX8_relate_54 : decode cX8_relate 54 = .ok (.invokevirtual 222, 3) := by decide +kernel
theorem dX8_relate_57 : decode cX8_relate 57 = .ok (.istore 4, 2) := by decide +kernel
theorem dX8_relate_59 : decode cX8_relate 59 = .ok (.aload_n 0, 1) := by decide +kernel
theorem dX8_relate_60 : decode cX8_relate 60 = .ok (.getfield 40, 3) := by decide +kernel
theorem dX8_relate_63 : decode cX8_relate 63 = .ok (.iload_n 1, 1) := by decide +kernel
theorem dX8_relate_64 : decode cX8_relate 64 = .ok (.iload_n 2, 1) := by decide +kernel
theorem dX8_relate_65 : decode cX8_relate 65 = .ok (.iload_n 3, 1) := by decide +kernel
theorem dX8_relate_66 : decode cX8_relate 66 = .ok (.invokevirtual 226, 3) := by decide +kernel
theorem dX8_relate_69 : decode cX8_relate 69 = .ok (.aload_n 0, 1) := by decide +kernel
theorem dX8_relate_70 : decode cX8_relate 70 = .ok (.getfield 40, 3) := by decide +kernel
theorem dX8_relate_73 : decode cX8_relate 73 = .ok (.iload_n 2, 1) := by decide +kernel
theorem dX8_relate_74 : decode cX8_relate 74 = .ok (.iload_n 1, 1) := by decide +kernel
theorem dX8_relate_75 : decode cX8_relate 75 = .ok (.iload_n 3, 1) := by decide +kernel
theorem dX8_relate_76 : decode cX8_relate 76 = .ok (.invokestatic 229, 3) := by decide +kernel
theorem dX8_relate_79 : decode cX8_relate 79 = .ok (.invokevirtual 226, 3) := by decide +kernel
theorem dX8_relate_82 : decode cX8_relate 82 = .ok (.iload 4, 2) := by decide +kernel
theorem dX8_relate_84 : decode cX8_relate 84 = .ok (.ireturn, 1) := by decide +kernel
theorem dX8_valley_0 : decode cX8_valley 0 = .ok (.aload_n 0, 1) := by decide +kernel
theorem dX8_valley_1 : decode cX8_valley 1 = .ok (.getfield 40, 3) := by decide +kernel
theorem dX8_valley_4 : decode cX8_valley 4 = .ok (.aload_n 0, 1) := by decide +kernel
theorem dX8_valley_5 : decode cX8_valley 5 = .ok (.iload_n 1, 1) := by decide +kernel
theorem dX8_valley_6 : decode cX8_valley 6 = .ok (.iload_n 2, 1) := by decide +kernel
theorem dX8_valley_7 : decode cX8_valley 7 = .ok (.iload_n 3, 1) := by decide +kernel
theorem dX8_valley_8 : decode cX8_valley 8 = .ok (.invokevirtual 140, 3) := by decide +kernel
theorem dX8_valley_11 : decode cX8_valley 11 = .ok (.getfield 155, 3) := by decide +kernel
theorem dX8_valley_14 : decode cX8_valley 14 = .ok (.invokevirtual 232, 3) := by decide +kernel
theorem dX8_valley_17 : decode cX8_valley 17 = .ok (.ireturn, 1) := by decide +kernel
theorem dX8_lookUpAt_0 : decode cX8_lookUpAt 0 = .ok (.aload_n 0, 1) := by decide +kernel
theorem dX8_lookUpAt_1 : decode cX8_lookUpAt 1 = .ok (.iload_n 2, 1) := by decide +kernel
theorem dX8_lookUpAt_2 : decode cX8_lookUpAt 2 = .ok (.invokevirtual 165, 3) := by decide +kernel
theorem dX8_lookUpAt_5 : decode cX8_lookUpAt 5 = .ok (.aload_n 0, 1) := by decide +kernel
theorem dX8_lookUpAt_6 : decode cX8_lookUpAt 6 = .ok (.getfield 26, 3) := by decide +kernel
theorem dX8_lookUpAt_9 : decode cX8_lookUpAt 9 = .ok (.iload_n 2, 1) := by decide +kernel
theorem dX8_lookUpAt_10 : decode cX8_lookUpAt 10 = .ok (.aload_n 0, 1) := by decide +kernel
theorem dX8_lookUpAt_11 : decode cX8_lookUpAt 11 = .ok (.getfield 26, 3) := by decide +kernel
theorem dX8_lookUpAt_14 : decode cX8_lookUpAt 14 = .ok (.iload_n 1, 1) := by decide +kernel
theorem dX8_lookUpAt_15 : decode cX8_lookUpAt 15 = .ok (.invokevirtual 236, 3) := by decide +kernel
theorem dX8_lookUpAt_18 : decode cX8_lookUpAt 18 = .ok (.invokevirtual 171, 3) := by decide +kernel
theorem dX8_lookUpAt_21 : decode cX8_lookUpAt 21 = .ok (.invokestatic 174, 3) := by decide +kernel
theorem dX8_lookUpAt_24 : decode cX8_lookUpAt 24 = .ok (.ireturn, 1) := by decide +kernel
theorem dX8_originAt_0 : decode cX8_originAt 0 = .ok (.aload_n 0, 1) := by decide +kernel
theorem dX8_originAt_1 : decode cX8_originAt 1 = .ok (.iload_n 2, 1) := by decide +kernel
theorem dX8_originAt_2 : decode cX8_originAt 2 = .ok (.invokevirtual 165, 3) := by decide +kernel
theorem dX8_originAt_5 : decode cX8_originAt 5 = .ok (.aload_n 0, 1) := by decide +kernel
theorem dX8_originAt_6 : decode cX8_originAt 6 = .ok (.getfield 26, 3) := by decide +kernel
theorem dX8_originAt_9 : decode cX8_originAt 9 = .ok (.iload_n 2, 1) := by decide +kernel
theorem dX8_originAt_10 : decode cX8_originAt 10 = .ok (.aload_n 0, 1) := by decide +kernel
theorem dX8_originAt_11 : decode cX8_originAt 11 = .ok (.getfield 26, 3) := by decide +kernel
theorem dX8_originAt_14 : decode cX8_originAt 14 = .ok (.iload_n 1, 1) := by decide +kernel
theorem dX8_originAt_15 : decode cX8_originAt 15 = .ok (.invokevirtual 236, 3) := by decide +kernel
theorem dX8_originAt_18 : decode cX8_originAt 18 = .ok (.invokevirtual 171, 3) := by decide +kernel
theorem dX8_originAt_21 : decode cX8_originAt 21 = .ok (.astore_n 3, 1) := by decide +kernel
theorem dX8_originAt_22 : decode cX8_originAt 22 = .ok (.aload_n 3, 1) := by decide +kernel
theorem dX8_originAt_23 : decode cX8_originAt 23 = .ok (.ifnonnull 7, 3) := by decide +kernel
theorem dX8_originAt_26 : decode cX8_originAt 26 = .ok (.iconst (-1), 1) := by decide +kernel
theorem dX8_originAt_27 : decode cX8_originAt 27 = .ok (.goto 10, 3) := by decide +kernel
theorem dX8_originAt_30 : decode cX8_originAt 30 = .ok (.aload_n 3, 1) := by decide +kernel
theorem dX8_originAt_31 : decode cX8_originAt 31 = .ok (.getfield 155, 3) := by decide +kernel
theorem dX8_originAt_34 : decode cX8_originAt 34 = .ok (.invokevirtual 188, 3) := by decide +kernel
theorem dX8_originAt_37 : decode cX8_originAt 37 = .ok (.ireturn, 1) := by decide +kernel
theorem dX8_changes_0 : decode cX8_changes 0 = .ok (.aload_n 0, 1) := by decide +kernel
theorem dX8_changes_1 : decode cX8_changes 1 = .ok (.getfield 26, 3) := by decide +kernel
theorem dX8_changes_4 : decode cX8_changes 4 = .ok (.aload_n 0, 1) := by decide +kernel
theorem dX8_changes_5 : decode cX8_changes 5 = .ok (.getfield 26, 3) := by decide +kernel
theorem dX8_changes_8 : decode cX8_changes 8 = .ok (.iload_n 1, 1) := by decide +kernel
theorem dX8_changes_9 : decode cX8_changes 9 = .ok (.invokevirtual 236, 3) := by decide +kernel
theorem dX8_changes_12 : decode cX8_changes 12 = .ok (.aload_n 0, 1) := by decide +kernel
theorem dX8_changes_13 : decode cX8_changes 13 = .ok (.getfield 26, 3) := by decide +kernel
theorem dX8_changes_16 : decode cX8_changes 16 = .ok (.iload_n 2, 1) := by decide +kernel
theorem dX8_changes_17 : decode cX8_changes 17 = .ok (.invokevirtual 236, 3) := by decide +kernel
theorem dX8_changes_20 : decode cX8_changes 20 = .ok (.invokevirtual 239, 3) := by decide +kernel
theorem dX8_changes_23 : decode cX8_changes 23 = .ok (.ireturn, 1) := by decide +kernel
theorem dX8_needPeer_0 : decode cX8_needPeer 0 = .ok (.iload_n 1, 1) := by decide +kernel
theorem dX8_needPeer_1 : decode cX8_needPeer 1 = .ok (.invokestatic 242, 3) := by decide +kernel
theorem dX8_needPeer_4 : decode cX8_needPeer 4 = .ok (.ifCond .ne 13, 3) := by decide +kernel
theorem dX8_needPeer_7 : decode cX8_needPeer 7 = .ok (.new 150, 3) := by decide +kernel
theorem dX8_needPeer_10 : decode cX8_needPeer 10 = .ok (.dup, 1) := by decide +kernel
theorem dX8_needPeer_11 : decode cX8_needPeer 11 = .ok (.ldc 245, 2) := by decide +kernel
theorem dX8_needPeer_13 : decode cX8_needPeer 13 = .ok (.invokespecial 154, 3) := by decide +kernel
theorem dX8_needPeer_16 : decode cX8_needPeer 16 = .ok (.athrow, 1) := by decide +kernel
theorem dX8_needPeer_17 : decode cX8_needPeer 17 = .ok (.return_, 1) := by decide +kernel
theorem dX8_needAddress_0 : decode cX8_needAddress 0 = .ok (.iload_n 1, 1) := by decide +kernel
theorem dX8_needAddress_1 : decode cX8_needAddress 1 = .ok (.invokestatic 247, 3) := by decide +kernel
theorem dX8_needAddress_4 : decode cX8_needAddress 4 = .ok (.ifCond .ne 13, 3) := by decide +kernel
theorem dX8_needAddress_7 : decode cX8_needAddress 7 = .ok (.new 150, 3) := by decide +kernel
theorem dX8_needAddress_10 : decode cX8_needAddress 10 = .ok (.dup, 1) := by decide +kernel
theorem dX8_needAddress_11 : decode cX8_needAddress 11 = .ok (.ldc 250, 2) := by decide +kernel
theorem dX8_needAddress_13 : decode cX8_needAddress 13 = .ok (.invokespecial 154, 3) := by decide +kernel
theorem dX8_needAddress_16 : decode cX8_needAddress 16 = .ok (.athrow, 1) := by decide +kernel
theorem dX8_needAddress_17 : decode cX8_needAddress 17 = .ok (.return_, 1) := by decide +kernel
theorem dX8_needPrefix_0 : decode cX8_needPrefix 0 = .ok (.iload_n 1, 1) := by decide +kernel
theorem dX8_needPrefix_1 : decode cX8_needPrefix 1 = .ok (.iload_n 2, 1) := by decide +kernel
theorem dX8_needPrefix_2 : decode cX8_needPrefix 2 = .ok (.invokestatic 252, 3) := by decide +kernel
theorem dX8_needPrefix_5 : decode cX8_needPrefix 5 = .ok (.ifCond .ne 13, 3) := by decide +kernel
theorem dX8_needPrefix_8 : decode cX8_needPrefix 8 = .ok (.new 48, 3) := by decide +kernel
theorem dX8_needPrefix_11 : decode cX8_needPrefix 11 = .ok (.dup, 1) := by decide +kernel
theorem dX8_needPrefix_12 : decode cX8_needPrefix 12 = .ok (.ldc 255, 2) := by decide +kernel
theorem dX8_needPrefix_14 : decode cX8_needPrefix 14 = .ok (.invokespecial 52, 3) := by decide +kernel
theorem dX8_needPrefix_17 : decode cX8_needPrefix 17 = .ok (.athrow, 1) := by decide +kernel
theorem dX8_needPrefix_18 : decode cX8_needPrefix 18 = .ok (.new 109, 3) := by decide +kernel
theorem dX8_needPrefix_21 : decode cX8_needPrefix 21 = .ok (.dup, 1) := by decide +kernel
theorem dX8_needPrefix_22 : decode cX8_needPrefix 22 = .ok (.iload_n 1, 1) := by decide +kernel
theorem dX8_needPrefix_23 : decode cX8_needPrefix 23 = .ok (.iload_n 2, 1) := by decide +kernel
theorem dX8_needPrefix_24 : decode cX8_needPrefix 24 = .ok (.invokespecial 257, 3) := by decide +kernel
theorem dX8_needPrefix_27 : decode cX8_needPrefix 27 = .ok (.areturn, 1) := by decide +kernel
theorem dX8_needRoute_0 : decode cX8_needRoute 0 = .ok (.aload_n 0, 1) := by decide +kernel
theorem dX8_needRoute_1 : decode cX8_needRoute 1 = .ok (.iload_n 1, 1) := by decide +kernel
theorem dX8_needRoute_2 : decode cX8_needRoute 2 = .ok (.invokevirtual 89, 3) := by decide +kernel
theorem dX8_needRoute_5 : decode cX8_needRoute 5 = .ok (.aload_n 0, 1) := by decide +kernel
theorem dX8_needRoute_6 : decode cX8_needRoute 6 = .ok (.getfield 19, 3) := by decide +kernel
theorem dX8_needRoute_9 : decode cX8_needRoute 9 = .ok (.iload_n 1, 1) := by decide +kernel
theorem dX8_needRoute_10 : decode cX8_needRoute 10 = .ok (.aload_n 0, 1) := by decide +kernel
theorem dX8_needRoute_11 : decode cX8_needRoute 11 = .ok (.iload_n 2, 1) := by decide +kernel
theorem dX8_needRoute_12 : decode cX8_needRoute 12 = .ok (.iload_n 3, 1) := by decide +kernel
theorem dX8_needRoute_13 : decode cX8_needRoute 13 = .ok (.invokevirtual 92, 3) := by decide +kernel
theorem dX8_needRoute_16 : decode cX8_needRoute 16 = .ok (.getfield 108, 3) := by decide +kernel
theorem dX8_needRoute_19 : decode cX8_needRoute 19 = .ok (.invokevirtual 113, 3) := by decide +kernel
theorem dX8_needRoute_22 : decode cX8_needRoute 22 = .ok (.astore 4, 2) := by decide +kernel
theorem dX8_needRoute_24 : decode cX8_needRoute 24 = .ok (.aload 4, 2) := by decide +kernel
theorem dX8_needRoute_26 : decode cX8_needRoute 26 = .ok (.ifnonnull 14, 3) := by decide +kernel
theorem dX8_needRoute_29 : decode cX8_needRoute 29 = .ok (.new 260, 3) := by decide +kernel
theorem dX8_needRoute_32 : decode cX8_needRoute 32 = .ok (.dup, 1) := by decide +kernel
theorem dX8_needRoute_33 : decode cX8_needRoute 33 = .ok (.ldc_w 262, 3) := by decide +kernel
theorem dX8_needRoute_36 : decode cX8_needRoute 36 = .ok (.invokespecial 264, 3) := by decide +kernel
theorem dX8_needRoute_39 : decode cX8_needRoute 39 = .ok (.athrow, 1) := by decide +kernel
theorem dX8_needRoute_40 : decode cX8_needRoute 40 = .ok (.aload 4, 2) := by decide +kernel
theorem dX8_needRoute_42 : decode cX8_needRoute 42 = .ok (.areturn, 1) := by decide +kernel
theorem dX8_needRoomForUpdate_0 : decode cX8_needRoomForUpdate 0 = .ok (.aload_n 0, 1) := by decide +kernel
theorem dX8_needRoomForUpdate_1 : decode cX8_needRoomForUpdate 1 = .ok (.getfield 26, 3) := by decide +kernel
theorem dX8_needRoomForUpdate_4 : decode cX8_needRoomForUpdate 4 = .ok (.invokevirtual 265, 3) := by decide +kernel
theorem dX8_needRoomForUpdate_7 : decode cX8_needRoomForUpdate 7 = .ok (.ifCond .eq 14, 3) := by decide +kernel
theorem dX8_needRoomForUpdate_10 : decode cX8_needRoomForUpdate 10 = .ok (.new 56, 3) := by decide +kernel
theorem dX8_needRoomForUpdate_13 : decode cX8_needRoomForUpdate 13 = .ok (.dup, 1) := by decide +kernel
theorem dX8_needRoomForUpdate_14 : decode cX8_needRoomForUpdate 14 = .ok (.ldc_w 266, 3) := by decide +kernel
theorem dX8_needRoomForUpdate_17 : decode cX8_needRoomForUpdate 17 = .ok (.invokespecial 60, 3) := by decide +kernel
theorem dX8_needRoomForUpdate_20 : decode cX8_needRoomForUpdate 20 = .ok (.athrow, 1) := by decide +kernel
theorem dX8_needRoomForUpdate_21 : decode cX8_needRoomForUpdate 21 = .ok (.return_, 1) := by decide +kernel
theorem dX8_endRoute_0 : decode cX8_endRoute 0 = .ok (.aload_n 1, 1) := by decide +kernel
theorem dX8_endRoute_1 : decode cX8_endRoute 1 = .ok (.aload_n 0, 1) := by decide +kernel
theorem dX8_endRoute_2 : decode cX8_endRoute 2 = .ok (.getfield 26, 3) := by decide +kernel
theorem dX8_endRoute_5 : decode cX8_endRoute 5 = .ok (.invokevirtual 127, 3) := by decide +kernel
theorem dX8_endRoute_8 : decode cX8_endRoute 8 = .ok (.putfield 268, 3) := by decide +kernel
theorem dX8_endRoute_11 : decode cX8_endRoute 11 = .ok (.aload_n 0, 1) := by decide +kernel
theorem dX8_endRoute_12 : decode cX8_endRoute 12 = .ok (.getfield 19, 3) := by decide +kernel
theorem dX8_endRoute_15 : decode cX8_endRoute 15 = .ok (.aload_n 1, 1) := by decide +kernel
theorem dX8_endRoute_16 : decode cX8_endRoute 16 = .ok (.invokevirtual 271, 3) := by decide +kernel
theorem dX8_endRoute_19 : decode cX8_endRoute 19 = .ok (.return_, 1) := by decide +kernel
theorem dX8_networkOf_0 : decode cX8_networkOf 0 = .ok (.iload_n 0, 1) := by decide +kernel
theorem dX8_networkOf_1 : decode cX8_networkOf 1 = .ok (.iconst 1, 1) := by decide +kernel
theorem dX8_networkOf_2 : decode cX8_networkOf 2 = .ok (.iadd, 1) := by decide +kernel
theorem dX8_networkOf_3 : decode cX8_networkOf 3 = .ok (.ireturn, 1) := by decide +kernel
theorem dX8_lengthOf_0 : decode cX8_lengthOf 0 = .ok (.aload_n 0, 1) := by decide +kernel
theorem dX8_lengthOf_1 : decode cX8_lengthOf 1 = .ok (.ifnonnull 7, 3) := by decide +kernel
theorem dX8_lengthOf_4 : decode cX8_lengthOf 4 = .ok (.iconst (-1), 1) := by decide +kernel
theorem dX8_lengthOf_5 : decode cX8_lengthOf 5 = .ok (.goto 10, 3) := by decide +kernel
theorem dX8_lengthOf_8 : decode cX8_lengthOf 8 = .ok (.aload_n 0, 1) := by decide +kernel
theorem dX8_lengthOf_9 : decode cX8_lengthOf 9 = .ok (.getfield 181, 3) := by decide +kernel
theorem dX8_lengthOf_12 : decode cX8_lengthOf 12 = .ok (.getfield 274, 3) := by decide +kernel
theorem dX8_lengthOf_15 : decode cX8_lengthOf 15 = .ok (.ireturn, 1) := by decide +kernel
theorem dX8_reverseOf_0 : decode cX8_reverseOf 0 = .ok (.iload_n 0, 1) := by decide +kernel
theorem dX8_reverseOf_1 : decode cX8_reverseOf 1 = .ok (.lookupswitch 31 #[(1, 27), (3, 29)], 27) := by decide +kernel
theorem dX8_reverseOf_28 : decode cX8_reverseOf 28 = .ok (.iconst 3, 1) := by decide +kernel
theorem dX8_reverseOf_29 : decode cX8_reverseOf 29 = .ok (.ireturn, 1) := by decide +kernel
theorem dX8_reverseOf_30 : decode cX8_reverseOf 30 = .ok (.iconst 1, 1) := by decide +kernel
theorem dX8_reverseOf_31 : decode cX8_reverseOf 31 = .ok (.ireturn, 1) := by decide +kernel
theorem dX8_reverseOf_32 : decode cX8_reverseOf 32 = .ok (.iload_n 0, 1) := by decide +kernel
theorem dX8_reverseOf_33 : decode cX8_reverseOf 33 = .ok (.ireturn, 1) := by decide +kernel
theorem dX8_isPeer_0 : decode cX8_isPeer 0 = .ok (.iload_n 0, 1) := by decide +kernel
theorem dX8_isPeer_1 : decode cX8_isPeer 1 = .ok (.ifCond .lt 13, 3) := by decide +kernel
theorem dX8_isPeer_4 : decode cX8_isPeer 4 = .ok (.iload_n 0, 1) := by decide +kernel
theorem dX8_isPeer_5 : decode cX8_isPeer 5 = .ok (.bipush 6, 2) := by decide +kernel
theorem dX8_isPeer_7 : decode cX8_isPeer 7 = .ok (.if_icmp .ge 7, 3) := by decide +kernel
theorem dX8_isPeer_10 : decode cX8_isPeer 10 = .ok (.iconst 1, 1) := by decide +kernel
theorem dX8_isPeer_11 : decode cX8_isPeer 11 = .ok (.goto 4, 3) := by decide +kernel
theorem dX8_isPeer_14 : decode cX8_isPeer 14 = .ok (.iconst 0, 1) := by decide +kernel
theorem dX8_isPeer_15 : decode cX8_isPeer 15 = .ok (.ireturn, 1) := by decide +kernel
theorem dX8_isNetwork_0 : decode cX8_isNetwork 0 = .ok (.iload_n 0, 1) := by decide +kernel
theorem dX8_isNetwork_1 : decode cX8_isNetwork 1 = .ok (.iconst 1, 1) := by decide +kernel
theorem dX8_isNetwork_2 : decode cX8_isNetwork 2 = .ok (.if_icmp .lt 13, 3) := by decide +kernel
theorem dX8_isNetwork_5 : decode cX8_isNetwork 5 = .ok (.iload_n 0, 1) := by decide +kernel
theorem dX8_isNetwork_6 : decode cX8_isNetwork 6 = .ok (.bipush 30, 2) := by decide +kernel
theorem dX8_isNetwork_8 : decode cX8_isNetwork 8 = .ok (.if_icmp .gt 7, 3) := by decide +kernel
theorem dX8_isNetwork_11 : decode cX8_isNetwork 11 = .ok (.iconst 1, 1) := by decide +kernel
theorem dX8_isNetwork_12 : decode cX8_isNetwork 12 = .ok (.goto 4, 3) := by decide +kernel
theorem dX8_isNetwork_15 : decode cX8_isNetwork 15 = .ok (.iconst 0, 1) := by decide +kernel
theorem dX8_isNetwork_16 : decode cX8_isNetwork 16 = .ok (.ireturn, 1) := by decide +kernel
theorem dX8_isAddress_0 : decode cX8_isAddress 0 = .ok (.iload_n 0, 1) := by decide +kernel
theorem dX8_isAddress_1 : decode cX8_isAddress 1 = .ok (.ifCond .lt 14, 3) := by decide +kernel
theorem dX8_isAddress_4 : decode cX8_isAddress 4 = .ok (.iload_n 0, 1) := by decide +kernel
theorem dX8_isAddress_5 : decode cX8_isAddress 5 = .ok (.sipush 256, 3) := by decide +kernel
theorem dX8_isAddress_8 : decode cX8_isAddress 8 = .ok (.if_icmp .ge 7, 3) := by decide +kernel
theorem dX8_isAddress_11 : decode cX8_isAddress 11 = .ok (.iconst 1, 1) := by decide +kernel
theorem dX8_isAddress_12 : decode cX8_isAddress 12 = .ok (.goto 4, 3) := by decide +kernel
theorem dX8_isAddress_15 : decode cX8_isAddress 15 = .ok (.iconst 0, 1) := by decide +kernel
theorem dX8_isAddress_16 : decode cX8_isAddress 16 = .ok (.ireturn, 1) := by decide +kernel
theorem dX8_isPrefix_0 : decode cX8_isPrefix 0 = .ok (.iload_n 0, 1) := by decide +kernel
theorem dX8_isPrefix_1 : decode cX8_isPrefix 1 = .ok (.invokestatic 247, 3) := by decide +kernel
theorem dX8_isPrefix_4 : decode cX8_isPrefix 4 = .ok (.ifCond .eq 13, 3) := by decide +kernel
theorem dX8_isPrefix_7 : decode cX8_isPrefix 7 = .ok (.iload_n 1, 1) := by decide +kernel
theorem dX8_isPrefix_8 : decode cX8_isPrefix 8 = .ok (.ifCond .lt 9, 3) := by decide +kernel
theorem dX8_isPrefix_11 : decode cX8_isPrefix 11 = .ok (.iload_n 1, 1) := by decide +kernel
theorem dX8_isPrefix_12 : decode cX8_isPrefix 12 = .ok (.bipush 8, 2) := by decide +kernel
theorem dX8_isPrefix_14 : decode cX8_isPrefix 14 = .ok (.if_icmp .le 5, 3) := by decide +kernel
theorem dX8_isPrefix_17 : decode cX8_isPrefix 17 = .ok (.iconst 0, 1) := by decide +kernel
theorem dX8_isPrefix_18 : decode cX8_isPrefix 18 = .ok (.ireturn, 1) := by decide +kernel
theorem dX8_isPrefix_19 : decode cX8_isPrefix 19 = .ok (.iconst 1, 1) := by decide +kernel
theorem dX8_isPrefix_20 : decode cX8_isPrefix 20 = .ok (.bipush 8, 2) := by decide +kernel
theorem dX8_isPrefix_22 : decode cX8_isPrefix 22 = .ok (.iload_n 1, 1) := by decide +kernel
theorem dX8_isPrefix_23 : decode cX8_isPrefix 23 = .ok (.isub, 1) := by decide +kernel
theorem dX8_isPrefix_24 : decode cX8_isPrefix 24 = .ok (.ishl, 1) := by decide +kernel
theorem dX8_isPrefix_25 : decode cX8_isPrefix 25 = .ok (.iconst 1, 1) := by decide +kernel
theorem dX8_isPrefix_26 : decode cX8_isPrefix 26 = .ok (.isub, 1) := by decide +kernel
theorem dX8_isPrefix_27 : decode cX8_isPrefix 27 = .ok (.istore_n 2, 1) := by decide +kernel
theorem dX8_isPrefix_28 : decode cX8_isPrefix 28 = .ok (.iload_n 0, 1) := by decide +kernel
theorem dX8_isPrefix_29 : decode cX8_isPrefix 29 = .ok (.iload_n 2, 1) := by decide +kernel
theorem dX8_isPrefix_30 : decode cX8_isPrefix 30 = .ok (.iand, 1) := by decide +kernel
theorem dX8_isPrefix_31 : decode cX8_isPrefix 31 = .ok (.ifCond .ne 7, 3) := by decide +kernel
theorem dX8_isPrefix_34 : decode cX8_isPrefix 34 = .ok (.iconst 1, 1) := by decide +kernel
theorem dX8_isPrefix_35 : decode cX8_isPrefix 35 = .ok (.goto 4, 3) := by decide +kernel
theorem dX8_isPrefix_38 : decode cX8_isPrefix 38 = .ok (.iconst 0, 1) := by decide +kernel
theorem dX8_isPrefix_39 : decode cX8_isPrefix 39 = .ok (.ireturn, 1) := by decide +kernel
theorem dX8_isPrefixNumber_0 : decode cX8_isPrefixNumber 0 = .ok (.iload_n 0, 1) := by decide +kernel
theorem dX8_isPrefixNumber_1 : decode cX8_isPrefixNumber 1 = .ok (.iconst 1, 1) := by decide +kernel
theorem dX8_isPrefixNumber_2 : decode cX8_isPrefixNumber 2 = .ok (.if_icmp .lt 14, 3) := by decide +kernel
theorem dX8_isPrefixNumber_5 : decode cX8_isPrefixNumber 5 = .ok (.iload_n 0, 1) := by decide +kernel
theorem dX8_isPrefixNumber_6 : decode cX8_isPrefixNumber 6 = .ok (.sipush 512, 3) := by decide +kernel
theorem dX8_isPrefixNumber_9 : decode cX8_isPrefixNumber 9 = .ok (.if_icmp .ge 7, 3) := by decide +kernel
theorem dX8_isPrefixNumber_12 : decode cX8_isPrefixNumber 12 = .ok (.iconst 1, 1) := by decide +kernel
theorem dX8_isPrefixNumber_13 : decode cX8_isPrefixNumber 13 = .ok (.goto 4, 3) := by decide +kernel
theorem dX8_isPrefixNumber_16 : decode cX8_isPrefixNumber 16 = .ok (.iconst 0, 1) := by decide +kernel
theorem dX8_isPrefixNumber_17 : decode cX8_isPrefixNumber 17 = .ok (.ireturn, 1) := by decide +kernel
theorem dX8_prefixNumber_0 : decode cX8_prefixNumber 0 = .ok (.sipush 256, 3) := by decide +kernel
theorem dX8_prefixNumber_3 : decode cX8_prefixNumber 3 = .ok (.iload_n 0, 1) := by decide +kernel
theorem dX8_prefixNumber_4 : decode cX8_prefixNumber 4 = .ok (.iadd, 1) := by decide +kernel
theorem dX8_prefixNumber_5 : decode cX8_prefixNumber 5 = .ok (.bipush 8, 2) := by decide +kernel
theorem dX8_prefixNumber_7 : decode cX8_prefixNumber 7 = .ok (.iload_n 1, 1) := by decide +kernel
theorem dX8_prefixNumber_8 : decode cX8_prefixNumber 8 = .ok (.isub, 1) := by decide +kernel
theorem dX8_prefixNumber_9 : decode cX8_prefixNumber 9 = .ok (.ishr, 1) := by decide +kernel
theorem dX8_prefixNumber_10 : decode cX8_prefixNumber 10 = .ok (.ireturn, 1) := by decide +kernel
end
section
theorem dX9_init_0 : decode cX9_init 0 = .ok (.aload_n 0, 1) := by decide +kernel
theorem dX9_init_1 : decode cX9_init 1 = .ok (.invokespecial 1, 3) := by decide +kernel
theorem dX9_init_4 : decode cX9_init 4 = .ok (.aload_n 0, 1) := by decide +kernel
theorem dX9_init_5 : decode cX9_init 5 = .ok (.bipush 8, 2) := by decide +kernel
theorem dX9_init_7 : decode cX9_init 7 = .ok (.newarray .int, 2) := by decide +kernel
theorem dX9_init_9 : decode cX9_init 9 = .ok (.putfield 7, 3) := by decide +kernel
theorem dX9_init_12 : decode cX9_init 12 = .ok (.aload_n 0, 1) := by decide +kernel
theorem dX9_init_13 : decode cX9_init 13 = .ok (.sipush 300, 3) := by decide +kernel
theorem dX9_init_16 : decode cX9_init 16 = .ok (.newarray .int, 2) := by decide +kernel
theorem dX9_init_18 : decode cX9_init 18 = .ok (.putfield 13, 3) := by decide +kernel
theorem dX9_init_21 : decode cX9_init 21 = .ok (.aload_n 0, 1) := by decide +kernel
theorem dX9_init_22 : decode cX9_init 22 = .ok (.sipush 300, 3) := by decide +kernel
theorem dX9_init_25 : decode cX9_init 25 = .ok (.newarray .int, 2) := by decide +kernel
theorem dX9_init_27 : decode cX9_init 27 = .ok (.putfield 16, 3) := by decide +kernel
theorem dX9_init_30 : decode cX9_init 30 = .ok (.aload_n 0, 1) := by decide +kernel
theorem dX9_init_31 : decode cX9_init 31 = .ok (.sipush 300, 3) := by decide +kernel
theorem dX9_init_34 : decode cX9_init 34 = .ok (.newarray .int, 2) := by decide +kernel
theorem dX9_init_36 : decode cX9_init 36 = .ok (.putfield 19, 3) := by decide +kernel
theorem dX9_init_39 : decode cX9_init 39 = .ok (.aload_n 0, 1) := by decide +kernel
theorem dX9_init_40 : decode cX9_init 40 = .ok (.sipush 300, 3) := by decide +kernel
theorem dX9_init_43 : decode cX9_init 43 = .ok (.newarray .int, 2) := by decide +kernel
theorem dX9_init_45 : decode cX9_init 45 = .ok (.putfield 22, 3) := by decide +kernel
theorem dX9_init_48 : decode cX9_init 48 = .ok (.aload_n 0, 1) := by decide +kernel
theorem dX9_init_49 : decode cX9_init 49 = .ok (.sipush 2400, 3) := by decide +kernel
theorem dX9_init_52 : decode cX9_init 52 = .ok (.newarray .int, 2) := by decide +kernel
theorem dX9_init_54 : decode cX9_init 54 = .ok (.putfield 25, 3) := by decide +kernel
theorem dX9_init_57 : decode cX9_init 57 = .ok (.aload_n 0, 1) := by decide +kernel
theorem dX9_init_58 : decode cX9_init 58 = .ok (.sipush 9216, 3) := by decide +kernel
theorem dX9_init_61 : decode cX9_init 61 = .ok (.newarray .int, 2) := by decide +kernel
theorem dX9_init_63 : decode cX9_init 63 = .ok (.putfield 28, 3) := by decide +kernel
theorem dX9_init_66 : decode cX9_init 66 = .ok (.aload_n 0, 1) := by decide +kernel
theorem dX9_init_67 : decode cX9_init 67 = .ok (.bipush 20, 2) := by decide +kernel
theorem dX9_init_69 : decode cX9_init 69 = .ok (.newarray .int, 2) := by decide +kernel
theorem dX9_init_71 : decode cX9_init 71 = .ok (.putfield 31, 3) := by decide +kernel
theorem dX9_init_74 : decode cX9_init 74 = .ok (.aload_n 0, 1) := by decide +kernel
theorem dX9_init_75 : decode cX9_init 75 = .ok (.bipush 20, 2) := by decide +kernel
theorem dX9_init_77 : decode cX9_init 77 = .ok (.newarray .int, 2) := by decide +kernel
theorem dX9_init_79 : decode cX9_init 79 = .ok (.putfield 34, 3) := by decide +kernel
theorem dX9_init_82 : decode cX9_init 82 = .ok (.aload_n 0, 1) := by decide +kernel
theorem dX9_init_83 : decode cX9_init 83 = .ok (.bipush 20, 2) := by decide +kernel
theorem dX9_init_85 : decode cX9_init 85 = .ok (.newarray .int, 2) := by decide +kernel
theorem dX9_init_87 : decode cX9_init 87 = .ok (.putfield 37, 3) := by decide +kernel
theorem dX9_init_90 : decode cX9_init 90 = .ok (.aload_n 0, 1) := by decide +kernel
theorem dX9_init_91 : decode cX9_init 91 = .ok (.sipush 961, 3) := by decide +kernel
theorem dX9_init_94 : decode cX9_init 94 = .ok (.newarray .int, 2) := by decide +kernel
theorem dX9_init_96 : decode cX9_init 96 = .ok (.putfield 40, 3) := by decide +kernel
theorem dX9_init_99 : decode cX9_init 99 = .ok (.aload_n 0, 1) := by decide +kernel
theorem dX9_init_100 : decode cX9_init 100 = .ok (.iconst 0, 1) := by decide +kernel
theorem dX9_init_101 : decode cX9_init 101 = .ok (.invokevirtual 43, 3) := by decide +kernel
theorem dX9_init_104 : decode cX9_init 104 = .ok (.return_, 1) := by decide +kernel
theorem dX9_thrown_0 : decode cX9_thrown 0 = .ok (.aload_n 0, 1) := by decide +kernel
theorem dX9_thrown_1 : decode cX9_thrown 1 = .ok (.getfield 47, 3) := by decide +kernel
theorem dX9_thrown_4 : decode cX9_thrown 4 = .ok (.ireturn, 1) := by decide +kernel
theorem dX9_in_0 : decode cX9_in 0 = .ok (.iload_n 0, 1) := by decide +kernel
theorem dX9_in_1 : decode cX9_in 1 = .ok (.iload_n 1, 1) := by decide +kernel
theorem dX9_in_2 : decode cX9_in 2 = .ok (.if_icmp .lt 12, 3) := by decide +kernel
theorem dX9_in_5 : decode cX9_in 5 = .ok (.iload_n 0, 1) := by decide +kernel
theorem dX9_in_6 : decode cX9_in 6 = .ok (.iload_n 2, 1) := by decide +kernel
theorem dX9_in_7 : decode cX9_in 7 = .ok (.if_icmp .gt 7, 3) := by decide +kernel
theorem dX9_in_10 : decode cX9_in 10 = .ok (.iconst 1, 1) := by decide +kernel
theorem dX9_in_11 : decode cX9_in 11 = .ok (.goto 4, 3) := by decide +kernel
theorem dX9_in_14 : decode cX9_in 14 = .ok (.iconst 0, 1) := by decide +kernel
theorem dX9_in_15 : decode cX9_in 15 = .ok (.ireturn, 1) := by decide +kernel
theorem dX9_isPrefix_0 : decode cX9_isPrefix 0 = .ok (.iload_n 0, 1) := by decide +kernel
theorem dX9_isPrefix_1 : decode cX9_isPrefix 1 = .ok (.iconst 0, 1) := by decide +kernel
theorem dX9_isPrefix_2 : decode cX9_isPrefix 2 = .ok (.sipush 255, 3) := by decide +kernel
theorem dX9_isPrefix_5 : decode cX9_isPrefix 5 = .ok (.invokestatic 51, 3) := by decide +kernel
theorem dX9_isPrefix_8 : decode cX9_isPrefix 8 = .ok (.ifCond .eq 30, 3) := by decide +kernel
theorem dX9_isPrefix_11 : decode cX9_isPrefix 11 = .ok (.iload_n 1, 1) := by decide +kernel
theorem dX9_isPrefix_12 : decode cX9_isPrefix 12 = .ok (.iconst 0, 1) := by decide +kernel
theorem dX9_isPrefix_13 : decode cX9_isPrefix 13 = .ok (.bipush 8, 2) := by decide +kernel
theorem dX9_isPrefix_15 : decode cX9_isPrefix 15 = .ok (.invokestatic 51, 3) := by decide +kernel
theorem dX9_isPrefix_18 : decode cX9_isPrefix 18 = .ok (.ifCond .eq 20, 3) := by decide +kernel
theorem dX9_isPrefix_21 : decode cX9_isPrefix 21 = .ok (.iload_n 0, 1) := by decide +kernel
theorem dX9_isPrefix_22 : decode cX9_isPrefix 22 = .ok (.iconst 1, 1) := by decide +kernel
theorem dX9_isPrefix_23 : decode cX9_isPrefix 23 = .ok (.bipush 8, 2) := by decide +kernel
theorem dX9_isPrefix_25 : decode cX9_isPrefix 25 = .ok (.iload_n 1, 1) := by decide +kernel
theorem dX9_isPrefix_26 : decode cX9_isPrefix 26 = .ok (.isub, 1) := by decide +kernel
theorem dX9_isPrefix_27 : decode cX9_isPrefix 27 = .ok (.ishl, 1) := by decide +kernel
theorem dX9_isPrefix_28 : decode cX9_isPrefix 28 = .ok (.iconst 1, 1) := by decide +kernel
theorem dX9_isPrefix_29 : decode cX9_isPrefix 29 = .ok (.isub, 1) := by decide +kernel
theorem dX9_isPrefix_30 : decode cX9_isPrefix 30 = .ok (.iand, 1) := by decide +kernel
theorem dX9_isPrefix_31 : decode cX9_isPrefix 31 = .ok (.ifCond .ne 7, 3) := by decide +kernel
theorem dX9_isPrefix_34 : decode cX9_isPrefix 34 = .ok (.iconst 1, 1) := by decide +kernel
theorem dX9_isPrefix_35 : decode cX9_isPrefix 35 = .ok (.goto 4, 3) := by decide +kernel
theorem dX9_isPrefix_38 : decode cX9_isPrefix 38 = .ok (.iconst 0, 1) := by decide +kernel
theorem dX9_isPrefix_39 : decode cX9_isPrefix 39 = .ok (.ireturn, 1) := by decide +kernel
theorem dX9_prefixOf_0 : decode cX9_prefixOf 0 = .ok (.iconst 1, 1) := by decide +kernel
theorem dX9_prefixOf_1 : decode cX9_prefixOf 1 = .ok (.iload_n 1, 1) := by decide +kernel
theorem dX9_prefixOf_2 : decode cX9_prefixOf 2 = .ok (.ishl, 1) := by decide +kernel
theorem dX9_prefixOf_3 : decode cX9_prefixOf 3 = .ok (.iload_n 0, 1) := by decide +kernel
theorem dX9_prefixOf_4 : decode cX9_prefixOf 4 = .ok (.bipush 8, 2) := by decide +kernel
theorem dX9_prefixOf_6 : decode cX9_prefixOf 6 = .ok (.iload_n 1, 1) := by decide +kernel
theorem dX9_prefixOf_7 : decode cX9_prefixOf 7 = .ok (.isub, 1) := by decide +kernel
theorem dX9_prefixOf_8 : decode cX9_prefixOf 8 = .ok (.ishr, 1) := by decide +kernel
theorem dX9_prefixOf_9 : decode cX9_prefixOf 9 = .ok (.ior, 1) := by decide +kernel
theorem dX9_prefixOf_10 : decode cX9_prefixOf 10 = .ok (.ireturn, 1) := by decide +kernel
theorem dX9_lengthOf_0 : decode cX9_lengthOf 0 = .ok (.iconst 0, 1) := by decide +kernel
theorem dX9_lengthOf_1 : decode cX9_lengthOf 1 = .ok (.istore_n 1, 1) := by decide +kernel
theorem dX9_lengthOf_2 : decode cX9_lengthOf 2 = .ok (.iload_n 0, 1) := by decide +kernel
theorem dX9_lengthOf_3 : decode cX9_lengthOf 3 = .ok (.iload_n 1, 1) := by decide +kernel
theorem dX9_lengthOf_4 : decode cX9_lengthOf 4 = .ok (.ishr, 1) := by decide +kernel
theorem dX9_lengthOf_5 : decode cX9_lengthOf 5 = .ok (.iconst 1, 1) := by decide +kernel
theorem dX9_lengthOf_6 : decode cX9_lengthOf 6 = .ok (.if_icmp .le 9, 3) := by decide +kernel
theorem dX9_lengthOf_9 : decode cX9_lengthOf 9 = .ok (.iinc 1 1, 3) := by decide +kernel
theorem dX9_lengthOf_12 : decode cX9_lengthOf 12 = .ok (.goto (-10), 3) := by decide +kernel
theorem dX9_lengthOf_15 : decode cX9_lengthOf 15 = .ok (.iload_n 1, 1) := by decide +kernel
theorem dX9_lengthOf_16 : decode cX9_lengthOf 16 = .ok (.ireturn, 1) := by decide +kernel
theorem dX9_clearTable_0 : decode cX9_clearTable 0 = .ok (.iconst 0, 1) := by decide +kernel
theorem dX9_clearTable_1 : decode cX9_clearTable 1 = .ok (.istore_n 2, 1) := by decide +kernel
theorem dX9_clearTable_2 : decode cX9_clearTable 2 = .ok (.iload_n 2, 1) := by decide +kernel
theorem dX9_clearTable_3 : decode cX9_clearTable 3 = .ok (.sipush 3072, 3) := by decide +kernel
theorem dX9_clearTable_6 : decode cX9_clearTable 6 = .ok (.if_icmp .ge 22, 3) := by decide +kernel
theorem dX9_clearTable_9 : decode cX9_clearTable 9 = .ok (.aload_n 0, 1) := by decide +kernel
theorem dX9_clearTable_10 : decode cX9_clearTable 10 = .ok (.getfield 28, 3) := by decide +kernel
theorem dX9_clearTable_13 : decode cX9_clearTable 13 = .ok (.sipush 3072, 3) := by decide +kernel
theorem dX9_clearTable_16 : decode cX9_clearTable 16 = .ok (.iload_n 1, 1) := by decide +kernel
theorem dX9_clearTable_17 : decode cX9_clearTable 17 = .ok (.imul, 1) := by decide +kernel
theorem dX9_clearTable_18 : decode cX9_clearTable 18 = .ok (.iload_n 2, 1) := by decide +kernel
theorem dX9_clearTable_19 : decode cX9_clearTable 19 = .ok (.iadd, 1) := by decide +kernel
theorem dX9_clearTable_20 : decode cX9_clearTable 20 = .ok (.iconst (-1), 1) := by decide +kernel
theorem dX9_clearTable_21 : decode cX9_clearTable 21 = .ok (.iastore, 1) := by decide +kernel
theorem dX9_clearTable_22 : decode cX9_clearTable 22 = .ok (.iinc 2 1, 3) := by decide +kernel
theorem dX9_clearTable_25 : decode cX9_clearTable 25 = .ok (.goto (-23), 3) := by decide +kernel
theorem dX9_clearTable_28 : decode cX9_clearTable 28 = .ok (.return_, 1) := by decide +kernel
theorem dX9_placeOf_0 : decode cX9_placeOf 0 = .ok (.sipush 3072, 3) := by decide +kernel
theorem dX9_placeOf_3 : decode cX9_placeOf 3 = .ok (.iload_n 0, 1) := by decide +kernel
theorem dX9_placeOf_4 : decode cX9_placeOf 4 = .ok (.imul, 1) := by decide +kernel
theorem dX9_placeOf_5 : decode cX9_placeOf 5 = .ok (.sipush 512, 3) := by decide +kernel
theorem dX9_placeOf_8 : decode cX9_placeOf 8 = .ok (.iload_n 1, 1) := by decide +kernel
theorem dX9_placeOf_9 : decode cX9_placeOf 9 = .ok (.imul, 1) := by decide +kernel
theorem dX9_placeOf_10 : decode cX9_placeOf 10 = .ok (.iadd, 1) := by decide +kernel
theorem dX9_placeOf_11 : decode cX9_placeOf 11 = .ok (.iload_n 2, 1) := by decide +kernel
theorem dX9_placeOf_12 : decode cX9_placeOf 12 = .ok (.iadd, 1) := by decide +kernel
theorem dX9_placeOf_13 : decode cX9_placeOf 13 = .ok (.ireturn, 1) := by decide +kernel
theorem dX9_apply_0 : decode cX9_apply 0 = .ok (.aload_n 0, 1) := by decide +kernel
theorem dX9_apply_1 : decode cX9_apply 1 = .ok (.getfield 19, 3) := by decide +kernel
theorem dX9_apply_4 : decode cX9_apply 4 = .ok (.iload_n 2, 1) := by decide +kernel
theorem dX9_apply_5 : decode cX9_apply 5 = .ok (.iaload, 1) := by decide +kernel
theorem dX9_apply_6 : decode cX9_apply 6 = .ok (.ifCond .le 39, 3) := by decide +kernel
theorem dX9_apply_9 : decode cX9_apply 9 = .ok (.aload_n 0, 1) := by decide +kernel
theorem dX9_apply_10 : decode cX9_apply 10 = .ok (.getfield 28, 3) := by decide +kernel
theorem dX9_apply_13 : decode cX9_apply 13 = .ok (.iload_n 1, 1) := by decide +kernel
theorem dX9_apply_14 : decode cX9_apply 14 = .ok (.aload_n 0, 1) := by decide +kernel
theorem dX9_apply_15 : decode cX9_apply 15 = .ok (.getfield 16, 3) := by decide +kernel
theorem dX9_apply_18 : decode cX9_apply 18 = .ok (.iload_n 2, 1) := by decide +kernel
theorem dX9_apply_19 : decode cX9_apply 19 = .ok (.iaload, 1) := by decide +kernel
theorem dX9_apply_20 : decode cX9_apply 20 = .ok (.aload_n 0, 1) := by decide +kernel
theorem dX9_apply_21 : decode cX9_apply 21 = .ok (.getfield 19, 3) := by decide +kernel
theorem dX9_apply_24 : decode cX9_apply 24 = .ok (.iload_n 2, 1) := by decide +kernel
theorem dX9_apply_25 : decode cX9_apply 25 = .ok (.iaload, 1) := by decide +kernel
theorem dX9_apply_26 : decode cX9_apply 26 = .ok (.invokestatic 55, 3) := by decide +kernel
theorem dX9_apply_29 : decode cX9_apply 29 = .ok (.aload_n 0, 1) := by decide +kernel
theorem dX9_apply_30 : decode cX9_apply 30 = .ok (.getfield 22, 3) := by decide +kernel
theorem dX9_apply_33 : decode cX9_apply 33 = .ok (.iload_n 2, 1) := by decide +kernel
theorem dX9_apply_34 : decode cX9_apply 34 = .ok (.iaload, 1) := by decide +kernel
theorem dX9_apply_35 : decode cX9_apply 35 = .ok (.ifCond .le 7, 3) := by decide +kernel
theorem dX9_apply_38 : decode cX9_apply 38 = .ok (.iload_n 2, 1) := by decide +kernel
theorem dX9_apply_39 : decode cX9_apply 39 = .ok (.goto 4, 3) := by decide +kernel
theorem dX9_apply_42 : decode cX9_apply 42 = .ok (.iconst (-1), 1) := by decide +kernel
theorem dX9_apply_43 : decode cX9_apply 43 = .ok (.iastore, 1) := by decide +kernel
theorem dX9_apply_44 : decode cX9_apply 44 = .ok (.return_, 1) := by decide +kernel
theorem dX9_apply_45 : decode cX9_apply 45 = .ok (.iconst 0, 1) := by decide +kernel
theorem dX9_apply_46 : decode cX9_apply 46 = .ok (.istore_n 3, 1) := by decide +kernel
theorem dX9_apply_47 : decode cX9_apply 47 = .ok (.iload_n 3, 1) := by decide +kernel
theorem dX9_apply_48 : decode cX9_apply 48 = .ok (.sipush 512, 3) := by decide +kernel
theorem dX9_apply_51 : decode cX9_apply 51 = .ok (.if_icmp .ge 26, 3) := by decide +kernel
theorem dX9_apply_54 : decode cX9_apply 54 = .ok (.aload_n 0, 1) := by decide +kernel
theorem dX9_apply_55 : decode cX9_apply 55 = .ok (.getfield 28, 3) := by decide +kernel
theorem dX9_apply_58 : decode cX9_apply 58 = .ok (.iload_n 1, 1) := by decide +kernel
theorem dX9_apply_59 : decode cX9_apply 59 = .ok (.aload_n 0, 1) := by decide +kernel
theorem dX9_apply_60 : decode cX9_apply 60 = .ok (.getfield 16, 3) := by decide +kernel
theorem dX9_apply_63 : decode cX9_apply 63 = .ok (.iload_n 2, 1) := by decide +kernel
theorem dX9_apply_64 : decode cX9_apply 64 = .ok (.iaload, 1) := by decide +kernel
theorem dX9_apply_65 : decode cX9_apply 65 = .ok (.iload_n 3, 1) := by decide +kernel
theorem dX9_apply_66 : decode cX9_apply 66 = .ok (.invokestatic 55, 3) := by decide +kernel
theorem dX9_apply_69 : decode cX9_apply 69 = .ok (.iconst (-1), 1) := by decide +kernel
theorem dX9_apply_70 : decode cX9_apply 70 = .ok (.iastore, 1) := by decide +kernel
theorem dX9_apply_71 : decode cX9_apply 71 = .ok (.iinc 3 1, 3) := by decide +kernel
theorem dX9_apply_74 : decode cX9_apply 74 = .ok (.goto (-27), 3) := by decide +kernel
theorem dX9_apply_77 : decode cX9_apply 77 = .ok (.return_, 1) := by decide +kernel
theorem dX9_replay_0 : decode cX9_replay 0 = .ok (.aload_n 0, 1) := by decide +kernel
theorem dX9_replay_1 : decode cX9_replay 1 = .ok (.iload_n 1, 1) := by decide +kernel
theorem dX9_replay_2 : decode cX9_replay 2 = .ok (.invokevirtual 43, 3) := by decide +kernel
theorem dX9_replay_5 : decode cX9_replay 5 = .ok (.iconst 0, 1) := by decide +kernel
theorem dX9_replay_6 : decode cX9_replay 6 = .ok (.istore_n 3, 1) := by decide +kernel
theorem dX9_replay_7 : decode cX9_replay 7 = .ok (.iload_n 3, 1) := by decide +kernel
theorem dX9_replay_8 : decode cX9_replay 8 = .ok (.aload_n 0, 1) := by decide +kernel
theorem dX9_replay_9 : decode cX9_replay 9 = .ok (.getfield 59, 3) := by decide +kernel
theorem dX9_replay_12 : decode cX9_replay 12 = .ok (.if_icmp .ge 25, 3) := by decide +kernel
theorem dX9_replay_15 : decode cX9_replay 15 = .ok (.aload_n 0, 1) := by decide +kernel
theorem dX9_replay_16 : decode cX9_replay 16 = .ok (.getfield 13, 3) := by decide +kernel
theorem dX9_replay_19 : decode cX9_replay 19 = .ok (.iload_n 3, 1) := by decide +kernel
theorem dX9_replay_20 : decode cX9_replay 20 = .ok (.iaload, 1) := by decide +kernel
theorem dX9_replay_21 : decode cX9_replay 21 = .ok (.iload_n 2, 1) := by decide +kernel
theorem dX9_replay_22 : decode cX9_replay 22 = .ok (.if_icmp .gt 9, 3) := by decide +kernel
theorem dX9_replay_25 : decode cX9_replay 25 = .ok (.aload_n 0, 1) := by decide +kernel
theorem dX9_replay_26 : decode cX9_replay 26 = .ok (.iload_n 1, 1) := by decide +kernel
theorem dX9_replay_27 : decode cX9_replay 27 = .ok (.iload_n 3, 1) := by decide +kernel
theorem dX9_replay_28 : decode cX9_replay 28 = .ok (.invokevirtual 62, 3) := by decide +kernel
theorem dX9_replay_31 : decode cX9_replay 31 = .ok (.iinc 3 1, 3) := by decide +kernel
theorem dX9_replay_34 : decode cX9_replay 34 = .ok (.goto (-27), 3) := by decide +kernel
theorem dX9_replay_37 : decode cX9_replay 37 = .ok (.return_, 1) := by decide +kernel
theorem dX9_routesOf_0 : decode cX9_routesOf 0 = .ok (.iconst 0, 1) := by decide +kernel
theorem dX9_routesOf_1 : decode cX9_routesOf 1 = .ok (.istore_n 2, 1) := by decide +kernel
theorem dX9_routesOf_2 : decode cX9_routesOf 2 = .ok (.iconst 1, 1) := by decide +kernel
theorem dX9_routesOf_3 : decode cX9_routesOf 3 = .ok (.istore_n 3, 1) := by decide +kernel
theorem dX9_routesOf_4 : decode cX9_routesOf 4 = .ok (.iload_n 3, 1) := by decide +kernel
theorem dX9_routesOf_5 : decode cX9_routesOf 5 = .ok (.sipush 512, 3) := by decide +kernel
theorem dX9_routesOf_8 : decode cX9_routesOf 8 = .ok (.if_icmp .ge 32, 3) := by decide +kernel
theorem dX9_routesOf_11 : decode cX9_routesOf 11 = .ok (.iload_n 2, 1) := by decide +kernel
theorem dX9_routesOf_12 : decode cX9_routesOf 12 = .ok (.aload_n 0, 1) := by decide +kernel
theorem dX9_routesOf_13 : decode cX9_routesOf 13 = .ok (.getfield 28, 3) := by decide +kernel
theorem dX9_routesOf_16 : decode cX9_routesOf 16 = .ok (.iconst 0, 1) := by decide +kernel
theorem dX9_routesOf_17 : decode cX9_routesOf 17 = .ok (.iload_n 1, 1) := by decide +kernel
theorem dX9_routesOf_18 : decode cX9_routesOf 18 = .ok (.iload_n 3, 1) := by decide +kernel
theorem dX9_routesOf_19 : decode cX9_routesOf 19 = .ok (.invokestatic 55, 3) := by decide +kernel
theorem dX9_routesOf_22 : decode cX9_routesOf 22 = .ok (.iaload, 1) := by decide +kernel
theorem dX9_routesOf_23 : decode cX9_routesOf 23 = .ok (.iconst (-1), 1) := by decide +kernel
theorem dX9_routesOf_24 : decode cX9_routesOf 24 = .ok (.if_icmp .ne 7, 3) := by decide +kernel
theorem dX9_routesOf_27 : decode cX9_routesOf 27 = .ok (.iconst 0, 1) := by decide +kernel
theorem dX9_routesOf_28 : decode cX9_routesOf 28 = .ok (.goto 4, 3) := by decide +kernel
theorem dX9_routesOf_31 : decode cX9_routesOf 31 = .ok (.iconst 1, 1) := by decide +kernel
theorem dX9_routesOf_32 : decode cX9_routesOf 32 = .ok (.iadd, 1) := by decide +kernel
theorem dX9_routesOf_33 : decode cX9_routesOf 33 = .ok (.istore_n 2, 1) := by decide +kernel
theorem dX9_routesOf_34 : decode cX9_routesOf 34 = .ok (.iinc 3 1, 3) := by decide +kernel
theorem dX9_routesOf_37 : decode cX9_routesOf 37 = .ok (.goto (-33), 3) := by decide +kernel
theorem dX9_routesOf_40 : decode cX9_routesOf 40 = .ok (.iload_n 2, 1) := by decide +kernel
theorem dX9_routesOf_41 : decode cX9_routesOf 41 = .ok (.ireturn, 1) := by decide +kernel
theorem dX9_best_0 : decode cX9_best 0 = .ok (.iconst (-1), 1) := by decide +kernel
theorem dX9_best_1 : decode cX9_best 1 = .ok (.istore_n 3, 1) := by decide +kernel
theorem dX9_best_2 : decode cX9_best 2 = .ok (.iconst 0, 1) := by decide +kernel
theorem dX9_best_3 : decode cX9_best 3 = .ok (.istore 4, 2) := by decide +kernel
theorem dX9_best_5 : decode cX9_best 5 = .ok (.iload 4, 2) := by decide +kernel
theorem dX9_best_7 : decode cX9_best 7 = .ok (.bipush 6, 2) := by decide +kernel
theorem dX9_best_9 : decode cX9_best 9 = .ok (.if_icmp .ge 57, 3) := by decide +kernel
theorem dX9_best_12 : decode cX9_best 12 = .ok (.aload_n 0, 1) := by decide +kernel
theorem dX9_best_13 : decode cX9_best 13 = .ok (.getfield 28, 3) := by decide +kernel
theorem dX9_best_16 : decode cX9_best 16 = .ok (.iload_n 1, 1) := by decide +kernel
theorem dX9_best_17 : decode cX9_best 17 = .ok (.iload 4, 2) := by decide +kernel
theorem dX9_best_19 : decode cX9_best 19 = .ok (.iload_n 2, 1) := by decide +kernel
theorem dX9_best_20 : decode cX9_best 20 = .ok (.invokestatic 55, 3) := by decide +kernel
theorem dX9_best_23 : decode cX9_best 23 = .ok (.iaload, 1) := by decide +kernel
theorem dX9_best_24 : decode cX9_best 24 = .ok (.istore 5, 2) := by decide +kernel
theorem dX9_best_26 : decode cX9_best 26 = .ok (.iload 5, 2) := by decide +kernel
theorem dX9_best_28 : decode cX9_best 28 = .ok (.iconst (-1), 1) := by decide +kernel
theorem dX9_best_29 : decode cX9_best 29 = .ok (.if_icmp .eq 29, 3) := by decide +kernel
theorem dX9_best_32 : decode cX9_best 32 = .ok (.iload_n 3, 1) := by decide +kernel
theorem dX9_best_33 : decode cX9_best 33 = .ok (.iconst (-1), 1) := by decide +kernel
theorem dX9_best_34 : decode cX9_best 34 = .ok (.if_icmp .eq 19, 3) := by decide +kernel
theorem dX9_best_37 : decode cX9_best 37 = .ok (.aload_n 0, 1) := by decide +kernel
theorem dX9_best_38 : decode cX9_best 38 = .ok (.getfield 22, 3) := by decide +kernel
theorem dX9_best_41 : decode cX9_best 41 = .ok (.iload 5, 2) := by decide +kernel
theorem dX9_best_43 : decode cX9_best 43 = .ok (.iaload, 1) := by decide +kernel
theorem dX9_best_44 : decode cX9_best 44 = .ok (.aload_n 0, 1) := by decide +kernel
theorem dX9_best_45 : decode cX9_best 45 = .ok (.getfield 22, 3) := by decide +kernel
theorem dX9_best_48 : decode cX9_best 48 = .ok (.iload_n 3, 1) := by decide +kernel
theorem dX9_best_49 : decode cX9_best 49 = .ok (.iaload, 1) := by decide +kernel
theorem dX9_best_50 : decode cX9_best 50 = .ok (.if_icmp .ge 8, 3) := by decide +kernel
theorem dX9_best_53 : decode cX9_best 53 = .ok (.iload 5, 2) := by decide +kernel
theorem dX9_best_55 : decode cX9_best 55 = .ok (.goto 4, 3) := by decide +kernel
theorem dX9_best_58 : decode cX9_best 58 = .ok (.iload_n 3, 1) := by decide +kernel
theorem dX9_best_59 : decode cX9_best 59 = .ok (.istore_n 3, 1) := by decide +kernel
theorem dX9_best_60 : decode cX9_best 60 = .ok (.iinc 4 1, 3) := by decide +kernel
theorem dX9_best_63 : decode cX9_best 63 = .ok (.goto (-58), 3) := by decide +kernel
theorem dX9_best_66 : decode cX9_best 66 = .ok (.iload_n 3, 1) := by decide +kernel
theorem dX9_best_67 : decode cX9_best 67 = .ok (.ireturn, 1) := by decide +kernel
theorem dX9_found_0 : decode cX9_found 0 = .ok (.bipush 8, 2) := by decide +kernel
theorem dX9_found_2 : decode cX9_found 2 = .ok (.istore_n 3, 1) := by decide +kernel
theorem dX9_found_3 : decode cX9_found 3 = .ok (.iload_n 3, 1) := by decide +kernel
theorem dX9_found_4 : decode cX9_found 4 = .ok (.ifCond .lt 29, 3) := by decide +kernel
theorem dX9_found_7 : decode cX9_found 7 = .ok (.aload_n 0, 1) := by decide +kernel
theorem dX9_found_8 : decode cX9_found 8 = .ok (.iload_n 1, 1) := by decide +kernel
theorem dX9_found_9 : decode cX9_found 9 = .ok (.iload_n 2, 1) := by decide +kernel
theorem dX9_found_10 : decode cX9_found 10 = .ok (.iload_n 3, 1) := by decide +kernel
theorem dX9_found_11 : decode cX9_found 11 = .ok (.invokestatic 66, 3) := by decide +kernel
theorem dX9_found_14 : decode cX9_found 14 = .ok (.invokevirtual 70, 3) := by decide +kernel
theorem dX9_found_17 : decode cX9_found 17 = .ok (.iconst (-1), 1) := by decide +kernel
theorem dX9_found_18 : decode cX9_found 18 = .ok (.if_icmp .eq 9, 3) := by decide +kernel
theorem dX9_found_21 : decode cX9_found 21 = .ok (.iload_n 2, 1) := by decide +kernel
theorem dX9_found_22 : decode cX9_found 22 = .ok (.iload_n 3, 1) := by decide +kernel
theorem dX9_found_23 : decode cX9_found 23 = .ok (.invokestatic 66, 3) := by decide +kernel
theorem dX9_found_26 : decode cX9_found 26 = .ok (.ireturn, 1) := by decide +kernel
theorem dX9_found_27 : decode cX9_found 27 = .ok (.iinc 3 (-1), 3) := by decide +kernel
theorem dX9_found_30 : decode cX9_found 30 = .ok (.goto (-27), 3) := by decide +kernel
theorem dX9_found_33 : decode cX9_found 33 = .ok (.iconst 0, 1) := by decide +kernel
theorem dX9_found_34 : decode cX9_found 34 = .ok (.ireturn, 1) := by decide +kernel
theorem dX9_origin_0 : decode cX9_origin 0 = .ok (.aload_n 0, 1) := by decide +kernel
theorem dX9_origin_1 : decode cX9_origin 1 = .ok (.getfield 25, 3) := by decide +kernel
theorem dX9_origin_4 : decode cX9_origin 4 = .ok (.bipush 8, 2) := by decide +kernel
theorem dX9_origin_6 : decode cX9_origin 6 = .ok (.iload_n 1, 1) := by decide +kernel
theorem dX9_origin_7 : decode cX9_origin 7 = .ok (.imul, 1) := by decide +kernel
theorem dX9_origin_8 : decode cX9_origin 8 = .ok (.aload_n 0, 1) := by decide +kernel
theorem dX9_origin_9 : decode cX9_origin 9 = .ok (.getfield 22, 3) := by decide +kernel
theorem dX9_origin_12 : decode cX9_origin 12 = .ok (.iload_n 1, 1) := by decide +kernel
theorem dX9_origin_13 : decode cX9_origin 13 = .ok (.iaload, 1) := by decide +kernel
theorem dX9_origin_14 : decode cX9_origin 14 = .ok (.iadd, 1) := by decide +kernel
theorem dX9_origin_15 : decode cX9_origin 15 = .ok (.iconst 1, 1) := by decide +kernel
theorem dX9_origin_16 : decode cX9_origin 16 = .ok (.isub, 1) := by decide +kernel
theorem dX9_origin_17 : decode cX9_origin 17 = .ok (.iaload, 1) := by decide +kernel
theorem dX9_origin_18 : decode cX9_origin 18 = .ok (.ireturn, 1) := by decide +kernel
theorem dX9_pass_0 : decode cX9_pass 0 = .ok (.aload_n 0, 1) := by decide +kernel
theorem dX9_pass_1 : decode cX9_pass 1 = .ok (.iload_n 1, 1) := by decide +kernel
theorem dX9_pass_2 : decode cX9_pass 2 = .ok (.iconst 1, 1) := by decide +kernel
theorem dX9_pass_3 : decode cX9_pass 3 = .ok (.sipush 1000, 3) := by decide +kernel
theorem dX9_pass_6 : decode cX9_pass 6 = .ok (.invokestatic 51, 3) := by decide +kernel
theorem dX9_pass_9 : decode cX9_pass 9 = .ok (.ifCond .ne 7, 3) := by decide +kernel
theorem dX9_pass_12 : decode cX9_pass 12 = .ok (.iconst 1, 1) := by decide +kernel
theorem dX9_pass_13 : decode cX9_pass 13 = .ok (.goto 19, 3) := by decide +kernel
theorem dX9_pass_16 : decode cX9_pass 16 = .ok (.aload_n 0, 1) := by decide +kernel
theorem dX9_pass_17 : decode cX9_pass 17 = .ok (.getfield 73, 3) := by decide +kernel
theorem dX9_pass_20 : decode cX9_pass 20 = .ok (.iload_n 1, 1) := by decide +kernel
theorem dX9_pass_21 : decode cX9_pass 21 = .ok (.iadd, 1) := by decide +kernel
theorem dX9_pass_22 : decode cX9_pass 22 = .ok (.ldc 76, 2) := by decide +kernel
theorem dX9_pass_24 : decode cX9_pass 24 = .ok (.if_icmp .le 7, 3) := by decide +kernel
theorem dX9_pass_27 : decode cX9_pass 27 = .ok (.iconst 2, 1) := by decide +kernel
theorem dX9_pass_28 : decode cX9_pass 28 = .ok (.goto 4, 3) := by decide +kernel
theorem dX9_pass_31 : decode cX9_pass 31 = .ok (.iconst 0, 1) := by decide +kernel
theorem dX9_pass_32 : decode cX9_pass 32 = .ok (.putfield 47, 3) := by decide +kernel
theorem dX9_pass_35 : decode cX9_pass 35 = .ok (.aload_n 0, 1) := by decide +kernel
theorem dX9_pass_36 : decode cX9_pass 36 = .ok (.getfield 47, 3) := by decide +kernel
theorem dX9_pass_39 : decode cX9_pass 39 = .ok (.ifCond .le 5, 3) := by decide +kernel
theorem dX9_pass_42 : decode cX9_pass 42 = .ok (.iconst 0, 1) := by decide +kernel
theorem dX9_pass_43 : decode cX9_pass 43 = .ok (.ireturn, 1) := by decide +kernel
theorem dX9_pass_44 : decode cX9_pass 44 = .ok (.aload_n 0, 1) := by decide +kernel
theorem dX9_pass_45 : decode cX9_pass 45 = .ok (.dup, 1) := by decide +kernel
theorem dX9_pass_46 : decode cX9_pass 46 = .ok (.getfield 73, 3) := by decide +kernel
theorem dX9_pass_49 : decode cX9_pass 49 = .ok (.iload_n 1, 1) := by decide +kernel
theorem dX9_pass_50 : decode cX9_pass 50 = .ok (.iadd, 1) := by decide +kernel
theorem dX9_pass_51 : decode cX9_pass 51 = .ok (.putfield 73, 3) := by decide +kernel
theorem dX9_pass_54 : decode cX9_pass 54 = .ok (.aload_n 0, 1) := by decide +kernel
theorem dX9_pass_55 : decode cX9_pass 55 = .ok (.getfield 73, 3) := by decide +kernel
theorem dX9_pass_58 : decode cX9_pass 58 = .ok (.ireturn, 1) := by decide +kernel
theorem dX9_now_0 : decode cX9_now 0 = .ok (.aload_n 0, 1) := by decide +kernel
theorem dX9_now_1 : decode cX9_now 1 = .ok (.iconst 0, 1) := by decide +kernel
theorem dX9_now_2 : decode cX9_now 2 = .ok (.putfield 47, 3) := by decide +kernel
theorem dX9_now_5 : decode cX9_now 5 = .ok (.aload_n 0, 1) := by decide +kernel
theorem dX9_now_6 : decode cX9_now 6 = .ok (.getfield 73, 3) := by decide +kernel
theorem dX9_now_9 : decode cX9_now 9 = .ok (.ireturn, 1) := by decide +kernel
theorem dX9_hop_0 : decode cX9_hop 0 = .ok (.aload_n 0, 1) := by decide +kernel
theorem dX9_hop_1 : decode cX9_hop 1 = .ok (.iload_n 1, 1) := by decide +kernel
theorem dX9_hop_2 : decode cX9_hop 2 = .ok (.iconst 1, 1) := by decide +kernel
theorem dX9_hop_3 : decode cX9_hop 3 = .ok (.bipush 30, 2) := by decide +kernel
theorem dX9_hop_5 : decode cX9_hop 5 = .ok (.invokestatic 51, 3) := by decide +kernel
theorem dX9_hop_8 : decode cX9_hop 8 = .ok (.ifCond .ne 7, 3) := by decide +kernel
theorem dX9_hop_11 : decode cX9_hop 11 = .ok (.iconst 1, 1) := by decide +kernel
theorem dX9_hop_12 : decode cX9_hop 12 = .ok (.goto 17, 3) := by decide +kernel
theorem dX9_hop_15 : decode cX9_hop 15 = .ok (.aload_n 0, 1) := by decide +kernel
theorem dX9_hop_16 : decode cX9_hop 16 = .ok (.getfield 77, 3) := by decide +kernel
theorem dX9_hop_19 : decode cX9_hop 19 = .ok (.bipush 8, 2) := by decide +kernel
theorem dX9_hop_21 : decode cX9_hop 21 = .ok (.if_icmp .ne 7, 3) := by decide +kernel
theorem dX9_hop_24 : decode cX9_hop 24 = .ok (.iconst 2, 1) := by decide +kernel
theorem dX9_hop_25 : decode cX9_hop 25 = .ok (.goto 4, 3) := by decide +kernel
theorem dX9_hop_28 : decode cX9_hop 28 = .ok (.iconst 0, 1) := by decide +kernel
theorem dX9_hop_29 : decode cX9_hop 29 = .ok (.putfield 47, 3) := by decide +kernel
theorem dX9_hop_32 : decode cX9_hop 32 = .ok (.iconst 0, 1) := by decide +kernel
theorem dX9_hop_33 : decode cX9_hop 33 = .ok (.istore_n 2, 1) := by decide +kernel
theorem dX9_hop_34 : decode cX9_hop 34 = .ok (.iload_n 2, 1) := by decide +kernel
theorem dX9_hop_35 : decode cX9_hop 35 = .ok (.aload_n 0, 1) := by decide +kernel
theorem dX9_hop_36 : decode cX9_hop 36 = .ok (.getfield 77, 3) := by decide +kernel
theorem dX9_hop_39 : decode cX9_hop 39 = .ok (.if_icmp .ge 50, 3) := by decide +kernel
theorem dX9_hop_42 : decode cX9_hop 42 = .ok (.aload_n 0, 1) := by decide +kernel
theorem dX9_hop_43 : decode cX9_hop 43 = .ok (.getfield 47, 3) := by decide +kernel
theorem dX9_hop_46 : decode cX9_hop 46 = .ok (.ifCond .ne 43, 3) := by decide +kernel
theorem dX9_hop_49 : decode cX9_hop 49 = .ok (.aload_n 0, 1) := by decide +kernel
theorem dX9_hop_50 : decode cX9_hop 50 = .ok (.aload_n 0, 1) := by decide +kernel
theorem dX9_hop_51 : decode cX9_hop 51 = .ok (.getfield 7, 3) := by decide +kernel
theorem dX9_hop_54 : decode cX9_hop 54 = .ok (.iload_n 2, 1) := by decide +kernel
theorem dX9_hop_55 : decode cX9_hop 55 = .ok (.iaload, 1) := by decide +kernel
theorem dX9_hop_56 : decode cX9_hop 56 = .ok (.iload_n 1, 1) := by decide +kernel
theorem dX9_hop_57 : decode cX9_hop 57 = .ok (.if_icmp .ne 22, 3) := by decide +kernel
theorem dX9_hop_60 : decode cX9_hop 60 = .ok (.aload_n 0, 1) := by decide +kernel
theorem dX9_hop_61 : decode cX9_hop 61 = .ok (.getfield 7, 3) := by decide +kernel
theorem dX9_hop_64 : decode cX9_hop 64 = .ok (.aload_n 0, 1) := by decide +kernel
theorem dX9_hop_65 : decode cX9_hop 65 = .ok (.getfield 77, 3) := by decide +kernel
theorem dX9_hop_68 : decode cX9_hop 68 = .ok (.iconst 1, 1) := by decide +kernel
theorem dX9_hop_69 : decode cX9_hop 69 = .ok (.isub, 1) := by decide +kernel
theorem dX9_hop_70 : decode cX9_hop 70 = .ok (.iaload, 1) := by decide +kernel
theorem dX9_hop_71 : decode cX9_hop 71 = .ok (.iload_n 1, 1) := by decide +kernel
theorem dX9_hop_72 : decode cX9_hop 72 = .ok (.if_icmp .eq 7, 3) := by decide +kernel
theorem dX9_hop_75 : decode cX9_hop 75 = .ok (.iconst 2, 1) := by decide +kernel
theorem dX9_hop_76 : decode cX9_hop 76 = .ok (.goto 4, 3) := by decide +kernel
theorem dX9_hop_79 : decode cX9_hop 79 = .ok (.iconst 0, 1) := by decide +kernel
theorem dX9_hop_80 : decode cX9_hop 80 = .ok (.putfield 47, 3) := by decide +kernel
theorem dX9_hop_83 : decode cX9_hop 83 = .ok (.iinc 2 1, 3) := by decide +kernel
theorem dX9_hop_86 : decode cX9_hop 86 = .ok (.goto (-52), 3) := by decide +kernel
theorem dX9_hop_89 : decode cX9_hop 89 = .ok (.aload_n 0, 1) := by decide +kernel
theorem dX9_hop_90 : decode cX9_hop 90 = .ok (.getfield 47, 3) := by decide +kernel
theorem dX9_hop_93 : decode cX9_hop 93 = .ok (.ifCond .le 5, 3) := by decide +kernel
theorem dX9_hop_96 : decode cX9_hop 96 = .ok (.iconst 0, 1) := by decide +kernel
theorem dX9_hop_97 : decode cX9_hop 97 = .ok (.ireturn, 1) := by decide +kernel
theorem dX9_hop_98 : decode cX9_hop 98 = .ok (.aload_n 0, 1) := by decide +kernel
theorem dX9_hop_99 : decode cX9_hop 99 = .ok (.getfield 7, 3) := by decide +kernel
theorem dX9_hop_102 : decode cX9_hop 102 = .ok (.aload_n 0, 1) := by decide +kernel
theorem dX9_hop_103 : decode cX9_hop 103 = .ok (.getfield 77, 3) := by decide +kernel
theorem dX9_hop_106 : decode cX9_hop 106 = .ok (.iload_n 1, 1) := by decide +kernel
theorem dX9_hop_107 : decode cX9_hop 107 = .ok (.iastore, 1) := by decide +kernel
theorem dX9_hop_108 : decode cX9_hop 108 = .ok (.aload_n 0, 1) := by decide +kernel
theorem dX9_hop_109 : decode cX9_hop 109 = .ok (.dup, 1) := by decide +kernel
theorem dX9_hop_110 : decode cX9_hop 110 = .ok (.getfield 77, 3) := by decide +kernel
theorem dX9_hop_113 : decode cX9_hop 113 = .ok (.iconst 1, 1) := by decide +kernel
theorem dX9_hop_114 : decode cX9_hop 114 = .ok (.iadd, 1) := by decide +kernel
theorem dX9_hop_115 : decode cX9_hop 115 = .ok (.putfield 77, 3) := by decide +kernel
theorem dX9_hop_118 : decode cX9_hop 118 = .ok (.aload_n 0, 1) := by decide +kernel
theorem dX9_hop_119 : decode cX9_hop 119 = .ok (.getfield 77, 3) := by decide +kernel
theorem dX9_hop_122 : decode cX9_hop 122 = .ok (.ireturn, 1) := by decide +kernel
theorem dX9_clearPath_0 : decode cX9_clearPath 0 = .ok (.aload_n 0, 1) := by decide +kernel
theorem dX9_clearPath_1 : decode cX9_clearPath 1 = .ok (.iconst 0, 1) := by decide +kernel
theorem dX9_clearPath_2 : decode cX9_clearPath 2 = .ok (.putfield 47, 3) := by decide +kernel
theorem dX9_clearPath_5 : decode cX9_clearPath 5 = .ok (.aload_n 0, 1) := by decide +kernel
theorem dX9_clearPath_6 : decode cX9_clearPath 6 = .ok (.getfield 77, 3) := by decide +kernel
theorem dX9_clearPath_9 : decode cX9_clearPath 9 = .ok (.istore_n 1, 1) := by decide +kernel
theorem dX9_clearPath_10 : decode cX9_clearPath 10 = .ok (.aload_n 0, 1) := by decide +kernel
theorem dX9_clearPath_11 : decode cX9_clearPath 11 = .ok (.iconst 0, 1) := by decide +kernel
theorem dX9_clearPath_12 : decode cX9_clearPath 12 = .ok (.putfield 77, 3) := by decide +kernel
theorem dX9_clearPath_15 : decode cX9_clearPath 15 = .ok (.iload_n 1, 1) := by decide +kernel
theorem dX9_clearPath_16 : decode cX9_clearPath 16 = .ok (.ireturn, 1) := by decide +kernel
theorem dX9_isPeer_0 : decode cX9_isPeer 0 = .ok (.iload_n 0, 1) := by decide +kernel
theorem dX9_isPeer_1 : decode cX9_isPeer 1 = .ok (.iconst 0, 1) := by decide +kernel
theorem dX9_isPeer_2 : decode cX9_isPeer 2 = .ok (.iconst 5, 1) := by decide +kernel
theorem dX9_isPeer_3 : decode cX9_isPeer 3 = .ok (.invokestatic 51, 3) := by decide +kernel
theorem dX9_isPeer_6 : decode cX9_isPeer 6 = .ok (.ireturn, 1) := by decide +kernel
theorem dX9_update_0 : decode cX9_update 0 = .ok (.aload_n 0, 1) := by decide +kernel
theorem dX9_update_1 : decode cX9_update 1 = .ok (.getfield 13, 3) := by decide +kernel
theorem dX9_update_4 : decode cX9_update 4 = .ok (.aload_n 0, 1) := by decide +kernel
theorem dX9_update_5 : decode cX9_update 5 = .ok (.getfield 59, 3) := by decide +kernel
theorem dX9_update_8 : decode cX9_update 8 = .ok (.aload_n 0, 1) := by decide +kernel
theorem dX9_update_9 : decode cX9_update 9 = .ok (.getfield 73, 3) := by decide +kernel
theorem dX9_update_12 : decode cX9_update 12 = .ok (.iastore, 1) := by decide +kernel
theorem dX9_update_13 : decode cX9_update 13 = .ok (.aload_n 0, 1) := by decide +kernel
theorem dX9_update_14 : decode cX9_update 14 = .ok (.getfield 16, 3) := by decide +kernel
theorem dX9_update_17 : decode cX9_update 17 = .ok (.aload_n 0, 1) := by decide +kernel
theorem dX9_update_18 : decode cX9_update 18 = .ok (.getfield 59, 3) := by decide +kernel
theorem dX9_update_21 : decode cX9_update 21 = .ok (.iload_n 1, 1) := by decide +kernel
theorem dX9_update_22 : decode cX9_update 22 = .ok (.iastore, 1) := by decide +kernel
theorem dX9_update_23 : decode cX9_update 23 = .ok (.aload_n 0, 1) := by decide +kernel
theorem dX9_update_24 : decode cX9_update 24 = .ok (.getfield 19, 3) := by decide +kernel
theorem dX9_update_27 : decode cX9_update 27 = .ok (.aload_n 0, 1) := by decide +kernel
theorem dX9_update_28 : decode cX9_update 28 = .ok (.getfield 59, 3) := by decide +kernel
theorem dX9_update_31 : decode cX9_update 31 = .ok (.iload_n 2, 1) := by decide +kernel
theorem dX9_update_32 : decode cX9_update 32 = .ok (.iastore, 1) := by decide +kernel
theorem dX9_update_33 : decode cX9_update 33 = .ok (.aload_n 0, 1) := by decide +kernel
theorem dX9_update_34 : decode cX9_update 34 = .ok (.getfield 22, 3) := by decide +kernel
theorem dX9_update_37 : decode cX9_update 37 = .ok (.aload_n 0, 1) := by decide +kernel
theorem dX9_update_38 : decode cX9_update 38 = .ok (.getfield 59, 3) := by decide +kernel
theorem dX9_update_41 : decode cX9_update 41 = .ok (.iload_n 3, 1) := by decide +kernel
theorem dX9_update_42 : decode cX9_update 42 = .ok (.iastore, 1) := by decide +kernel
theorem dX9_update_43 : decode cX9_update 43 = .ok (.iconst 0, 1) := by decide +kernel
theorem dX9_update_44 : decode cX9_update 44 = .ok (.istore 4, 2) := by decide +kernel
theorem dX9_update_46 : decode cX9_update 46 = .ok (.iload 4, 2) := by decide +kernel
theorem dX9_update_48 : decode cX9_update 48 = .ok (.iload_n 3, 1) := by decide +kernel
theorem dX9_update_49 : decode cX9_update 49 = .ok (.if_icmp .ge 31, 3) := by decide +kernel
theorem dX9_update_52 : decode cX9_update 52 = .ok (.aload_n 0, 1) := by decide +kernel
theorem dX9_update_53 : decode cX9_update 53 = .ok (.getfield 25, 3) := by decide +kernel
theorem dX9_update_56 : decode cX9_update 56 = .ok (.bipush 8, 2) := by decide +kernel
theorem dX9_update_58 : decode cX9_update 58 = .ok (.aload_n 0, 1) := by decide +kernel
theorem dX9_update_59 : decode cX9_update 59 = .ok (.getfield 59, 3) := by decide +kernel
theorem dX9_update_62 : decode cX9_update 62 = .ok (.imul, 1) := by decide +kernel
theorem dX9_update_63 : decode cX9_update 63 = .ok (.iload 4, 2) := by decide +kernel
theorem dX9_update_65 : decode cX9_update 65 = .ok (.iadd, 1) := by decide +kernel
theorem dX9_update_66 : decode cX9_update 66 = .ok (.aload_n 0, 1) := by decide +kernel
theorem dX9_update_67 : decode cX9_update 67 = .ok (.getfield 7, 3) := by decide +kernel
theorem dX9_update_70 : decode cX9_update 70 = .ok (.iload 4, 2) := by decide +kernel
theorem dX9_update_72 : decode cX9_update 72 = .ok (.iaload, 1) := by decide +kernel
theorem dX9_update_73 : decode cX9_update 73 = .ok (.iastore, 1) := by decide +kernel
theorem dX9_update_74 : decode cX9_update 74 = .ok (.iinc 4 1, 3) := by decide +kernel
theorem dX9_update_77 : decode cX9_update 77 = .ok (.goto (-31), 3) := by decide +kernel
theorem dX9_update_80 : decode cX9_update 80 = .ok (.aload_n 0, 1) := by decide +kernel
theorem dX9_update_81 : decode cX9_update 81 = .ok (.dup, 1) := by decide +kernel
theorem dX9_update_82 : decode cX9_update 82 = .ok (.getfield 59, 3) := by decide +kernel
theorem dX9_update_85 : decode cX9_update 85 = .ok (.iconst 1, 1) := by decide +kernel
theorem dX9_update_86 : decode cX9_update 86 = .ok (.iadd, 1) := by decide +kernel
theorem dX9_update_87 : decode cX9_update 87 = .ok (.putfield 59, 3) := by decide +kernel
theorem dX9_update_90 : decode cX9_update 90 = .ok (.aload_n 0, 1) := by decide +kernel
theorem dX9_update_91 : decode cX9_update 91 = .ok (.iconst 0, 1) := by decide +kernel
theorem dX9_update_92 : decode cX9_update 92 = .ok (.aload_n 0, 1) := by decide +kernel
theorem dX9_update_93 : decode cX9_update 93 = .ok (.getfield 59, 3) := by decide +kernel
theorem dX9_update_96 : decode cX9_update 96 = .ok (.iconst 1, 1) := by decide +kernel
theorem dX9_update_97 : decode cX9_update 97 = .ok (.isub, 1) := by decide +kernel
theorem dX9_update_98 : decode cX9_update 98 = .ok (.invokevirtual 62, 3) := by decide +kernel
theorem dX9_update_101 : decode cX9_update 101 = .ok (.return_, 1) := by decide +kernel
theorem dX9_announce_0 : decode cX9_announce 0 = .ok (.aload_n 0, 1) := by decide +kernel
theorem dX9_announce_1 : decode cX9_announce 1 = .ok (.iload_n 1, 1) := by decide +kernel
theorem dX9_announce_2 : decode cX9_announce 2 = .ok (.invokestatic 80, 3) := by decide +kernel
theorem dX9_announce_5 : decode cX9_announce 5 = .ok (.ifCond .ne 7, 3) := by decide +kernel
theorem dX9_announce_8 : decode cX9_announce 8 = .ok (.iconst 1, 1) := by decide +kernel
theorem dX9_announce_9 : decode cX9_announce 9 = .ok (.goto 49, 3) := by decide +kernel
theorem dX9_announce_12 : decode cX9_announce 12 = .ok (.iload_n 2, 1) := by decide +kernel
theorem dX9_announce_13 : decode cX9_announce 13 = .ok (.iload_n 3, 1) := by decide +kernel
theorem dX9_announce_14 : decode cX9_announce 14 = .ok (.invokestatic 84, 3) := by decide +kernel
theorem dX9_announce_17 : decode cX9_announce 17 = .ok (.ifCond .ne 7, 3) := by decide +kernel
theorem dX9_announce_20 : decode cX9_announce 20 = .ok (.iconst 2, 1) := by decide +kernel
theorem dX9_announce_21 : decode cX9_announce 21 = .ok (.goto 37, 3) := by decide +kernel
theorem dX9_announce_24 : decode cX9_announce 24 = .ok (.aload_n 0, 1) := by decide +kernel
theorem dX9_announce_25 : decode cX9_announce 25 = .ok (.getfield 77, 3) := by decide +kernel
theorem dX9_announce_28 : decode cX9_announce 28 = .ok (.ifCond .eq 25, 3) := by decide +kernel
theorem dX9_announce_31 : decode cX9_announce 31 = .ok (.aload_n 0, 1) := by decide +kernel
theorem dX9_announce_32 : decode cX9_announce 32 = .ok (.getfield 7, 3) := by decide +kernel
theorem dX9_announce_35 : decode cX9_announce 35 = .ok (.iconst 0, 1) := by decide +kernel
theorem dX9_announce_36 : decode cX9_announce 36 = .ok (.iaload, 1) := by decide +kernel
theorem dX9_announce_37 : decode cX9_announce 37 = .ok (.iload_n 1, 1) := by decide +kernel
theorem dX9_announce_38 : decode cX9_announce 38 = .ok (.iconst 1, 1) := by decide +kernel
theorem dX9_announce_39 : decode cX9_announce 39 = .ok (.iadd, 1) := by decide +kernel
theorem dX9_announce_40 : decode cX9_announce 40 = .ok (.if_icmp .ne 13, 3) := by decide +kernel
theorem dX9_announce_43 : decode cX9_announce 43 = .ok (.aload_n 0, 1) := by decide +kernel
theorem dX9_announce_44 : decode cX9_announce 44 = .ok (.getfield 59, 3) := by decide +kernel
theorem dX9_announce_47 : decode cX9_announce 47 = .ok (.sipush 300, 3) := by decide +kernel
theorem dX9_announce_50 : decode cX9_announce 50 = .ok (.if_icmp .ne 7, 3) := by decide +kernel
theorem dX9_announce_53 : decode cX9_announce 53 = .ok (.iconst 3, 1) := by decide +kernel
theorem dX9_announce_54 : decode cX9_announce 54 = .ok (.goto 4, 3) := by decide +kernel
theorem dX9_announce_57 : decode cX9_announce 57 = .ok (.iconst 0, 1) := by decide +kernel
theorem dX9_announce_58 : decode cX9_announce 58 = .ok (.putfield 47, 3) := by decide +kernel
theorem dX9_announce_61 : decode cX9_announce 61 = .ok (.aload_n 0, 1) := by decide +kernel
theorem dX9_announce_62 : decode cX9_announce 62 = .ok (.getfield 47, 3) := by decide +kernel
theorem dX9_announce_65 : decode cX9_announce 65 = .ok (.ifCond .le 5, 3) := by decide +kernel
theorem dX9_announce_68 : decode cX9_announce 68 = .ok (.iconst 0, 1) := by decide +kernel
theorem dX9_announce_69 : decode cX9_announce 69 = .ok (.ireturn, 1) := by decide +kernel
theorem dX9_announce_70 : decode cX9_announce 70 = .ok (.iload_n 2, 1) := by decide +kernel
theorem dX9_announce_71 : decode cX9_announce 71 = .ok (.iload_n 3, 1) := by decide +kernel
theorem dX9_announce_72 : decode cX9_announce 72 = .ok (.invokestatic 66, 3) := by decide +kernel
theorem dX9_announce_75 : decode cX9_announce 75 = .ok (.istore 4, 2) := by decide +kernel
theorem dX9_announce_77 : decode cX9_announce 77 = .ok (.aload_n 0, 1) := by decide +kernel
theorem dX9_announce_78 : decode cX9_announce 78 = .ok (.getfield 28, 3) := by decide +kernel
theorem dX9_announce_81 : decode cX9_announce 81 = .ok (.iconst 0, 1) := by decide +kernel
theorem dX9_announce_82 : decode cX9_announce 82 = .ok (.iload_n 1, 1) := by decide +kernel
theorem dX9_announce_83 : decode cX9_announce 83 = .ok (.iload 4, 2) := by decide +kernel
theorem dX9_announce_85 : decode cX9_announce 85 = .ok (.invokestatic 55, 3) := by decide +kernel
theorem dX9_announce_88 : decode cX9_announce 88 = .ok (.iaload, 1) := by decide +kernel
theorem dX9_announce_89 : decode cX9_announce 89 = .ok (.iconst (-1), 1) := by decide +kernel
theorem dX9_announce_90 : decode cX9_announce 90 = .ok (.if_icmp .ne 7, 3) := by decide +kernel
theorem dX9_announce_93 : decode cX9_announce 93 = .ok (.iconst 1, 1) := by decide +kernel
theorem dX9_announce_94 : decode cX9_announce 94 = .ok (.goto 4, 3) := by decide +kernel
theorem dX9_announce_97 : decode cX9_announce 97 = .ok (.iconst 0, 1) := by decide +kernel
theorem dX9_announce_98 : decode cX9_announce 98 = .ok (.istore 5, 2) := by decide +kernel
theorem dX9_announce_100 : decode cX9_announce 100 = .ok (.aload_n 0, 1) := by decide +kernel
theorem dX9_announce_101 : decode cX9_announce 101 = .ok (.iload_n 1, 1) := by decide +kernel
theorem dX9_announce_102 : decode cX9_announce 102 = .ok (.iload 4, 2) := by decide +kernel
theorem dX9_announce_104 : decode cX9_announce 104 = .ok (.aload_n 0, 1) := by decide +kernel
theorem dX9_announce_105 : decode cX9_announce 105 = .ok (.getfield 77, 3) := by decide +kernel
theorem dX9_announce_108 : decode cX9_announce 108 = .ok (.invokevirtual 88, 3) := by decide +kernel
theorem dX9_announce_111 : decode cX9_announce 111 = .ok (.iload 5, 2) := by decide +kernel
theorem dX9_announce_113 : decode cX9_announce 113 = .ok (.ireturn, 1) := by decide +kernel
theorem dX9_route_0 : decode cX9_route 0 = .ok (.aload_n 0, 1) := by decide +kernel
theorem dX9_route_1 : decode cX9_route 1 = .ok (.iload_n 1, 1) := by decide +kernel
theorem dX9_route_2 : decode cX9_route 2 = .ok (.invokestatic 80, 3) := by decide +kernel
theorem dX9_route_5 : decode cX9_route 5 = .ok (.ifCond .ne 7, 3) := by decide +kernel
theorem dX9_route_8 : decode cX9_route 8 = .ok (.iconst 1, 1) := by decide +kernel
theorem dX9_route_9 : decode cX9_route 9 = .ok (.goto 16, 3) := by decide +kernel
theorem dX9_route_12 : decode cX9_route 12 = .ok (.iload_n 2, 1) := by decide +kernel
theorem dX9_route_13 : decode cX9_route 13 = .ok (.iload_n 3, 1) := by decide +kernel
theorem dX9_route_14 : decode cX9_route 14 = .ok (.invokestatic 84, 3) := by decide +kernel
theorem dX9_route_17 : decode cX9_route 17 = .ok (.ifCond .ne 7, 3) := by decide +kernel
theorem dX9_route_20 : decode cX9_route 20 = .ok (.iconst 2, 1) := by decide +kernel
theorem dX9_route_21 : decode cX9_route 21 = .ok (.goto 4, 3) := by decide +kernel
theorem dX9_route_24 : decode cX9_route 24 = .ok (.iconst 0, 1) := by decide +kernel
theorem dX9_route_25 : decode cX9_route 25 = .ok (.putfield 47, 3) := by decide +kernel
theorem dX9_route_28 : decode cX9_route 28 = .ok (.aload_n 0, 1) := by decide +kernel
theorem dX9_route_29 : decode cX9_route 29 = .ok (.getfield 47, 3) := by decide +kernel
theorem dX9_route_32 : decode cX9_route 32 = .ok (.ifCond .le 5, 3) := by decide +kernel
theorem dX9_route_35 : decode cX9_route 35 = .ok (.iconst (-1), 1) := by decide +kernel
theorem dX9_route_36 : decode cX9_route 36 = .ok (.ireturn, 1) := by decide +kernel
theorem dX9_route_37 : decode cX9_route 37 = .ok (.aload_n 0, 1) := by decide +kernel
theorem dX9_route_38 : decode cX9_route 38 = .ok (.getfield 28, 3) := by decide +kernel
theorem dX9_route_41 : decode cX9_route 41 = .ok (.iconst 0, 1) := by decide +kernel
theorem dX9_route_42 : decode cX9_route 42 = .ok (.iload_n 1, 1) := by decide +kernel
theorem dX9_route_43 : decode cX9_route 43 = .ok (.iload_n 2, 1) := by decide +kernel
theorem dX9_route_44 : decode cX9_route 44 = .ok (.iload_n 3, 1) := by decide +kernel
theorem dX9_route_45 : decode cX9_route 45 = .ok (.invokestatic 66, 3) := by decide +kernel
theorem dX9_route_48 : decode cX9_route 48 = .ok (.invokestatic 55, 3) := by decide +kernel
theorem dX9_route_51 : decode cX9_route 51 = .ok (.iaload, 1) := by decide +kernel
theorem dX9_route_52 : decode cX9_route 52 = .ok (.istore 4, 2) := by decide +kernel
theorem dX9_route_54 : decode cX9_route 54 = .ok (.aload_n 0, 1) := by decide +kernel
theorem dX9_route_55 : decode cX9_route 55 = .ok (.iload 4, 2) := by decide +kernel
theorem dX9_route_57 : decode cX9_route 57 = .ok (.iconst (-1), 1) := by decide +kernel
theorem dX9_route_58 : decode cX9_route 58 = .ok (.if_icmp .ne 7, 3) := by decide +kernel
theorem dX9_route_61 : decode cX9_route 61 = .ok (.iconst 3, 1) := by decide +kernel
theorem dX9_route_62 : decode cX9_route 62 = .ok (.goto 4, 3) := by decide +kernel
theorem dX9_route_65 : decode cX9_route 65 = .ok (.iconst 0, 1) := by decide +kernel
theorem dX9_route_66 : decode cX9_route 66 = .ok (.putfield 47, 3) := by decide +kernel
theorem dX9_route_69 : decode cX9_route 69 = .ok (.iload 4, 2) := by decide +kernel
theorem dX9_route_71 : decode cX9_route 71 = .ok (.ireturn, 1) := by decide +kernel
theorem dX9_withdraw_0 : decode cX9_withdraw 0 = .ok (.aload_n 0, 1) := by decide +kernel
theorem dX9_withdraw_1 : decode cX9_withdraw 1 = .ok (.iload_n 1, 1) := by decide +kernel
theorem dX9_withdraw_2 : decode cX9_withdraw 2 = .ok (.iload_n 2, 1) := by decide +kernel
theorem dX9_withdraw_3 : decode cX9_withdraw 3 = .ok (.iload_n 3, 1) := by decide +kernel
theorem dX9_withdraw_4 : decode cX9_withdraw 4 = .ok (.invokevirtual 92, 3) := by decide +kernel
theorem dX9_withdraw_7 : decode cX9_withdraw 7 = .ok (.istore 4, 2) := by decide +kernel
theorem dX9_withdraw_9 : decode cX9_withdraw 9 = .ok (.aload_n 0, 1) := by decide +kernel
theorem dX9_withdraw_10 : decode cX9_withdraw 10 = .ok (.getfield 47, 3) := by decide +kernel
theorem dX9_withdraw_13 : decode cX9_withdraw 13 = .ok (.ifCond .ne 18, 3) := by decide +kernel
theorem dX9_withdraw_16 : decode cX9_withdraw 16 = .ok (.aload_n 0, 1) := by decide +kernel
theorem dX9_withdraw_17 : decode cX9_withdraw 17 = .ok (.getfield 59, 3) := by decide +kernel
theorem dX9_withdraw_20 : decode cX9_withdraw 20 = .ok (.sipush 300, 3) := by decide +kernel
theorem dX9_withdraw_23 : decode cX9_withdraw 23 = .ok (.if_icmp .ne 8, 3) := by decide +kernel
theorem dX9_withdraw_26 : decode cX9_withdraw 26 = .ok (.aload_n 0, 1) := by decide +kernel
theorem dX9_withdraw_27 : decode cX9_withdraw 27 = .ok (.iconst 4, 1) := by decide +kernel
theorem dX9_withdraw_28 : decode cX9_withdraw 28 = .ok (.putfield 47, 3) := by decide +kernel
theorem dX9_withdraw_31 : decode cX9_withdraw 31 = .ok (.aload_n 0, 1) := by decide +kernel
theorem dX9_withdraw_32 : decode cX9_withdraw 32 = .ok (.getfield 47, 3) := by decide +kernel
theorem dX9_withdraw_35 : decode cX9_withdraw 35 = .ok (.ifCond .le 5, 3) := by decide +kernel
theorem dX9_withdraw_38 : decode cX9_withdraw 38 = .ok (.iconst 0, 1) := by decide +kernel
theorem dX9_withdraw_39 : decode cX9_withdraw 39 = .ok (.ireturn, 1) := by decide +kernel
theorem dX9_withdraw_40 : decode cX9_withdraw 40 = .ok (.aload_n 0, 1) := by decide +kernel
theorem dX9_withdraw_41 : decode cX9_withdraw 41 = .ok (.iload_n 1, 1) := by decide +kernel
theorem dX9_withdraw_42 : decode cX9_withdraw 42 = .ok (.aload_n 0, 1) := by decide +kernel
theorem dX9_withdraw_43 : decode cX9_withdraw 43 = .ok (.getfield 19, 3) := by decide +kernel
theorem dX9_withdraw_46 : decode cX9_withdraw 46 = .ok (.iload 4, 2) := by decide +kernel
theorem dX9_withdraw_48 : decode cX9_withdraw 48 = .ok (.iaload, 1) := by decide +kernel
theorem dX9_withdraw_49 : decode cX9_withdraw 49 = .ok (.iconst 0, 1) := by decide +kernel
theorem dX9_withdraw_50 : decode cX9_withdraw 50 = .ok (.invokevirtual 88, 3) := by decide +kernel
theorem dX9_withdraw_53 : decode cX9_withdraw 53 = .ok (.aload_n 0, 1) := by decide +kernel
theorem dX9_withdraw_54 : decode cX9_withdraw 54 = .ok (.iload_n 1, 1) := by decide +kernel
theorem dX9_withdraw_55 : decode cX9_withdraw 55 = .ok (.invokevirtual 95, 3) := by decide +kernel
theorem dX9_withdraw_58 : decode cX9_withdraw 58 = .ok (.ireturn, 1) := by decide +kernel
theorem dX9_drop_0 : decode cX9_drop 0 = .ok (.aload_n 0, 1) := by decide +kernel
theorem dX9_drop_1 : decode cX9_drop 1 = .ok (.iload_n 1, 1) := by decide +kernel
theorem dX9_drop_2 : decode cX9_drop 2 = .ok (.invokestatic 80, 3) := by decide +kernel
theorem dX9_drop_5 : decode cX9_drop 5 = .ok (.ifCond .ne 7, 3) := by decide +kernel
theorem dX9_drop_8 : decode cX9_drop 8 = .ok (.iconst 1, 1) := by decide +kernel
theorem dX9_drop_9 : decode cX9_drop 9 = .ok (.goto 18, 3) := by decide +kernel
theorem dX9_drop_12 : decode cX9_drop 12 = .ok (.aload_n 0, 1) := by decide +kernel
theorem dX9_drop_13 : decode cX9_drop 13 = .ok (.getfield 59, 3) := by decide +kernel
theorem dX9_drop_16 : decode cX9_drop 16 = .ok (.sipush 300, 3) := by decide +kernel
theorem dX9_drop_19 : decode cX9_drop 19 = .ok (.if_icmp .ne 7, 3) := by decide +kernel
theorem dX9_drop_22 : decode cX9_drop 22 = .ok (.iconst 2, 1) := by decide +kernel
theorem dX9_drop_23 : decode cX9_drop 23 = .ok (.goto 4, 3) := by decide +kernel
theorem dX9_drop_26 : decode cX9_drop 26 = .ok (.iconst 0, 1) := by decide +kernel
theorem dX9_drop_27 : decode cX9_drop 27 = .ok (.putfield 47, 3) := by decide +kernel
theorem dX9_drop_30 : decode cX9_drop 30 = .ok (.aload_n 0, 1) := by decide +kernel
theorem dX9_drop_31 : decode cX9_drop 31 = .ok (.getfield 47, 3) := by decide +kernel
theorem dX9_drop_34 : decode cX9_drop 34 = .ok (.ifCond .le 5, 3) := by decide +kernel
theorem dX9_drop_37 : decode cX9_drop 37 = .ok (.iconst 0, 1) := by decide +kernel
theorem dX9_drop_38 : decode cX9_drop 38 = .ok (.ireturn, 1) := by decide +kernel
theorem dX9_drop_39 : decode cX9_drop 39 = .ok (.aload_n 0, 1) := by decide +kernel
theorem dX9_drop_40 : decode cX9_drop 40 = .ok (.iload_n 1, 1) := by decide +kernel
theorem dX9_drop_41 : decode cX9_drop 41 = .ok (.invokevirtual 95, 3) := by decide +kernel
theorem dX9_drop_44 : decode cX9_drop 44 = .ok (.istore_n 2, 1) := by decide +kernel
theorem dX9_drop_45 : decode cX9_drop 45 = .ok (.aload_n 0, 1) := by decide +kernel
theorem dX9_drop_46 : decode cX9_drop 46 = .ok (.iload_n 1, 1) := by decide +kernel
theorem dX9_drop_47 : decode cX9_drop 47 = .ok (.iconst 0, 1) := by decide +kernel
theorem dX9_drop_48 : decode cX9_drop 48 = .ok (.iconst 0, 1) := by decide +kernel
theorem dX9_drop_49 : decode cX9_drop 49 = .ok (.invokevirtual 88, 3) := by decide +kernel
theorem dX9_drop_52 : decode cX9_drop 52 = .ok (.iload_n 2, 1) := by decide +kernel
theorem dX9_drop_53 : decode cX9_drop 53 = .ok (.ireturn, 1) := by decide +kernel
theorem dX9_updates_0 : decode cX9_updates 0 = .ok (.aload_n 0, 1) := by decide +kernel
theorem dX9_updates_1 : decode cX9_updates 1 = .ok (.iconst 0, 1) := by decide +kernel
theorem dX9_updates_2 : decode cX9_updates 2 = .ok (.putfield 47, 3) := by decide +kernel
theorem dX9_updates_5 : decode cX9_updates 5 = .ok (.aload_n 0, 1) := by decide +kernel
theorem dX9_updates_6 : decode cX9_updates 6 = .ok (.getfield 59, 3) := by decide +kernel
theorem dX9_updates_9 : decode cX9_updates 9 = .ok (.ireturn, 1) := by decide +kernel
theorem dX9_routes_0 : decode cX9_routes 0 = .ok (.aload_n 0, 1) := by decide +kernel
theorem dX9_routes_1 : decode cX9_routes 1 = .ok (.iload_n 1, 1) := by decide +kernel
theorem dX9_routes_2 : decode cX9_routes 2 = .ok (.invokestatic 80, 3) := by decide +kernel
theorem dX9_routes_5 : decode cX9_routes 5 = .ok (.ifCond .eq 7, 3) := by decide +kernel
theorem dX9_routes_8 : decode cX9_routes 8 = .ok (.iconst 0, 1) := by decide +kernel
theorem dX9_routes_9 : decode cX9_routes 9 = .ok (.goto 4, 3) := by decide +kernel
theorem dX9_routes_12 : decode cX9_routes 12 = .ok (.iconst 1, 1) := by decide +kernel
theorem dX9_routes_13 : decode cX9_routes 13 = .ok (.putfield 47, 3) := by decide +kernel
theorem dX9_routes_16 : decode cX9_routes 16 = .ok (.aload_n 0, 1) := by decide +kernel
theorem dX9_routes_17 : decode cX9_routes 17 = .ok (.getfield 47, 3) := by decide +kernel
theorem dX9_routes_20 : decode cX9_routes 20 = .ok (.ifCond .ne 11, 3) := by decide +kernel
theorem dX9_routes_23 : decode cX9_routes 23 = .ok (.aload_n 0, 1) := by decide +kernel
theorem dX9_routes_24 : decode cX9_routes 24 = .ok (.iload_n 1, 1) := by decide +kernel
theorem dX9_routes_25 : decode cX9_routes 25 = .ok (.invokevirtual 95, 3) := by decide +kernel
theorem dX9_routes_28 : decode cX9_routes 28 = .ok (.goto 4, 3) := by decide +kernel
theorem dX9_routes_31 : decode cX9_routes 31 = .ok (.iconst 0, 1) := by decide +kernel
theorem dX9_routes_32 : decode cX9_routes 32 = .ok (.ireturn, 1) := by decide +kernel
theorem dX9_prefixes_0 : decode cX9_prefixes 0 = .ok (.aload_n 0, 1) := by decide +kernel
theorem dX9_prefixes_1 : decode cX9_prefixes 1 = .ok (.iconst 0, 1) := by decide +kernel
theorem dX9_prefixes_2 : decode cX9_prefixes 2 = .ok (.putfield 47, 3) := by decide +kernel
theorem dX9_prefixes_5 : decode cX9_prefixes 5 = .ok (.iconst 0, 1) := by decide +kernel
theorem dX9_prefixes_6 : decode cX9_prefixes 6 = .ok (.istore_n 1, 1) := by decide +kernel
theorem dX9_prefixes_7 : decode cX9_prefixes 7 = .ok (.iconst 1, 1) := by decide +kernel
theorem dX9_prefixes_8 : decode cX9_prefixes 8 = .ok (.istore_n 2, 1) := by decide +kernel
theorem dX9_prefixes_9 : decode cX9_prefixes 9 = .ok (.iload_n 2, 1) := by decide +kernel
theorem dX9_prefixes_10 : decode cX9_prefixes 10 = .ok (.sipush 512, 3) := by decide +kernel
theorem dX9_prefixes_13 : decode cX9_prefixes 13 = .ok (.if_icmp .ge 27, 3) := by decide +kernel
theorem dX9_prefixes_16 : decode cX9_prefixes 16 = .ok (.iload_n 1, 1) := by decide +kernel
theorem dX9_prefixes_17 : decode cX9_prefixes 17 = .ok (.aload_n 0, 1) := by decide +kernel
theorem dX9_prefixes_18 : decode cX9_prefixes 18 = .ok (.iconst 0, 1) := by decide +kernel
theorem dX9_prefixes_19 : decode cX9_prefixes 19 = .ok (.iload_n 2, 1) := by decide +kernel
theorem dX9_prefixes_20 : decode cX9_prefixes 20 = .ok (.invokevirtual 70, 3) := by decide +kernel
theorem dX9_prefixes_23 : decode cX9_prefixes 23 = .ok (.iconst (-1), 1) := by decide +kernel
theorem dX9_prefixes_24 : decode cX9_prefixes 24 = .ok (.if_icmp .ne 7, 3) := by decide +kernel
theorem dX9_prefixes_27 : decode cX9_prefixes 27 = .ok (.iconst 0, 1) := by decide +kernel
theorem dX9_prefixes_28 : decode cX9_prefixes 28 = .ok (.goto 4, 3) := by decide +kernel
theorem dX9_prefixes_31 : decode cX9_prefixes 31 = .ok (.iconst 1, 1) := by decide +kernel
theorem dX9_prefixes_32 : decode cX9_prefixes 32 = .ok (.iadd, 1) := by decide +kernel
theorem dX9_prefixes_33 : decode cX9_prefixes 33 = .ok (.istore_n 1, 1) := by decide +kernel
theorem dX9_prefixes_34 : decode cX9_prefixes 34 = .ok (.iinc 2 1, 3) := by decide +kernel
theorem dX9_prefixes_37 : decode cX9_prefixes 37 = .ok (.goto (-28), 3) := by decide +kernel
theorem dX9_prefixes_40 : decode cX9_prefixes 40 = .ok (.iload_n 1, 1) := by decide +kernel
theorem dX9_prefixes_41 : decode cX9_prefixes 41 = .ok (.ireturn, 1) := by decide +kernel
theorem dX9_pathAt_0 : decode cX9_pathAt 0 = .ok (.iload 4, 2) := by decide +kernel
theorem dX9_pathAt_2 : decode cX9_pathAt 2 = .ok (.ifCond .ge 7, 3) := by decide +kernel
theorem dX9_pathAt_5 : decode cX9_pathAt 5 = .ok (.iconst (-1), 1) := by decide +kernel
theorem dX9_pathAt_6 : decode cX9_pathAt 6 = .ok (.goto 10, 3) := by decide +kernel
theorem dX9_pathAt_9 : decode cX9_pathAt 9 = .ok (.aload_n 0, 1) := by decide +kernel
theorem dX9_pathAt_10 : decode cX9_pathAt 10 = .ok (.iload_n 1, 1) := by decide +kernel
theorem dX9_pathAt_11 : decode cX9_pathAt 11 = .ok (.iload_n 2, 1) := by decide +kernel
theorem dX9_pathAt_12 : decode cX9_pathAt 12 = .ok (.iload_n 3, 1) := by decide +kernel
theorem dX9_pathAt_13 : decode cX9_pathAt 13 = .ok (.invokevirtual 92, 3) := by decide +kernel
theorem dX9_pathAt_16 : decode cX9_pathAt 16 = .ok (.istore 5, 2) := by decide +kernel
theorem dX9_pathAt_18 : decode cX9_pathAt 18 = .ok (.aload_n 0, 1) := by decide +kernel
theorem dX9_pathAt_19 : decode cX9_pathAt 19 = .ok (.iload 4, 2) := by decide +kernel
theorem dX9_pathAt_21 : decode cX9_pathAt 21 = .ok (.ifCond .ge 7, 3) := by decide +kernel
theorem dX9_pathAt_24 : decode cX9_pathAt 24 = .ok (.iconst 1, 1) := by decide +kernel
theorem dX9_pathAt_25 : decode cX9_pathAt 25 = .ok (.goto 7, 3) := by decide +kernel
theorem dX9_pathAt_28 : decode cX9_pathAt 28 = .ok (.aload_n 0, 1) := by decide +kernel
theorem dX9_pathAt_29 : decode cX9_pathAt 29 = .ok (.getfield 47, 3) := by decide +kernel
theorem dX9_pathAt_32 : decode cX9_pathAt 32 = .ok (.putfield 47, 3) := by decide +kernel
theorem dX9_pathAt_35 : decode cX9_pathAt 35 = .ok (.aload_n 0, 1) := by decide +kernel
theorem dX9_pathAt_36 : decode cX9_pathAt 36 = .ok (.getfield 47, 3) := by decide +kernel
theorem dX9_pathAt_39 : decode cX9_pathAt 39 = .ok (.ifCond .le 5, 3) := by decide +kernel
theorem dX9_pathAt_42 : decode cX9_pathAt 42 = .ok (.iconst 0, 1) := by decide +kernel
theorem dX9_pathAt_43 : decode cX9_pathAt 43 = .ok (.ireturn, 1) := by decide +kernel
theorem dX9_pathAt_44 : decode cX9_pathAt 44 = .ok (.iload 4, 2) := by decide +kernel
theorem dX9_pathAt_46 : decode cX9_pathAt 46 = .ok (.aload_n 0, 1) := by decide +kernel
theorem dX9_pathAt_47 : decode cX9_pathAt 47 = .ok (.getfield 22, 3) := by decide +kernel
theorem dX9_pathAt_50 : decode cX9_pathAt 50 = .ok (.iload 5, 2) := by decide +kernel
theorem dX9_pathAt_52 : decode cX9_pathAt 52 = .ok (.iaload, 1) := by decide +kernel
theorem dX9_pathAt_53 : decode cX9_pathAt 53 = .ok (.if_icmp .ge 19, 3) := by decide +kernel
theorem dX9_pathAt_56 : decode cX9_pathAt 56 = .ok (.aload_n 0, 1) := by decide +kernel
theorem dX9_pathAt_57 : decode cX9_pathAt 57 = .ok (.getfield 25, 3) := by decide +kernel
theorem dX9_pathAt_60 : decode cX9_pathAt 60 = .ok (.bipush 8, 2) := by decide +kernel
theorem dX9_pathAt_62 : decode cX9_pathAt 62 = .ok (.iload 5, 2) := by decide +kernel
theorem dX9_pathAt_64 : decode cX9_pathAt 64 = .ok (.imul, 1) := by decide +kernel
theorem dX9_pathAt_65 : decode cX9_pathAt 65 = .ok (.iload 4, 2) := by decide +kernel
theorem dX9_pathAt_67 : decode cX9_pathAt 67 = .ok (.iadd, 1) := by decide +kernel
theorem dX9_pathAt_68 : decode cX9_pathAt 68 = .ok (.iaload, 1) := by decide +kernel
theorem dX9_pathAt_69 : decode cX9_pathAt 69 = .ok (.goto 4, 3) := by decide +kernel
theorem dX9_pathAt_72 : decode cX9_pathAt 72 = .ok (.iconst (-1), 1) := by decide +kernel
theorem dX9_pathAt_73 : decode cX9_pathAt 73 = .ok (.ireturn, 1) := by decide +kernel
theorem dX9_bestPeer_0 : decode cX9_bestPeer 0 = .ok (.aload_n 0, 1) := by decide +kernel
theorem dX9_bestPeer_1 : decode cX9_bestPeer 1 = .ok (.iload_n 1, 1) := by decide +kernel
theorem dX9_bestPeer_2 : decode cX9_bestPeer 2 = .ok (.iload_n 2, 1) := by decide +kernel
theorem dX9_bestPeer_3 : decode cX9_bestPeer 3 = .ok (.invokestatic 84, 3) := by decide +kernel
theorem dX9_bestPeer_6 : decode cX9_bestPeer 6 = .ok (.ifCond .eq 7, 3) := by decide +kernel
theorem dX9_bestPeer_9 : decode cX9_bestPeer 9 = .ok (.iconst 0, 1) := by decide +kernel
theorem dX9_bestPeer_10 : decode cX9_bestPeer 10 = .ok (.goto 4, 3) := by decide +kernel
theorem dX9_bestPeer_13 : decode cX9_bestPeer 13 = .ok (.iconst 1, 1) := by decide +kernel
theorem dX9_bestPeer_14 : decode cX9_bestPeer 14 = .ok (.putfield 47, 3) := by decide +kernel
theorem dX9_bestPeer_17 : decode cX9_bestPeer 17 = .ok (.aload_n 0, 1) := by decide +kernel
theorem dX9_bestPeer_18 : decode cX9_bestPeer 18 = .ok (.getfield 47, 3) := by decide +kernel
theorem dX9_bestPeer_21 : decode cX9_bestPeer 21 = .ok (.ifCond .le 5, 3) := by decide +kernel
theorem dX9_bestPeer_24 : decode cX9_bestPeer 24 = .ok (.iconst 0, 1) := by decide +kernel
theorem dX9_bestPeer_25 : decode cX9_bestPeer 25 = .ok (.ireturn, 1) := by decide +kernel
theorem dX9_bestPeer_26 : decode cX9_bestPeer 26 = .ok (.aload_n 0, 1) := by decide +kernel
theorem dX9_bestPeer_27 : decode cX9_bestPeer 27 = .ok (.iconst 0, 1) := by decide +kernel
theorem dX9_bestPeer_28 : decode cX9_bestPeer 28 = .ok (.iload_n 1, 1) := by decide +kernel
theorem dX9_bestPeer_29 : decode cX9_bestPeer 29 = .ok (.iload_n 2, 1) := by decide +kernel
theorem dX9_bestPeer_30 : decode cX9_bestPeer 30 = .ok (.invokestatic 66, 3) := by decide +kernel
theorem dX9_bestPeer_33 : decode cX9_bestPeer 33 = .ok (.invokevirtual 70, 3) := by decide +kernel
theorem dX9_bestPeer_36 : decode cX9_bestPeer 36 = .ok (.istore_n 3, 1) := by decide +kernel
theorem dX9_bestPeer_37 : decode cX9_bestPeer 37 = .ok (.iload_n 3, 1) := by decide +kernel
theorem dX9_bestPeer_38 : decode cX9_bestPeer 38 = .ok (.iconst (-1), 1) := by decide +kernel
theorem dX9_bestPeer_39 : decode cX9_bestPeer 39 = .ok (.if_icmp .ne 7, 3) := by decide +kernel
theorem dX9_bestPeer_42 : decode cX9_bestPeer 42 = .ok (.iconst (-1), 1) := by decide +kernel
theorem dX9_bestPeer_43 : decode cX9_bestPeer 43 = .ok (.goto 9, 3) := by decide +kernel
theorem dX9_bestPeer_46 : decode cX9_bestPeer 46 = .ok (.aload_n 0, 1) := by decide +kernel
theorem dX9_bestPeer_47 : decode cX9_bestPeer 47 = .ok (.getfield 16, 3) := by decide +kernel
theorem dX9_bestPeer_50 : decode cX9_bestPeer 50 = .ok (.iload_n 3, 1) := by decide +kernel
theorem dX9_bestPeer_51 : decode cX9_bestPeer 51 = .ok (.iaload, 1) := by decide +kernel
theorem dX9_bestPeer_52 : decode cX9_bestPeer 52 = .ok (.ireturn, 1) := by decide +kernel
theorem dX9_lengthFound_0 : decode cX9_lengthFound 0 = .ok (.aload_n 0, 1) := by decide +kernel
theorem dX9_lengthFound_1 : decode cX9_lengthFound 1 = .ok (.iload_n 1, 1) := by decide +kernel
theorem dX9_lengthFound_2 : decode cX9_lengthFound 2 = .ok (.iload_n 2, 1) := by decide +kernel
theorem dX9_lengthFound_3 : decode cX9_lengthFound 3 = .ok (.invokevirtual 99, 3) := by decide +kernel
theorem dX9_lengthFound_6 : decode cX9_lengthFound 6 = .ok (.istore_n 3, 1) := by decide +kernel
theorem dX9_lengthFound_7 : decode cX9_lengthFound 7 = .ok (.iload_n 3, 1) := by decide +kernel
theorem dX9_lengthFound_8 : decode cX9_lengthFound 8 = .ok (.ifCond .ne 7, 3) := by decide +kernel
theorem dX9_lengthFound_11 : decode cX9_lengthFound 11 = .ok (.iconst (-1), 1) := by decide +kernel
theorem dX9_lengthFound_12 : decode cX9_lengthFound 12 = .ok (.goto 7, 3) := by decide +kernel
theorem dX9_lengthFound_15 : decode cX9_lengthFound 15 = .ok (.iload_n 3, 1) := by decide +kernel
theorem dX9_lengthFound_16 : decode cX9_lengthFound 16 = .ok (.invokestatic 102, 3) := by decide +kernel
theorem dX9_lengthFound_19 : decode cX9_lengthFound 19 = .ok (.ireturn, 1) := by decide +kernel
theorem dX9_lookUp_0 : decode cX9_lookUp 0 = .ok (.aload_n 0, 1) := by decide +kernel
theorem dX9_lookUp_1 : decode cX9_lookUp 1 = .ok (.iload_n 1, 1) := by decide +kernel
theorem dX9_lookUp_2 : decode cX9_lookUp 2 = .ok (.iconst 0, 1) := by decide +kernel
theorem dX9_lookUp_3 : decode cX9_lookUp 3 = .ok (.sipush 255, 3) := by decide +kernel
theorem dX9_lookUp_6 : decode cX9_lookUp 6 = .ok (.invokestatic 51, 3) := by decide +kernel
theorem dX9_lookUp_9 : decode cX9_lookUp 9 = .ok (.ifCond .eq 7, 3) := by decide +kernel
theorem dX9_lookUp_12 : decode cX9_lookUp 12 = .ok (.iconst 0, 1) := by decide +kernel
theorem dX9_lookUp_13 : decode cX9_lookUp 13 = .ok (.goto 4, 3) := by decide +kernel
theorem dX9_lookUp_16 : decode cX9_lookUp 16 = .ok (.iconst 1, 1) := by decide +kernel
theorem dX9_lookUp_17 : decode cX9_lookUp 17 = .ok (.putfield 47, 3) := by decide +kernel
theorem dX9_lookUp_20 : decode cX9_lookUp 20 = .ok (.aload_n 0, 1) := by decide +kernel
theorem dX9_lookUp_21 : decode cX9_lookUp 21 = .ok (.getfield 47, 3) := by decide +kernel
theorem dX9_lookUp_24 : decode cX9_lookUp 24 = .ok (.ifCond .ne 12, 3) := by decide +kernel
theorem dX9_lookUp_27 : decode cX9_lookUp 27 = .ok (.aload_n 0, 1) := by decide +kernel
theorem dX9_lookUp_28 : decode cX9_lookUp 28 = .ok (.iconst 0, 1) := by decide +kernel
theorem dX9_lookUp_29 : decode cX9_lookUp 29 = .ok (.iload_n 1, 1) := by decide +kernel
theorem dX9_lookUp_30 : decode cX9_lookUp 30 = .ok (.invokevirtual 105, 3) := by decide +kernel
theorem dX9_lookUp_33 : decode cX9_lookUp 33 = .ok (.goto 4, 3) := by decide +kernel
theorem dX9_lookUp_36 : decode cX9_lookUp 36 = .ok (.iconst 0, 1) := by decide +kernel
theorem dX9_lookUp_37 : decode cX9_lookUp 37 = .ok (.ireturn, 1) := by decide +kernel
theorem dX9_lookUpByScan_0 : decode cX9_lookUpByScan 0 = .ok (.aload_n 0, 1) := by decide +kernel
theorem dX9_lookUpByScan_1 : decode cX9_lookUpByScan 1 = .ok (.iload_n 1, 1) := by decide +kernel
theorem dX9_lookUpByScan_2 : decode cX9_lookUpByScan 2 = .ok (.invokevirtual 108, 3) := by decide +kernel
theorem dX9_lookUpByScan_5 : decode cX9_lookUpByScan 5 = .ok (.ireturn, 1) := by decide +kernel
theorem dX9_originsOf_0 : decode cX9_originsOf 0 = .ok (.iconst 0, 1) := by decide +kernel
theorem dX9_originsOf_1 : decode cX9_originsOf 1 = .ok (.istore_n 2, 1) := by decide +kernel
theorem dX9_originsOf_2 : decode cX9_originsOf 2 = .ok (.iconst 0, 1) := by decide +kernel
theorem dX9_originsOf_3 : decode cX9_originsOf 3 = .ok (.istore_n 3, 1) := by decide +kernel
theorem dX9_originsOf_4 : decode cX9_originsOf 4 = .ok (.iconst 0, 1) := by decide +kernel
theorem dX9_originsOf_5 : decode cX9_originsOf 5 = .ok (.istore 4, 2) := by decide +kernel
theorem dX9_originsOf_7 : decode cX9_originsOf 7 = .ok (.iload 4, 2) := by decide +kernel
theorem dX9_originsOf_9 : decode cX9_originsOf 9 = .ok (.bipush 6, 2) := by decide +kernel
theorem dX9_originsOf_11 : decode cX9_originsOf 11 = .ok (.if_icmp .ge 65, 3) := by decide +kernel
theorem dX9_originsOf_14 : decode cX9_originsOf 14 = .ok (.aload_n 0, 1) := by decide +kernel
theorem dX9_originsOf_15 : decode cX9_originsOf 15 = .ok (.getfield 28, 3) := by decide +kernel
theorem dX9_originsOf_18 : decode cX9_originsOf 18 = .ok (.iconst 0, 1) := by decide +kernel
theorem dX9_originsOf_19 : decode cX9_originsOf 19 = .ok (.iload 4, 2) := by decide +kernel
theorem dX9_originsOf_21 : decode cX9_originsOf 21 = .ok (.iload_n 1, 1) := by decide +kernel
theorem dX9_originsOf_22 : decode cX9_originsOf 22 = .ok (.invokestatic 55, 3) := by decide +kernel
theorem dX9_originsOf_25 : decode cX9_originsOf 25 = .ok (.iaload, 1) := by decide +kernel
theorem dX9_originsOf_26 : decode cX9_originsOf 26 = .ok (.istore 5, 2) := by decide +kernel
theorem dX9_originsOf_28 : decode cX9_originsOf 28 = .ok (.iload 5, 2) := by decide +kernel
theorem dX9_originsOf_30 : decode cX9_originsOf 30 = .ok (.iconst (-1), 1) := by decide +kernel
theorem dX9_originsOf_31 : decode cX9_originsOf 31 = .ok (.if_icmp .ne 7, 3) := by decide +kernel
theorem dX9_originsOf_34 : decode cX9_originsOf 34 = .ok (.iconst 0, 1) := by decide +kernel
theorem dX9_originsOf_35 : decode cX9_originsOf 35 = .ok (.goto 11, 3) := by decide +kernel
theorem dX9_originsOf_38 : decode cX9_originsOf 38 = .ok (.iconst 1, 1) := by decide +kernel
theorem dX9_originsOf_39 : decode cX9_originsOf 39 = .ok (.aload_n 0, 1) := by decide +kernel
theorem dX9_originsOf_40 : decode cX9_originsOf 40 = .ok (.iload 5, 2) := by decide +kernel
theorem dX9_originsOf_42 : decode cX9_originsOf 42 = .ok (.invokevirtual 111, 3) := by decide +kernel
theorem dX9_originsOf_45 : decode cX9_originsOf 45 = .ok (.ishl, 1) := by decide +kernel
theorem dX9_originsOf_46 : decode cX9_originsOf 46 = .ok (.istore 6, 2) := by decide +kernel
theorem dX9_originsOf_48 : decode cX9_originsOf 48 = .ok (.iload_n 3, 1) := by decide +kernel
theorem dX9_originsOf_49 : decode cX9_originsOf 49 = .ok (.iload_n 2, 1) := by decide +kernel
theorem dX9_originsOf_50 : decode cX9_originsOf 50 = .ok (.iload 6, 2) := by decide +kernel
theorem dX9_originsOf_52 : decode cX9_originsOf 52 = .ok (.iand, 1) := by decide +kernel
theorem dX9_originsOf_53 : decode cX9_originsOf 53 = .ok (.iload 6, 2) := by decide +kernel
theorem dX9_originsOf_55 : decode cX9_originsOf 55 = .ok (.if_icmp .ne 7, 3) := by decide +kernel
theorem dX9_originsOf_58 : decode cX9_originsOf 58 = .ok (.iconst 0, 1) := by decide +kernel
theorem dX9_originsOf_59 : decode cX9_originsOf 59 = .ok (.goto 4, 3) := by decide +kernel
theorem dX9_originsOf_62 : decode cX9_originsOf 62 = .ok (.iconst 1, 1) := by decide +kernel
theorem dX9_originsOf_63 : decode cX9_originsOf 63 = .ok (.iadd, 1) := by decide +kernel
theorem dX9_originsOf_64 : decode cX9_originsOf 64 = .ok (.istore_n 3, 1) := by decide +kernel
theorem dX9_originsOf_65 : decode cX9_originsOf 65 = .ok (.iload_n 2, 1) := by decide +kernel
theorem dX9_originsOf_66 : decode cX9_originsOf 66 = .ok (.iload 6, 2) := by decide +kernel
theorem dX9_originsOf_68 : decode cX9_originsOf 68 = .ok (.ior, 1) := by decide +kernel
theorem dX9_originsOf_69 : decode cX9_originsOf 69 = .ok (.istore_n 2, 1) := by decide +kernel
theorem dX9_originsOf_70 : decode cX9_originsOf 70 = .ok (.iinc 4 1, 3) := by decide +kernel
theorem dX9_originsOf_73 : decode cX9_originsOf 73 = .ok (.goto (-66), 3) := by decide +kernel
theorem dX9_originsOf_76 : decode cX9_originsOf 76 = .ok (.iload_n 3, 1) := by decide +kernel
theorem dX9_originsOf_77 : decode cX9_originsOf 77 = .ok (.ireturn, 1) := by decide +kernel
theorem dX9_origins_0 : decode cX9_origins 0 = .ok (.aload_n 0, 1) := by decide +kernel
theorem dX9_origins_1 : decode cX9_origins 1 = .ok (.iload_n 1, 1) := by decide +kernel
theorem dX9_origins_2 : decode cX9_origins 2 = .ok (.iload_n 2, 1) := by decide +kernel
theorem dX9_origins_3 : decode cX9_origins 3 = .ok (.invokestatic 84, 3) := by decide +kernel
theorem dX9_origins_6 : decode cX9_origins 6 = .ok (.ifCond .eq 7, 3) := by decide +kernel
theorem dX9_origins_9 : decode cX9_origins 9 = .ok (.iconst 0, 1) := by decide +kernel
theorem dX9_origins_10 : decode cX9_origins 10 = .ok (.goto 4, 3) := by decide +kernel
theorem dX9_origins_13 : decode cX9_origins 13 = .ok (.iconst 1, 1) := by decide +kernel
theorem dX9_origins_14 : decode cX9_origins 14 = .ok (.putfield 47, 3) := by decide +kernel
theorem dX9_origins_17 : decode cX9_origins 17 = .ok (.aload_n 0, 1) := by decide +kernel
theorem dX9_origins_18 : decode cX9_origins 18 = .ok (.getfield 47, 3) := by decide +kernel
theorem dX9_origins_21 : decode cX9_origins 21 = .ok (.ifCond .ne 15, 3) := by decide +kernel
theorem dX9_origins_24 : decode cX9_origins 24 = .ok (.aload_n 0, 1) := by decide +kernel
theorem dX9_origins_25 : decode cX9_origins 25 = .ok (.iload_n 1, 1) := by decide +kernel
theorem dX9_origins_26 : decode cX9_origins 26 = .ok (.iload_n 2, 1) := by decide +kernel
theorem dX9_origins_27 : decode cX9_origins 27 = .ok (.invokestatic 66, 3) := by decide +kernel
theorem dX9_origins_30 : decode cX9_origins 30 = .ok (.invokevirtual 114, 3) := by decide +kernel
theorem dX9_origins_33 : decode cX9_origins 33 = .ok (.goto 4, 3) := by decide +kernel
theorem dX9_origins_36 : decode cX9_origins 36 = .ok (.iconst 0, 1) := by decide +kernel
theorem dX9_origins_37 : decode cX9_origins 37 = .ok (.ireturn, 1) := by decide +kernel
theorem dX9_contested_0 : decode cX9_contested 0 = .ok (.aload_n 0, 1) := by decide +kernel
theorem dX9_contested_1 : decode cX9_contested 1 = .ok (.iconst 0, 1) := by decide +kernel
theorem dX9_contested_2 : decode cX9_contested 2 = .ok (.putfield 47, 3) := by decide +kernel
theorem dX9_contested_5 : decode cX9_contested 5 = .ok (.iconst 0, 1) := by decide +kernel
theorem dX9_contested_6 : decode cX9_contested 6 = .ok (.istore_n 1, 1) := by decide +kernel
theorem dX9_contested_7 : decode cX9_contested 7 = .ok (.iconst 1, 1) := by decide +kernel
theorem dX9_contested_8 : decode cX9_contested 8 = .ok (.istore_n 2, 1) := by decide +kernel
theorem dX9_contested_9 : decode cX9_contested 9 = .ok (.iload_n 2, 1) := by decide +kernel
theorem dX9_contested_10 : decode cX9_contested 10 = .ok (.sipush 512, 3) := by decide +kernel
theorem dX9_contested_13 : decode cX9_contested 13 = .ok (.if_icmp .ge 26, 3) := by decide +kernel
theorem dX9_contested_16 : decode cX9_contested 16 = .ok (.iload_n 1, 1) := by decide +kernel
theorem dX9_contested_17 : decode cX9_contested 17 = .ok (.aload_n 0, 1) := by decide +kernel
theorem dX9_contested_18 : decode cX9_contested 18 = .ok (.iload_n 2, 1) := by decide +kernel
theorem dX9_contested_19 : decode cX9_contested 19 = .ok (.invokevirtual 114, 3) := by decide +kernel
theorem dX9_contested_22 : decode cX9_contested 22 = .ok (.iconst 1, 1) := by decide +kernel
theorem dX9_contested_23 : decode cX9_contested 23 = .ok (.if_icmp .le 7, 3) := by decide +kernel
theorem dX9_contested_26 : decode cX9_contested 26 = .ok (.iconst 1, 1) := by decide +kernel
theorem dX9_contested_27 : decode cX9_contested 27 = .ok (.goto 4, 3) := by decide +kernel
theorem dX9_contested_30 : decode cX9_contested 30 = .ok (.iconst 0, 1) := by decide +kernel
theorem dX9_contested_31 : decode cX9_contested 31 = .ok (.iadd, 1) := by decide +kernel
theorem dX9_contested_32 : decode cX9_contested 32 = .ok (.istore_n 1, 1) := by decide +kernel
theorem dX9_contested_33 : decode cX9_contested 33 = .ok (.iinc 2 1, 3) := by decide +kernel
theorem dX9_contested_36 : decode cX9_contested 36 = .ok (.goto (-27), 3) := by decide +kernel
theorem dX9_contested_39 : decode cX9_contested 39 = .ok (.iload_n 1, 1) := by decide +kernel
theorem dX9_contested_40 : decode cX9_contested 40 = .ok (.ireturn, 1) := by decide +kernel
theorem dX9_isHijack_0 : decode cX9_isHijack 0 = .ok (.aload_n 0, 1) := by decide +kernel
theorem dX9_isHijack_1 : decode cX9_isHijack 1 = .ok (.iload_n 1, 1) := by decide +kernel
theorem dX9_isHijack_2 : decode cX9_isHijack 2 = .ok (.iload_n 2, 1) := by decide +kernel
theorem dX9_isHijack_3 : decode cX9_isHijack 3 = .ok (.iload_n 3, 1) := by decide +kernel
theorem dX9_isHijack_4 : decode cX9_isHijack 4 = .ok (.invokevirtual 92, 3) := by decide +kernel
theorem dX9_isHijack_7 : decode cX9_isHijack 7 = .ok (.istore 4, 2) := by decide +kernel
theorem dX9_isHijack_9 : decode cX9_isHijack 9 = .ok (.aload_n 0, 1) := by decide +kernel
theorem dX9_isHijack_10 : decode cX9_isHijack 10 = .ok (.getfield 47, 3) := by decide +kernel
theorem dX9_isHijack_13 : decode cX9_isHijack 13 = .ok (.ifCond .le 5, 3) := by decide +kernel
theorem dX9_isHijack_16 : decode cX9_isHijack 16 = .ok (.iconst 0, 1) := by decide +kernel
theorem dX9_isHijack_17 : decode cX9_isHijack 17 = .ok (.ireturn, 1) := by decide +kernel
theorem dX9_isHijack_18 : decode cX9_isHijack 18 = .ok (.aload_n 0, 1) := by decide +kernel
theorem dX9_isHijack_19 : decode cX9_isHijack 19 = .ok (.getfield 19, 3) := by decide +kernel
theorem dX9_isHijack_22 : decode cX9_isHijack 22 = .ok (.iload 4, 2) := by decide +kernel
theorem dX9_isHijack_24 : decode cX9_isHijack 24 = .ok (.iaload, 1) := by decide +kernel
theorem dX9_isHijack_25 : decode cX9_isHijack 25 = .ok (.iconst 1, 1) := by decide +kernel
theorem dX9_isHijack_26 : decode cX9_isHijack 26 = .ok (.ishr, 1) := by decide +kernel
theorem dX9_isHijack_27 : decode cX9_isHijack 27 = .ok (.istore 5, 2) := by decide +kernel
theorem dX9_isHijack_29 : decode cX9_isHijack 29 = .ok (.iload 5, 2) := by decide +kernel
theorem dX9_isHijack_31 : decode cX9_isHijack 31 = .ok (.ifCond .le 23, 3) := by decide +kernel
theorem dX9_isHijack_34 : decode cX9_isHijack 34 = .ok (.aload_n 0, 1) := by decide +kernel
theorem dX9_isHijack_35 : decode cX9_isHijack 35 = .ok (.iconst 0, 1) := by decide +kernel
theorem dX9_isHijack_36 : decode cX9_isHijack 36 = .ok (.iload 5, 2) := by decide +kernel
theorem dX9_isHijack_38 : decode cX9_isHijack 38 = .ok (.invokevirtual 70, 3) := by decide +kernel
theorem dX9_isHijack_41 : decode cX9_isHijack 41 = .ok (.iconst (-1), 1) := by decide +kernel
theorem dX9_isHijack_42 : decode cX9_isHijack 42 = .ok (.if_icmp .ne 12, 3) := by decide +kernel
theorem dX9_isHijack_45 : decode cX9_isHijack 45 = .ok (.iload 5, 2) := by decide +kernel
theorem dX9_isHijack_47 : decode cX9_isHijack 47 = .ok (.iconst 1, 1) := by decide +kernel
theorem dX9_isHijack_48 : decode cX9_isHijack 48 = .ok (.ishr, 1) := by decide +kernel
theorem dX9_isHijack_49 : decode cX9_isHijack 49 = .ok (.istore 5, 2) := by decide +kernel
theorem dX9_isHijack_51 : decode cX9_isHijack 51 = .ok (.goto (-22), 3) := by decide +kernel
theorem dX9_isHijack_54 : decode cX9_isHijack 54 = .ok (.iload 5, 2) := by decide +kernel
theorem dX9_isHijack_56 : decode cX9_isHijack 56 = .ok (.ifCond .le 7, 3) := by decide +kernel
theorem dX9_isHijack_59 : decode cX9_isHijack 59 = .ok (.iconst 1, 1) := by decide +kernel
theorem dX9_isHijack_60 : decode cX9_isHijack 60 = .ok (.goto 4, 3) := by decide +kernel
theorem dX9_isHijack_63 : decode cX9_isHijack 63 = .ok (.iconst 0, 1) := by decide +kernel
theorem dX9_isHijack_64 : decode cX9_isHijack 64 = .ok (.istore 6, 2) := by decide +kernel
theorem dX9_isHijack_66 : decode cX9_isHijack 66 = .ok (.iconst 0, 1) := by decide +kernel
theorem dX9_isHijack_67 : decode cX9_isHijack 67 = .ok (.istore 7, 2) := by decide +kernel
theorem dX9_isHijack_69 : decode cX9_isHijack 69 = .ok (.iload 7, 2) := by decide +kernel
theorem dX9_isHijack_71 : decode cX9_isHijack 71 = .ok (.bipush 6, 2) := by decide +kernel
theorem dX9_isHijack_73 : decode cX9_isHijack 73 = .ok (.if_icmp .ge 57, 3) := by decide +kernel
theorem dX9_isHijack_76 : decode cX9_isHijack 76 = .ok (.iload 6, 2) := by decide +kernel
theorem dX9_isHijack_78 : decode cX9_isHijack 78 = .ok (.ifCond .eq 52, 3) := by decide +kernel
theorem dX9_isHijack_81 : decode cX9_isHijack 81 = .ok (.aload_n 0, 1) := by decide +kernel
theorem dX9_isHijack_82 : decode cX9_isHijack 82 = .ok (.getfield 28, 3) := by decide +kernel
theorem dX9_isHijack_85 : decode cX9_isHijack 85 = .ok (.iconst 0, 1) := by decide +kernel
theorem dX9_isHijack_86 : decode cX9_isHijack 86 = .ok (.iload 7, 2) := by decide +kernel
theorem dX9_isHijack_88 : decode cX9_isHijack 88 = .ok (.iload 5, 2) := by decide +kernel
theorem dX9_isHijack_90 : decode cX9_isHijack 90 = .ok (.invokestatic 55, 3) := by decide +kernel
theorem dX9_isHijack_93 : decode cX9_isHijack 93 = .ok (.iaload, 1) := by decide +kernel
theorem dX9_isHijack_94 : decode cX9_isHijack 94 = .ok (.istore 8, 2) := by decide +kernel
theorem dX9_isHijack_96 : decode cX9_isHijack 96 = .ok (.iload 8, 2) := by decide +kernel
theorem dX9_isHijack_98 : decode cX9_isHijack 98 = .ok (.iconst (-1), 1) := by decide +kernel
theorem dX9_isHijack_99 : decode cX9_isHijack 99 = .ok (.if_icmp .eq 18, 3) := by decide +kernel
theorem dX9_isHijack_102 : decode cX9_isHijack 102 = .ok (.aload_n 0, 1) := by decide +kernel
theorem dX9_isHijack_103 : decode cX9_isHijack 103 = .ok (.iload 8, 2) := by decide +kernel
theorem dX9_isHijack_105 : decode cX9_isHijack 105 = .ok (.invokevirtual 111, 3) := by decide +kernel
theorem dX9_isHijack_108 : decode cX9_isHijack 108 = .ok (.aload_n 0, 1) := by decide +kernel
theorem dX9_isHijack_109 : decode cX9_isHijack 109 = .ok (.iload 4, 2) := by decide +kernel
theorem dX9_isHijack_111 : decode cX9_isHijack 111 = .ok (.invokevirtual 111, 3) := by decide +kernel
theorem dX9_isHijack_114 : decode cX9_isHijack 114 = .ok (.if_icmp .eq 7, 3) := by decide +kernel
theorem dX9_isHijack_117 : decode cX9_isHijack 117 = .ok (.iconst 1, 1) := by decide +kernel
theorem dX9_isHijack_118 : decode cX9_isHijack 118 = .ok (.goto 4, 3) := by decide +kernel
theorem dX9_isHijack_121 : decode cX9_isHijack 121 = .ok (.iconst 0, 1) := by decide +kernel
theorem dX9_isHijack_122 : decode cX9_isHijack 122 = .ok (.istore 6, 2) := by decide +kernel
theorem dX9_isHijack_124 : decode cX9_isHijack 124 = .ok (.iinc 7 1, 3) := by decide +kernel
theorem dX9_isHijack_127 : decode cX9_isHijack 127 = .ok (.goto (-58), 3) := by decide +kernel
theorem dX9_isHijack_130 : decode cX9_isHijack 130 = .ok (.iload 6, 2) := by decide +kernel
theorem dX9_isHijack_132 : decode cX9_isHijack 132 = .ok (.ireturn, 1) := by decide +kernel
theorem dX9_allow_0 : decode cX9_allow 0 = .ok (.aload_n 0, 1) := by decide +kernel
theorem dX9_allow_1 : decode cX9_allow 1 = .ok (.iload_n 1, 1) := by decide +kernel
theorem dX9_allow_2 : decode cX9_allow 2 = .ok (.iload_n 2, 1) := by decide +kernel
theorem dX9_allow_3 : decode cX9_allow 3 = .ok (.invokestatic 84, 3) := by decide +kernel
theorem dX9_allow_6 : decode cX9_allow 6 = .ok (.ifCond .eq 24, 3) := by decide +kernel
theorem dX9_allow_9 : decode cX9_allow 9 = .ok (.iload_n 3, 1) := by decide +kernel
theorem dX9_allow_10 : decode cX9_allow 10 = .ok (.iload_n 2, 1) := by decide +kernel
theorem dX9_allow_11 : decode cX9_allow 11 = .ok (.bipush 8, 2) := by decide +kernel
theorem dX9_allow_13 : decode cX9_allow 13 = .ok (.invokestatic 51, 3) := by decide +kernel
theorem dX9_allow_16 : decode cX9_allow 16 = .ok (.ifCond .eq 14, 3) := by decide +kernel
theorem dX9_allow_19 : decode cX9_allow 19 = .ok (.iload 4, 2) := by decide +kernel
theorem dX9_allow_21 : decode cX9_allow 21 = .ok (.iconst 1, 1) := by decide +kernel
theorem dX9_allow_22 : decode cX9_allow 22 = .ok (.bipush 30, 2) := by decide +kernel
theorem dX9_allow_24 : decode cX9_allow 24 = .ok (.invokestatic 51, 3) := by decide +kernel
theorem dX9_allow_27 : decode cX9_allow 27 = .ok (.ifCond .ne 7, 3) := by decide +kernel
theorem dX9_allow_30 : decode cX9_allow 30 = .ok (.iconst 1, 1) := by decide +kernel
theorem dX9_allow_31 : decode cX9_allow 31 = .ok (.goto 4, 3) := by decide +kernel
theorem dX9_allow_34 : decode cX9_allow 34 = .ok (.iconst 0, 1) := by decide +kernel
theorem dX9_allow_35 : decode cX9_allow 35 = .ok (.putfield 47, 3) := by decide +kernel
theorem dX9_allow_38 : decode cX9_allow 38 = .ok (.aload_n 0, 1) := by decide +kernel
theorem dX9_allow_39 : decode cX9_allow 39 = .ok (.getfield 47, 3) := by decide +kernel
theorem dX9_allow_42 : decode cX9_allow 42 = .ok (.ifCond .le 5, 3) := by decide +kernel
theorem dX9_allow_45 : decode cX9_allow 45 = .ok (.iconst 0, 1) := by decide +kernel
theorem dX9_allow_46 : decode cX9_allow 46 = .ok (.ireturn, 1) := by decide +kernel
theorem dX9_allow_47 : decode cX9_allow 47 = .ok (.iload_n 1, 1) := by decide +kernel
theorem dX9_allow_48 : decode cX9_allow 48 = .ok (.iload_n 2, 1) := by decide +kernel
theorem dX9_allow_49 : decode cX9_allow 49 = .ok (.invokestatic 66, 3) := by decide +kernel
theorem dX9_allow_52 : decode cX9_allow 52 = .ok (.istore 5, 2) := by decide +kernel
theorem dX9_allow_54 : decode cX9_allow 54 = .ok (.iconst 0, 1) := by decide +kernel
theorem dX9_allow_55 : decode cX9_allow 55 = .ok (.istore 6, 2) := by decide +kernel
theorem dX9_allow_57 : decode cX9_allow 57 = .ok (.iload 6, 2) := by decide +kernel
theorem dX9_allow_59 : decode cX9_allow 59 = .ok (.aload_n 0, 1) := by decide +kernel
theorem dX9_allow_60 : decode cX9_allow 60 = .ok (.getfield 117, 3) := by decide +kernel
theorem dX9_allow_63 : decode cX9_allow 63 = .ok (.if_icmp .ge 104, 3) := by decide +kernel
theorem dX9_allow_66 : decode cX9_allow 66 = .ok (.aload_n 0, 1) := by decide +kernel
theorem dX9_allow_67 : decode cX9_allow 67 = .ok (.getfield 31, 3) := by decide +kernel
theorem dX9_allow_70 : decode cX9_allow 70 = .ok (.iload 6, 2) := by decide +kernel
theorem dX9_allow_72 : decode cX9_allow 72 = .ok (.iaload, 1) := by decide +kernel
theorem dX9_allow_73 : decode cX9_allow 73 = .ok (.iload 5, 2) := by decide +kernel
theorem dX9_allow_75 : decode cX9_allow 75 = .ok (.if_icmp .ne 86, 3) := by decide +kernel
theorem dX9_allow_78 : decode cX9_allow 78 = .ok (.aload_n 0, 1) := by decide +kernel
theorem dX9_allow_79 : decode cX9_allow 79 = .ok (.getfield 34, 3) := by decide +kernel
theorem dX9_allow_82 : decode cX9_allow 82 = .ok (.iload 6, 2) := by decide +kernel
theorem dX9_allow_84 : decode cX9_allow 84 = .ok (.iaload, 1) := by decide +kernel
theorem dX9_allow_85 : decode cX9_allow 85 = .ok (.iload_n 3, 1) := by decide +kernel
theorem dX9_allow_86 : decode cX9_allow 86 = .ok (.if_icmp .ne 75, 3) := by decide +kernel
theorem dX9_allow_89 : decode cX9_allow 89 = .ok (.aload_n 0, 1) := by decide +kernel
theorem dX9_allow_90 : decode cX9_allow 90 = .ok (.getfield 37, 3) := by decide +kernel
theorem dX9_allow_93 : decode cX9_allow 93 = .ok (.iload 6, 2) := by decide +kernel
theorem dX9_allow_95 : decode cX9_allow 95 = .ok (.iaload, 1) := by decide +kernel
theorem dX9_allow_96 : decode cX9_allow 96 = .ok (.iload 4, 2) := by decide +kernel
theorem dX9_allow_98 : decode cX9_allow 98 = .ok (.if_icmp .ne 63, 3) := by decide +kernel
theorem dX9_allow_101 : decode cX9_allow 101 = .ok (.aload_n 0, 1) := by decide +kernel
theorem dX9_allow_102 : decode cX9_allow 102 = .ok (.dup, 1) := by decide +kernel
theorem dX9_allow_103 : decode cX9_allow 103 = .ok (.getfield 117, 3) := by decide +kernel
theorem dX9_allow_106 : decode cX9_allow 106 = .ok (.iconst 1, 1) := by decide +kernel
theorem dX9_allow_107 : decode cX9_allow 107 = .ok (.isub, 1) := by decide +kernel
theorem dX9_allow_108 : decode cX9_allow 108 = .ok (.putfield 117, 3) := by decide +kernel
theorem dX9_allow_111 : decode cX9_allow 111 = .ok (.aload_n 0, 1) := by decide +kernel
theorem dX9_allow_112 : decode cX9_allow 112 = .ok (.getfield 31, 3) := by decide +kernel
theorem dX9_allow_115 : decode cX9_allow 115 = .ok (.iload 6, 2) := by decide +kernel
theorem dX9_allow_117 : decode cX9_allow 117 = .ok (.aload_n 0, 1) := by decide +kernel
theorem dX9_allow_118 : decode cX9_allow 118 = .ok (.getfield 31, 3) := by decide +kernel
theorem dX9_allow_121 : decode cX9_allow 121 = .ok (.aload_n 0, 1) := by decide +kernel
theorem dX9_allow_122 : decode cX9_allow 122 = .ok (.getfield 117, 3) := by decide +kernel
theorem dX9_allow_125 : decode cX9_allow 125 = .ok (.iaload, 1) := by decide +kernel
theorem dX9_allow_126 : decode cX9_allow 126 = .ok (.iastore, 1) := by decide +kernel
theorem dX9_allow_127 : decode cX9_allow 127 = .ok (.aload_n 0, 1) := by decide +kernel
theorem dX9_allow_128 : decode cX9_allow 128 = .ok (.getfield 34, 3) := by decide +kernel
theorem dX9_allow_131 : decode cX9_allow 131 = .ok (.iload 6, 2) := by decide +kernel
theorem dX9_allow_133 : decode cX9_allow 133 = .ok (.aload_n 0, 1) := by decide +kernel
theorem dX9_allow_134 : decode cX9_allow 134 = .ok (.getfield 34, 3) := by decide +kernel
theorem dX9_allow_137 : decode cX9_allow 137 = .ok (.aload_n 0, 1) := by decide +kernel
theorem dX9_allow_138 : decode cX9_allow 138 = .ok (.getfield 117, 3) := by decide +kernel
theorem dX9_allow_141 : decode cX9_allow 141 = .ok (.iaload, 1) := by decide +kernel
theorem dX9_allow_142 : decode cX9_allow 142 = .ok (.iastore, 1) := by decide +kernel
theorem dX9_allow_143 : decode cX9_allow 143 = .ok (.aload_n 0, 1) := by decide +kernel
theorem dX9_allow_144 : decode cX9_allow 144 = .ok (.getfield 37, 3) := by decide +kernel
theorem dX9_allow_147 : decode cX9_allow 147 = .ok (.iload 6, 2) := by decide +kernel
theorem dX9_allow_149 : decode cX9_allow 149 = .ok (.aload_n 0, 1) := by decide +kernel
theorem dX9_allow_150 : decode cX9_allow 150 = .ok (.getfield 37, 3) := by decide +kernel
theorem dX9_allow_153 : decode cX9_allow 153 = .ok (.aload_n 0, 1) := by decide +kernel
theorem dX9_allow_154 : decode cX9_allow 154 = .ok (.getfield 117, 3) := by decide +kernel
theorem dX9_allow_157 : decode cX9_allow 157 = .ok (.iaload, 1) := by decide +kernel
theorem dX9_allow_158 : decode cX9_allow 158 = .ok (.iastore, 1) := by decide +kernel
theorem dX9_allow_159 : decode cX9_allow 159 = .ok (.iconst 0, 1) := by decide +kernel
theorem dX9_allow_160 : decode cX9_allow 160 = .ok (.ireturn, 1) := by decide +kernel
theorem dX9_allow_161 : decode cX9_allow 161 = .ok (.iinc 6 1, 3) := by decide +kernel
theorem dX9_allow_164 : decode cX9_allow 164 = .ok (.goto (-107), 3) := by decide +kernel
theorem dX9_allow_167 : decode cX9_allow 167 = .ok (.aload_n 0, 1) := by decide +kernel
theorem dX9_allow_168 : decode cX9_allow 168 = .ok (.aload_n 0, 1) := by decide +kernel
theorem dX9_allow_169 : decode cX9_allow 169 = .ok (.getfield 117, 3) := by decide +kernel
theorem dX9_allow_172 : decode cX9_allow 172 = .ok (.bipush 20, 2) := by decide +kernel
theorem dX9_allow_174 : decode cX9_allow 174 = .ok (.if_icmp .ne 7, 3) := by decide +kernel
theorem dX9_allow_177 : decode cX9_allow 177 = .ok (.iconst 2, 1) := by decide +kernel
theorem dX9_allow_178 : decode cX9_allow 178 = .ok (.goto 4, 3) := by decide +kernel
theorem dX9_allow_181 : decode cX9_allow 181 = .ok (.iconst 0, 1) := by decide +kernel
theorem dX9_allow_182 : decode cX9_allow 182 = .ok (.putfield 47, 3) := by decide +kernel
theorem dX9_allow_185 : decode cX9_allow 185 = .ok (.aload_n 0, 1) := by decide +kernel
theorem dX9_allow_186 : decode cX9_allow 186 = .ok (.getfield 47, 3) := by decide +kernel
theorem dX9_allow_189 : decode cX9_allow 189 = .ok (.ifCond .le 5, 3) := by decide +kernel
theorem dX9_allow_192 : decode cX9_allow 192 = .ok (.iconst 0, 1) := by decide +kernel
theorem dX9_allow_193 : decode cX9_allow 193 = .ok (.ireturn, 1) := by decide +kernel
theorem dX9_allow_194 : decode cX9_allow 194 = .ok (.aload_n 0, 1) := by decide +kernel
theorem dX9_allow_195 : decode cX9_allow 195 = .ok (.getfield 31, 3) := by decide +kernel
theorem dX9_allow_198 : decode cX9_allow 198 = .ok (.aload_n 0, 1) := by decide +kernel
theorem dX9_allow_199 : decode cX9_allow 199 = .ok (.getfield 117, 3) := by decide +kernel
theorem dX9_allow_202 : decode cX9_allow 202 = .ok (.iload 5, 2) := by decide +kernel
theorem dX9_allow_204 : decode cX9_allow 204 = .ok (.iastore, 1) := by decide +kernel
theorem dX9_allow_205 : decode cX9_allow 205 = .ok (.aload_n 0, 1) := by decide +kernel
theorem dX9_allow_206 : decode cX9_allow 206 = .ok (.getfield 34, 3) := by decide +kernel
theorem dX9_allow_209 : decode cX9_allow 209 = .ok (.aload_n 0, 1) := by decide +kernel
theorem dX9_allow_210 : decode cX9_allow 210 = .ok (.getfield 117, 3) := by decide +kernel
theorem dX9_allow_213 : decode cX9_allow 213 = .ok (.iload_n 3, 1) := by decide +kernel
theorem dX9_allow_214 : decode cX9_allow 214 = .ok (.iastore, 1) := by decide +kernel
theorem dX9_allow_215 : decode cX9_allow 215 = .ok (.aload_n 0, 1) := by decide +kernel
theorem dX9_allow_216 : decode cX9_allow 216 = .ok (.getfield 37, 3) := by decide +kernel
theorem dX9_allow_219 : decode cX9_allow 219 = .ok (.aload_n 0, 1) := by decide +kernel
theorem dX9_allow_220 : decode cX9_allow 220 = .ok (.getfield 117, 3) := by decide +kernel
theorem dX9_allow_223 : decode cX9_allow 223 = .ok (.iload 4, 2) := by decide +kernel
theorem dX9_allow_225 : decode cX9_allow 225 = .ok (.iastore, 1) := by decide +kernel
theorem dX9_allow_226 : decode cX9_allow 226 = .ok (.aload_n 0, 1) := by decide +kernel
theorem dX9_allow_227 : decode cX9_allow 227 = .ok (.dup, 1) := by decide +kernel
theorem dX9_allow_228 : decode cX9_allow 228 = .ok (.getfield 117, 3) := by decide +kernel
theorem dX9_allow_231 : decode cX9_allow 231 = .ok (.iconst 1, 1) := by decide +kernel
theorem dX9_allow_232 : decode cX9_allow 232 = .ok (.iadd, 1) := by decide +kernel
theorem dX9_allow_233 : decode cX9_allow 233 = .ok (.putfield 117, 3) := by decide +kernel
theorem dX9_allow_236 : decode cX9_allow 236 = .ok (.iconst 1, 1) := by decide +kernel
theorem dX9_allow_237 : decode cX9_allow 237 = .ok (.ireturn, 1) := by decide +kernel
theorem dX9_covers_0 : decode cX9_covers 0 = .ok (.iload_n 1, 1) := by decide +kernel
theorem dX9_covers_1 : decode cX9_covers 1 = .ok (.invokestatic 102, 3) := by decide +kernel
theorem dX9_covers_4 : decode cX9_covers 4 = .ok (.iload_n 0, 1) := by decide +kernel
theorem dX9_covers_5 : decode cX9_covers 5 = .ok (.invokestatic 102, 3) := by decide +kernel
theorem dX9_covers_8 : decode cX9_covers 8 = .ok (.isub, 1) := by decide +kernel
theorem dX9_covers_9 : decode cX9_covers 9 = .ok (.istore_n 2, 1) := by decide +kernel
theorem dX9_covers_10 : decode cX9_covers 10 = .ok (.iload_n 2, 1) := by decide +kernel
theorem dX9_covers_11 : decode cX9_covers 11 = .ok (.ifCond .lt 14, 3) := by decide +kernel
theorem dX9_covers_14 : decode cX9_covers 14 = .ok (.iload_n 1, 1) := by decide +kernel
theorem dX9_covers_15 : decode cX9_covers 15 = .ok (.iload_n 2, 1) := by decide +kernel
theorem dX9_covers_16 : decode cX9_covers 16 = .ok (.ishr, 1) := by decide +kernel
theorem dX9_covers_17 : decode cX9_covers 17 = .ok (.iload_n 0, 1) := by decide +kernel
theorem dX9_covers_18 : decode cX9_covers 18 = .ok (.if_icmp .ne 7, 3) := by decide +kernel
theorem dX9_covers_21 : decode cX9_covers 21 = .ok (.iconst 1, 1) := by decide +kernel
theorem dX9_covers_22 : decode cX9_covers 22 = .ok (.goto 4, 3) := by decide +kernel
theorem dX9_covers_25 : decode cX9_covers 25 = .ok (.iconst 0, 1) := by decide +kernel
theorem dX9_covers_26 : decode cX9_covers 26 = .ok (.ireturn, 1) := by decide +kernel
theorem dX9_verdict_0 : decode cX9_verdict 0 = .ok (.aload_n 0, 1) := by decide +kernel
theorem dX9_verdict_1 : decode cX9_verdict 1 = .ok (.iload_n 1, 1) := by decide +kernel
theorem dX9_verdict_2 : decode cX9_verdict 2 = .ok (.iload_n 2, 1) := by decide +kernel
theorem dX9_verdict_3 : decode cX9_verdict 3 = .ok (.iload_n 3, 1) := by decide +kernel
theorem dX9_verdict_4 : decode cX9_verdict 4 = .ok (.invokevirtual 92, 3) := by decide +kernel
theorem dX9_verdict_7 : decode cX9_verdict 7 = .ok (.istore 4, 2) := by decide +kernel
theorem dX9_verdict_9 : decode cX9_verdict 9 = .ok (.iconst 0, 1) := by decide +kernel
theorem dX9_verdict_10 : decode cX9_verdict 10 = .ok (.istore 5, 2) := by decide +kernel
theorem dX9_verdict_12 : decode cX9_verdict 12 = .ok (.iconst 0, 1) := by decide +kernel
theorem dX9_verdict_13 : decode cX9_verdict 13 = .ok (.istore 6, 2) := by decide +kernel
theorem dX9_verdict_15 : decode cX9_verdict 15 = .ok (.iload 6, 2) := by decide +kernel
theorem dX9_verdict_17 : decode cX9_verdict 17 = .ok (.aload_n 0, 1) := by decide +kernel
theorem dX9_verdict_18 : decode cX9_verdict 18 = .ok (.getfield 117, 3) := by decide +kernel
theorem dX9_verdict_21 : decode cX9_verdict 21 = .ok (.if_icmp .ge 88, 3) := by decide +kernel
theorem dX9_verdict_24 : decode cX9_verdict 24 = .ok (.aload_n 0, 1) := by decide +kernel
theorem dX9_verdict_25 : decode cX9_verdict 25 = .ok (.getfield 47, 3) := by decide +kernel
theorem dX9_verdict_28 : decode cX9_verdict 28 = .ok (.ifCond .ne 81, 3) := by decide +kernel
theorem dX9_verdict_31 : decode cX9_verdict 31 = .ok (.aload_n 0, 1) := by decide +kernel
theorem dX9_verdict_32 : decode cX9_verdict 32 = .ok (.getfield 31, 3) := by decide +kernel
theorem dX9_verdict_35 : decode cX9_verdict 35 = .ok (.iload 6, 2) := by decide +kernel
theorem dX9_verdict_37 : decode cX9_verdict 37 = .ok (.iaload, 1) := by decide +kernel
theorem dX9_verdict_38 : decode cX9_verdict 38 = .ok (.aload_n 0, 1) := by decide +kernel
theorem dX9_verdict_39 : decode cX9_verdict 39 = .ok (.getfield 19, 3) := by decide +kernel
theorem dX9_verdict_42 : decode cX9_verdict 42 = .ok (.iload 4, 2) := by decide +kernel
theorem dX9_verdict_44 : decode cX9_verdict 44 = .ok (.iaload, 1) := by decide +kernel
theorem dX9_verdict_45 : decode cX9_verdict 45 = .ok (.invokestatic 120, 3) := by decide +kernel
theorem dX9_verdict_48 : decode cX9_verdict 48 = .ok (.ifCond .eq 55, 3) := by decide +kernel
theorem dX9_verdict_51 : decode cX9_verdict 51 = .ok (.aload_n 0, 1) := by decide +kernel
theorem dX9_verdict_52 : decode cX9_verdict 52 = .ok (.getfield 37, 3) := by decide +kernel
theorem dX9_verdict_55 : decode cX9_verdict 55 = .ok (.iload 6, 2) := by decide +kernel
theorem dX9_verdict_57 : decode cX9_verdict 57 = .ok (.iaload, 1) := by decide +kernel
theorem dX9_verdict_58 : decode cX9_verdict 58 = .ok (.aload_n 0, 1) := by decide +kernel
theorem dX9_verdict_59 : decode cX9_verdict 59 = .ok (.iload 4, 2) := by decide +kernel
theorem dX9_verdict_61 : decode cX9_verdict 61 = .ok (.invokevirtual 111, 3) := by decide +kernel
theorem dX9_verdict_64 : decode cX9_verdict 64 = .ok (.if_icmp .ne 18, 3) := by decide +kernel
theorem dX9_verdict_67 : decode cX9_verdict 67 = .ok (.aload_n 0, 1) := by decide +kernel
theorem dX9_verdict_68 : decode cX9_verdict 68 = .ok (.getfield 34, 3) := by decide +kernel
theorem dX9_verdict_71 : decode cX9_verdict 71 = .ok (.iload 6, 2) := by decide +kernel
theorem dX9_verdict_73 : decode cX9_verdict 73 = .ok (.iaload, 1) := by decide +kernel
theorem dX9_verdict_74 : decode cX9_verdict 74 = .ok (.iload_n 3, 1) := by decide +kernel
theorem dX9_verdict_75 : decode cX9_verdict 75 = .ok (.if_icmp .lt 7, 3) := by decide +kernel
theorem dX9_verdict_78 : decode cX9_verdict 78 = .ok (.iconst 1, 1) := by decide +kernel
theorem dX9_verdict_79 : decode cX9_verdict 79 = .ok (.goto 4, 3) := by decide +kernel
theorem dX9_verdict_82 : decode cX9_verdict 82 = .ok (.iconst 0, 1) := by decide +kernel
theorem dX9_verdict_83 : decode cX9_verdict 83 = .ok (.istore 7, 2) := by decide +kernel
theorem dX9_verdict_85 : decode cX9_verdict 85 = .ok (.iload 7, 2) := by decide +kernel
theorem dX9_verdict_87 : decode cX9_verdict 87 = .ok (.ifCond .ne 9, 3) := by decide +kernel
theorem dX9_verdict_90 : decode cX9_verdict 90 = .ok (.iload 5, 2) := by decide +kernel
theorem dX9_verdict_92 : decode cX9_verdict 92 = .ok (.iconst 1, 1) := by decide +kernel
theorem dX9_verdict_93 : decode cX9_verdict 93 = .ok (.if_icmp .ne 7, 3) := by decide +kernel
theorem dX9_verdict_96 : decode cX9_verdict 96 = .ok (.iconst 1, 1) := by decide +kernel
theorem dX9_verdict_97 : decode cX9_verdict 97 = .ok (.goto 4, 3) := by decide +kernel
theorem dX9_verdict_100 : decode cX9_verdict 100 = .ok (.iconst 2, 1) := by decide +kernel
theorem dX9_verdict_101 : decode cX9_verdict 101 = .ok (.istore 5, 2) := by decide +kernel
theorem dX9_verdict_103 : decode cX9_verdict 103 = .ok (.iinc 6 1, 3) := by decide +kernel
theorem dX9_verdict_106 : decode cX9_verdict 106 = .ok (.goto (-91), 3) := by decide +kernel
theorem dX9_verdict_109 : decode cX9_verdict 109 = .ok (.iload 5, 2) := by decide +kernel
theorem dX9_verdict_111 : decode cX9_verdict 111 = .ok (.ireturn, 1) := by decide +kernel
theorem dX9_relate_0 : decode cX9_relate 0 = .ok (.aload_n 0, 1) := by decide +kernel
theorem dX9_relate_1 : decode cX9_relate 1 = .ok (.iload_n 1, 1) := by decide +kernel
theorem dX9_relate_2 : decode cX9_relate 2 = .ok (.iconst 1, 1) := by decide +kernel
theorem dX9_relate_3 : decode cX9_relate 3 = .ok (.bipush 30, 2) := by decide +kernel
theorem dX9_relate_5 : decode cX9_relate 5 = .ok (.invokestatic 51, 3) := by decide +kernel
theorem dX9_relate_8 : decode cX9_relate 8 = .ok (.ifCond .eq 27, 3) := by decide +kernel
theorem dX9_relate_11 : decode cX9_relate 11 = .ok (.iload_n 2, 1) := by decide +kernel
theorem dX9_relate_12 : decode cX9_relate 12 = .ok (.iconst 1, 1) := by decide +kernel
theorem dX9_relate_13 : decode cX9_relate 13 = .ok (.bipush 30, 2) := by decide +kernel
theorem dX9_relate_15 : decode cX9_relate 15 = .ok (.invokestatic 51, 3) := by decide +kernel
theorem dX9_relate_18 : decode cX9_relate 18 = .ok (.ifCond .eq 17, 3) := by decide +kernel
theorem dX9_relate_21 : decode cX9_relate 21 = .ok (.iload_n 1, 1) := by decide +kernel
theorem dX9_relate_22 : decode cX9_relate 22 = .ok (.iload_n 2, 1) := by decide +kernel
theorem dX9_relate_23 : decode cX9_relate 23 = .ok (.if_icmp .eq 12, 3) := by decide +kernel
theorem dX9_relate_26 : decode cX9_relate 26 = .ok (.iload_n 3, 1) := by decide +kernel
theorem dX9_relate_27 : decode cX9_relate 27 = .ok (.iconst 0, 1) := by decide +kernel
theorem dX9_relate_28 : decode cX9_relate 28 = .ok (.iconst 3, 1) := by decide +kernel
theorem dX9_relate_29 : decode cX9_relate 29 = .ok (.invokestatic 51, 3) := by decide +kernel
theorem dX9_relate_32 : decode cX9_relate 32 = .ok (.ifCond .ne 7, 3) := by decide +kernel
theorem dX9_relate_35 : decode cX9_relate 35 = .ok (.iconst 1, 1) := by decide +kernel
theorem dX9_relate_36 : decode cX9_relate 36 = .ok (.goto 4, 3) := by decide +kernel
theorem dX9_relate_39 : decode cX9_relate 39 = .ok (.iconst 0, 1) := by decide +kernel
theorem dX9_relate_40 : decode cX9_relate 40 = .ok (.putfield 47, 3) := by decide +kernel
theorem dX9_relate_43 : decode cX9_relate 43 = .ok (.aload_n 0, 1) := by decide +kernel
theorem dX9_relate_44 : decode cX9_relate 44 = .ok (.getfield 47, 3) := by decide +kernel
theorem dX9_relate_47 : decode cX9_relate 47 = .ok (.ifCond .le 5, 3) := by decide +kernel
theorem dX9_relate_50 : decode cX9_relate 50 = .ok (.iconst 0, 1) := by decide +kernel
theorem dX9_relate_51 : decode cX9_relate 51 = .ok (.ireturn, 1) := by decide +kernel
theorem dX9_relate_52 : decode cX9_relate 52 = .ok (.aload_n 0, 1) := by decide +kernel
theorem dX9_relate_53 : decode cX9_relate 53 = .ok (.getfield 40, 3) := by decide +kernel
theorem dX9_relate_56 : decode cX9_relate 56 = .ok (.bipush 31, 2) := by decide +kernel
theorem dX9_relate_58 : decode cX9_relate 58 = .ok (.iload_n 1, 1) := by decide +kernel
theorem dX9_relate_59 : decode cX9_relate 59 = .ok (.imul, 1) := by decide +kernel
theorem dX9_relate_60 : decode cX9_relate 60 = .ok (.iload_n 2, 1) := by decide +kernel
theorem dX9_relate_61 : decode cX9_relate 61 = .ok (.iadd, 1) := by decide +kernel
theorem dX9_relate_62 : decode cX9_relate 62 = .ok (.iaload, 1) := by decide +kernel
theorem dX9_relate_63 : decode cX9_relate 63 = .ok (.istore 4, 2) := by decide +kernel
theorem dX9_relate_65 : decode cX9_relate 65 = .ok (.aload_n 0, 1) := by decide +kernel
theorem dX9_relate_66 : decode cX9_relate 66 = .ok (.getfield 40, 3) := by decide +kernel
theorem dX9_relate_69 : decode cX9_relate 69 = .ok (.bipush 31, 2) := by decide +kernel
theorem dX9_relate_71 : decode cX9_relate 71 = .ok (.iload_n 1, 1) := by decide +kernel
theorem dX9_relate_72 : decode cX9_relate 72 = .ok (.imul, 1) := by decide +kernel
theorem dX9_relate_73 : decode cX9_relate 73 = .ok (.iload_n 2, 1) := by decide +kernel
theorem dX9_relate_74 : decode cX9_relate 74 = .ok (.iadd, 1) := by decide +kernel
theorem dX9_relate_75 : decode cX9_relate 75 = .ok (.iload_n 3, 1) := by decide +kernel
theorem dX9_relate_76 : decode cX9_relate 76 = .ok (.iastore, 1) := by decide +kernel
theorem dX9_relate_77 : decode cX9_relate 77 = .ok (.aload_n 0, 1) := by decide +kernel
theorem dX9_relate_78 : decode cX9_relate 78 = .ok (.getfield 40, 3) := by decide +kernel
theorem dX9_relate_81 : decode cX9_relate 81 = .ok (.bipush 31, 2) := by decide +kernel
theorem dX9_relate_83 : decode cX9_relate 83 = .ok (.iload_n 2, 1) := by decide +kernel
theorem dX9_relate_84 : decode cX9_relate 84 = .ok (.imul, 1) := by decide +kernel
theorem dX9_relate_85 : decode cX9_relate 85 = .ok (.iload_n 1, 1) := by decide +kernel
theorem dX9_relate_86 : decode cX9_relate 86 = .ok (.iadd, 1) := by decide +kernel
theorem dX9_relate_87 : decode cX9_relate 87 = .ok (.iload_n 3, 1) := by decide +kernel
theorem dX9_relate_88 : decode cX9_relate 88 = .ok (.ifCond .ne 7, 3) := by decide +kernel
theorem dX9_relate_91 : decode cX9_relate 91 = .ok (.iconst 0, 1) := by decide +kernel
theorem dX9_relate_92 : decode cX9_relate 92 = .ok (.goto 6, 3) := by decide +kernel
theorem dX9_relate_95 : decode cX9_relate 95 = .ok (.iconst 4, 1) := by decide +kernel
theorem dX9_relate_96 : decode cX9_relate 96 = .ok (.iload_n 3, 1) := by decide +kernel
theorem dX9_relate_97 : decode cX9_relate 97 = .ok (.isub, 1) := by decide +kernel
theorem dX9_relate_98 : decode cX9_relate 98 = .ok (.iastore, 1) := by decide +kernel
theorem dX9_relate_99 : decode cX9_relate 99 = .ok (.iload 4, 2) := by decide +kernel
theorem dX9_relate_101 : decode cX9_relate 101 = .ok (.ireturn, 1) := by decide +kernel
theorem dX9_valley_0 : decode cX9_valley 0 = .ok (.aload_n 0, 1) := by decide +kernel
theorem dX9_valley_1 : decode cX9_valley 1 = .ok (.iload_n 1, 1) := by decide +kernel
theorem dX9_valley_2 : decode cX9_valley 2 = .ok (.iload_n 2, 1) := by decide +kernel
theorem dX9_valley_3 : decode cX9_valley 3 = .ok (.iload_n 3, 1) := by decide +kernel
theorem dX9_valley_4 : decode cX9_valley 4 = .ok (.invokevirtual 92, 3) := by decide +kernel
theorem dX9_valley_7 : decode cX9_valley 7 = .ok (.istore 4, 2) := by decide +kernel
theorem dX9_valley_9 : decode cX9_valley 9 = .ok (.aload_n 0, 1) := by decide +kernel
theorem dX9_valley_10 : decode cX9_valley 10 = .ok (.getfield 47, 3) := by decide +kernel
theorem dX9_valley_13 : decode cX9_valley 13 = .ok (.ifCond .le 5, 3) := by decide +kernel
theorem dX9_valley_16 : decode cX9_valley 16 = .ok (.iconst 0, 1) := by decide +kernel
theorem dX9_valley_17 : decode cX9_valley 17 = .ok (.ireturn, 1) := by decide +kernel
theorem dX9_valley_18 : decode cX9_valley 18 = .ok (.iconst 0, 1) := by decide +kernel
theorem dX9_valley_19 : decode cX9_valley 19 = .ok (.istore 5, 2) := by decide +kernel
theorem dX9_valley_21 : decode cX9_valley 21 = .ok (.iconst 0, 1) := by decide +kernel
theorem dX9_valley_22 : decode cX9_valley 22 = .ok (.istore 6, 2) := by decide +kernel
theorem dX9_valley_24 : decode cX9_valley 24 = .ok (.iconst 0, 1) := by decide +kernel
theorem dX9_valley_25 : decode cX9_valley 25 = .ok (.istore 7, 2) := by decide +kernel
theorem dX9_valley_27 : decode cX9_valley 27 = .ok (.aload_n 0, 1) := by decide +kernel
theorem dX9_valley_28 : decode cX9_valley 28 = .ok (.getfield 22, 3) := by decide +kernel
theorem dX9_valley_31 : decode cX9_valley 31 = .ok (.iload 4, 2) := by decide +kernel
theorem dX9_valley_33 : decode cX9_valley 33 = .ok (.iaload, 1) := by decide +kernel
theorem dX9_valley_34 : decode cX9_valley 34 = .ok (.iconst 2, 1) := by decide +kernel
theorem dX9_valley_35 : decode cX9_valley 35 = .ok (.isub, 1) := by decide +kernel
theorem dX9_valley_36 : decode cX9_valley 36 = .ok (.istore 8, 2) := by decide +kernel
theorem dX9_valley_38 : decode cX9_valley 38 = .ok (.iload 8, 2) := by decide +kernel
theorem dX9_valley_40 : decode cX9_valley 40 = .ok (.ifCond .lt 132, 3) := by decide +kernel
theorem dX9_valley_43 : decode cX9_valley 43 = .ok (.aload_n 0, 1) := by decide +kernel
theorem dX9_valley_44 : decode cX9_valley 44 = .ok (.getfield 25, 3) := by decide +kernel
theorem dX9_valley_47 : decode cX9_valley 47 = .ok (.bipush 8, 2) := by decide +kernel
theorem dX9_valley_49 : decode cX9_valley 49 = .ok (.iload 4, 2) := by decide +kernel
theorem dX9_valley_51 : decode cX9_valley 51 = .ok (.imul, 1) := by decide +kernel
theorem dX9_valley_52 : decode cX9_valley 52 = .ok (.iload 8, 2) := by decide +kernel
theorem dX9_valley_54 : decode cX9_valley 54 = .ok (.iadd, 1) := by decide +kernel
theorem dX9_valley_55 : decode cX9_valley 55 = .ok (.iconst 1, 1) := by decide +kernel
theorem dX9_valley_56 : decode cX9_valley 56 = .ok (.iadd, 1) := by decide +kernel
theorem dX9_valley_57 : decode cX9_valley 57 = .ok (.iaload, 1) := by decide +kernel
theorem dX9_valley_58 : decode cX9_valley 58 = .ok (.istore 9, 2) := by decide +kernel
theorem dX9_valley_60 : decode cX9_valley 60 = .ok (.aload_n 0, 1) := by decide +kernel
theorem dX9_valley_61 : decode cX9_valley 61 = .ok (.getfield 25, 3) := by decide +kernel
theorem dX9_valley_64 : decode cX9_valley 64 = .ok (.bipush 8, 2) := by decide +kernel
theorem dX9_valley_66 : decode cX9_valley 66 = .ok (.iload 4, 2) := by decide +kernel
theorem dX9_valley_68 : decode cX9_valley 68 = .ok (.imul, 1) := by decide +kernel
theorem dX9_valley_69 : decode cX9_valley 69 = .ok (.iload 8, 2) := by decide +kernel
theorem dX9_valley_71 : decode cX9_valley 71 = .ok (.iadd, 1) := by decide +kernel
theorem dX9_valley_72 : decode cX9_valley 72 = .ok (.iaload, 1) := by decide +kernel
theorem dX9_valley_73 : decode cX9_valley 73 = .ok (.istore 10, 2) := by decide +kernel
theorem dX9_valley_75 : decode cX9_valley 75 = .ok (.aload_n 0, 1) := by decide +kernel
theorem dX9_valley_76 : decode cX9_valley 76 = .ok (.getfield 40, 3) := by decide +kernel
theorem dX9_valley_79 : decode cX9_valley 79 = .ok (.bipush 31, 2) := by decide +kernel
theorem dX9_valley_81 : decode cX9_valley 81 = .ok (.iload 10, 2) := by decide +kernel
theorem dX9_valley_83 : decode cX9_valley 83 = .ok (.imul, 1) := by decide +kernel
theorem dX9_valley_84 : decode cX9_valley 84 = .ok (.iload 9, 2) := by decide +kernel
theorem dX9_valley_86 : decode cX9_valley 86 = .ok (.iadd, 1) := by decide +kernel
theorem dX9_valley_87 : decode cX9_valley 87 = .ok (.iaload, 1) := by decide +kernel
theorem dX9_valley_88 : decode cX9_valley 88 = .ok (.istore 11, 2) := by decide +kernel
theorem dX9_valley_90 : decode cX9_valley 90 = .ok (.iload 5, 2) := by decide +kernel
theorem dX9_valley_92 : decode cX9_valley 92 = .ok (.ifCond .ne 15, 3) := by decide +kernel
theorem dX9_valley_95 : decode cX9_valley 95 = .ok (.iload 9, 2) := by decide +kernel
theorem dX9_valley_97 : decode cX9_valley 97 = .ok (.iload 10, 2) := by decide +kernel
theorem dX9_valley_99 : decode cX9_valley 99 = .ok (.if_icmp .eq 12, 3) := by decide +kernel
theorem dX9_valley_102 : decode cX9_valley 102 = .ok (.iload 11, 2) := by decide +kernel
theorem dX9_valley_104 : decode cX9_valley 104 = .ok (.ifCond .ne 7, 3) := by decide +kernel
theorem dX9_valley_107 : decode cX9_valley 107 = .ok (.iconst 1, 1) := by decide +kernel
theorem dX9_valley_108 : decode cX9_valley 108 = .ok (.goto 4, 3) := by decide +kernel
theorem dX9_valley_111 : decode cX9_valley 111 = .ok (.iconst 0, 1) := by decide +kernel
theorem dX9_valley_112 : decode cX9_valley 112 = .ok (.istore 5, 2) := by decide +kernel
theorem dX9_valley_114 : decode cX9_valley 114 = .ok (.iload 7, 2) := by decide +kernel
theorem dX9_valley_116 : decode cX9_valley 116 = .ok (.ifCond .ne 20, 3) := by decide +kernel
theorem dX9_valley_119 : decode cX9_valley 119 = .ok (.iload 6, 2) := by decide +kernel
theorem dX9_valley_121 : decode cX9_valley 121 = .ok (.ifCond .eq 19, 3) := by decide +kernel
theorem dX9_valley_124 : decode cX9_valley 124 = .ok (.iload 11, 2) := by decide +kernel
theorem dX9_valley_126 : decode cX9_valley 126 = .ok (.iconst 1, 1) := by decide +kernel
theorem dX9_valley_127 : decode cX9_valley 127 = .ok (.if_icmp .eq 9, 3) := by decide +kernel
theorem dX9_valley_130 : decode cX9_valley 130 = .ok (.iload 11, 2) := by decide +kernel
theorem dX9_valley_132 : decode cX9_valley 132 = .ok (.iconst 2, 1) := by decide +kernel
theorem dX9_valley_133 : decode cX9_valley 133 = .ok (.if_icmp .ne 7, 3) := by decide +kernel
theorem dX9_valley_136 : decode cX9_valley 136 = .ok (.iconst 1, 1) := by decide +kernel
theorem dX9_valley_137 : decode cX9_valley 137 = .ok (.goto 4, 3) := by decide +kernel
theorem dX9_valley_140 : decode cX9_valley 140 = .ok (.iconst 0, 1) := by decide +kernel
theorem dX9_valley_141 : decode cX9_valley 141 = .ok (.istore 7, 2) := by decide +kernel
theorem dX9_valley_143 : decode cX9_valley 143 = .ok (.iload 6, 2) := by decide +kernel
theorem dX9_valley_145 : decode cX9_valley 145 = .ok (.ifCond .ne 14, 3) := by decide +kernel
theorem dX9_valley_148 : decode cX9_valley 148 = .ok (.iload 11, 2) := by decide +kernel
theorem dX9_valley_150 : decode cX9_valley 150 = .ok (.ifCond .eq 13, 3) := by decide +kernel
theorem dX9_valley_153 : decode cX9_valley 153 = .ok (.iload 11, 2) := by decide +kernel
theorem dX9_valley_155 : decode cX9_valley 155 = .ok (.iconst 1, 1) := by decide +kernel
theorem dX9_valley_156 : decode cX9_valley 156 = .ok (.if_icmp .eq 7, 3) := by decide +kernel
theorem dX9_valley_159 : decode cX9_valley 159 = .ok (.iconst 1, 1) := by decide +kernel
theorem dX9_valley_160 : decode cX9_valley 160 = .ok (.goto 4, 3) := by decide +kernel
theorem dX9_valley_163 : decode cX9_valley 163 = .ok (.iconst 0, 1) := by decide +kernel
theorem dX9_valley_164 : decode cX9_valley 164 = .ok (.istore 6, 2) := by decide +kernel
theorem dX9_valley_166 : decode cX9_valley 166 = .ok (.iinc 8 (-1), 3) := by decide +kernel
theorem dX9_valley_169 : decode cX9_valley 169 = .ok (.goto (-131), 3) := by decide +kernel
theorem dX9_valley_172 : decode cX9_valley 172 = .ok (.iload 7, 2) := by decide +kernel
theorem dX9_valley_174 : decode cX9_valley 174 = .ok (.ifCond .eq 7, 3) := by decide +kernel
theorem dX9_valley_177 : decode cX9_valley 177 = .ok (.iconst 1, 1) := by decide +kernel
theorem dX9_valley_178 : decode cX9_valley 178 = .ok (.goto 13, 3) := by decide +kernel
theorem dX9_valley_181 : decode cX9_valley 181 = .ok (.iload 5, 2) := by decide +kernel
theorem dX9_valley_183 : decode cX9_valley 183 = .ok (.ifCond .eq 7, 3) := by decide +kernel
theorem dX9_valley_186 : decode cX9_valley 186 = .ok (.iconst 2, 1) := by decide +kernel
theorem dX9_valley_187 : decode cX9_valley 187 = .ok (.goto 4, 3) := by decide +kernel
theorem dX9_valley_190 : decode cX9_valley 190 = .ok (.iconst 0, 1) := by decide +kernel
theorem dX9_valley_191 : decode cX9_valley 191 = .ok (.ireturn, 1) := by decide +kernel
theorem dX9_lookUpAt_0 : decode cX9_lookUpAt 0 = .ok (.aload_n 0, 1) := by decide +kernel
theorem dX9_lookUpAt_1 : decode cX9_lookUpAt 1 = .ok (.iload_n 2, 1) := by decide +kernel
theorem dX9_lookUpAt_2 : decode cX9_lookUpAt 2 = .ok (.iconst 0, 1) := by decide +kernel
theorem dX9_lookUpAt_3 : decode cX9_lookUpAt 3 = .ok (.sipush 255, 3) := by decide +kernel
theorem dX9_lookUpAt_6 : decode cX9_lookUpAt 6 = .ok (.invokestatic 51, 3) := by decide +kernel
theorem dX9_lookUpAt_9 : decode cX9_lookUpAt 9 = .ok (.ifCond .eq 7, 3) := by decide +kernel
theorem dX9_lookUpAt_12 : decode cX9_lookUpAt 12 = .ok (.iconst 0, 1) := by decide +kernel
theorem dX9_lookUpAt_13 : decode cX9_lookUpAt 13 = .ok (.goto 4, 3) := by decide +kernel
theorem dX9_lookUpAt_16 : decode cX9_lookUpAt 16 = .ok (.iconst 1, 1) := by decide +kernel
theorem dX9_lookUpAt_17 : decode cX9_lookUpAt 17 = .ok (.putfield 47, 3) := by decide +kernel
theorem dX9_lookUpAt_20 : decode cX9_lookUpAt 20 = .ok (.aload_n 0, 1) := by decide +kernel
theorem dX9_lookUpAt_21 : decode cX9_lookUpAt 21 = .ok (.getfield 47, 3) := by decide +kernel
theorem dX9_lookUpAt_24 : decode cX9_lookUpAt 24 = .ok (.ifCond .le 5, 3) := by decide +kernel
theorem dX9_lookUpAt_27 : decode cX9_lookUpAt 27 = .ok (.iconst 0, 1) := by decide +kernel
theorem dX9_lookUpAt_28 : decode cX9_lookUpAt 28 = .ok (.ireturn, 1) := by decide +kernel
theorem dX9_lookUpAt_29 : decode cX9_lookUpAt 29 = .ok (.aload_n 0, 1) := by decide +kernel
theorem dX9_lookUpAt_30 : decode cX9_lookUpAt 30 = .ok (.iconst 1, 1) := by decide +kernel
theorem dX9_lookUpAt_31 : decode cX9_lookUpAt 31 = .ok (.iload_n 1, 1) := by decide +kernel
theorem dX9_lookUpAt_32 : decode cX9_lookUpAt 32 = .ok (.invokevirtual 123, 3) := by decide +kernel
theorem dX9_lookUpAt_35 : decode cX9_lookUpAt 35 = .ok (.aload_n 0, 1) := by decide +kernel
theorem dX9_lookUpAt_36 : decode cX9_lookUpAt 36 = .ok (.iconst 1, 1) := by decide +kernel
theorem dX9_lookUpAt_37 : decode cX9_lookUpAt 37 = .ok (.iload_n 2, 1) := by decide +kernel
theorem dX9_lookUpAt_38 : decode cX9_lookUpAt 38 = .ok (.invokevirtual 105, 3) := by decide +kernel
theorem dX9_lookUpAt_41 : decode cX9_lookUpAt 41 = .ok (.ireturn, 1) := by decide +kernel
theorem dX9_originAt_0 : decode cX9_originAt 0 = .ok (.aload_n 0, 1) := by decide +kernel
theorem dX9_originAt_1 : decode cX9_originAt 1 = .ok (.iload_n 2, 1) := by decide +kernel
theorem dX9_originAt_2 : decode cX9_originAt 2 = .ok (.iconst 0, 1) := by decide +kernel
theorem dX9_originAt_3 : decode cX9_originAt 3 = .ok (.sipush 255, 3) := by decide +kernel
theorem dX9_originAt_6 : decode cX9_originAt 6 = .ok (.invokestatic 51, 3) := by decide +kernel
theorem dX9_originAt_9 : decode cX9_originAt 9 = .ok (.ifCond .eq 7, 3) := by decide +kernel
theorem dX9_originAt_12 : decode cX9_originAt 12 = .ok (.iconst 0, 1) := by decide +kernel
theorem dX9_originAt_13 : decode cX9_originAt 13 = .ok (.goto 4, 3) := by decide +kernel
theorem dX9_originAt_16 : decode cX9_originAt 16 = .ok (.iconst 1, 1) := by decide +kernel
theorem dX9_originAt_17 : decode cX9_originAt 17 = .ok (.putfield 47, 3) := by decide +kernel
theorem dX9_originAt_20 : decode cX9_originAt 20 = .ok (.aload_n 0, 1) := by decide +kernel
theorem dX9_originAt_21 : decode cX9_originAt 21 = .ok (.getfield 47, 3) := by decide +kernel
theorem dX9_originAt_24 : decode cX9_originAt 24 = .ok (.ifCond .le 5, 3) := by decide +kernel
theorem dX9_originAt_27 : decode cX9_originAt 27 = .ok (.iconst 0, 1) := by decide +kernel
theorem dX9_originAt_28 : decode cX9_originAt 28 = .ok (.ireturn, 1) := by decide +kernel
theorem dX9_originAt_29 : decode cX9_originAt 29 = .ok (.aload_n 0, 1) := by decide +kernel
theorem dX9_originAt_30 : decode cX9_originAt 30 = .ok (.iconst 1, 1) := by decide +kernel
theorem dX9_originAt_31 : decode cX9_originAt 31 = .ok (.iload_n 1, 1) := by decide +kernel
theorem dX9_originAt_32 : decode cX9_originAt 32 = .ok (.invokevirtual 123, 3) := by decide +kernel
theorem dX9_originAt_35 : decode cX9_originAt 35 = .ok (.aload_n 0, 1) := by decide +kernel
theorem dX9_originAt_36 : decode cX9_originAt 36 = .ok (.iconst 1, 1) := by decide +kernel
theorem dX9_originAt_37 : decode cX9_originAt 37 = .ok (.iload_n 2, 1) := by decide +kernel
theorem dX9_originAt_38 : decode cX9_originAt 38 = .ok (.invokevirtual 99, 3) := by decide +kernel
theorem dX9_originAt_41 : decode cX9_originAt 41 = .ok (.istore_n 3, 1) := by decide +kernel
theorem dX9_originAt_42 : decode cX9_originAt 42 = .ok (.iload_n 3, 1) := by decide +kernel
theorem dX9_originAt_43 : decode cX9_originAt 43 = .ok (.ifCond .ne 7, 3) := by decide +kernel
theorem dX9_originAt_46 : decode cX9_originAt 46 = .ok (.iconst (-1), 1) := by decide +kernel
theorem dX9_originAt_47 : decode cX9_originAt 47 = .ok (.goto 13, 3) := by decide +kernel
theorem dX9_originAt_50 : decode cX9_originAt 50 = .ok (.aload_n 0, 1) := by decide +kernel
theorem dX9_originAt_51 : decode cX9_originAt 51 = .ok (.aload_n 0, 1) := by decide +kernel
theorem dX9_originAt_52 : decode cX9_originAt 52 = .ok (.iconst 1, 1) := by decide +kernel
theorem dX9_originAt_53 : decode cX9_originAt 53 = .ok (.iload_n 3, 1) := by decide +kernel
theorem dX9_originAt_54 : decode cX9_originAt 54 = .ok (.invokevirtual 70, 3) := by decide +kernel
theorem dX9_originAt_57 : decode cX9_originAt 57 = .ok (.invokevirtual 111, 3) := by decide +kernel
theorem dX9_originAt_60 : decode cX9_originAt 60 = .ok (.ireturn, 1) := by decide +kernel
theorem dX9_areAlike_0 : decode cX9_areAlike 0 = .ok (.iload_n 1, 1) := by decide +kernel
theorem dX9_areAlike_1 : decode cX9_areAlike 1 = .ok (.iconst (-1), 1) := by decide +kernel
theorem dX9_areAlike_2 : decode cX9_areAlike 2 = .ok (.if_icmp .eq 8, 3) := by decide +kernel
theorem dX9_areAlike_5 : decode cX9_areAlike 5 = .ok (.iload_n 2, 1) := by decide +kernel
theorem dX9_areAlike_6 : decode cX9_areAlike 6 = .ok (.iconst (-1), 1) := by decide +kernel
theorem dX9_areAlike_7 : decode cX9_areAlike 7 = .ok (.if_icmp .ne 14, 3) := by decide +kernel
theorem dX9_areAlike_10 : decode cX9_areAlike 10 = .ok (.iload_n 1, 1) := by decide +kernel
theorem dX9_areAlike_11 : decode cX9_areAlike 11 = .ok (.iload_n 2, 1) := by decide +kernel
theorem dX9_areAlike_12 : decode cX9_areAlike 12 = .ok (.if_icmp .ne 7, 3) := by decide +kernel
theorem dX9_areAlike_15 : decode cX9_areAlike 15 = .ok (.iconst 1, 1) := by decide +kernel
theorem dX9_areAlike_16 : decode cX9_areAlike 16 = .ok (.goto 4, 3) := by decide +kernel
theorem dX9_areAlike_19 : decode cX9_areAlike 19 = .ok (.iconst 0, 1) := by decide +kernel
theorem dX9_areAlike_20 : decode cX9_areAlike 20 = .ok (.ireturn, 1) := by decide +kernel
theorem dX9_areAlike_21 : decode cX9_areAlike 21 = .ok (.aload_n 0, 1) := by decide +kernel
theorem dX9_areAlike_22 : decode cX9_areAlike 22 = .ok (.getfield 16, 3) := by decide +kernel
theorem dX9_areAlike_25 : decode cX9_areAlike 25 = .ok (.iload_n 1, 1) := by decide +kernel
theorem dX9_areAlike_26 : decode cX9_areAlike 26 = .ok (.iaload, 1) := by decide +kernel
theorem dX9_areAlike_27 : decode cX9_areAlike 27 = .ok (.aload_n 0, 1) := by decide +kernel
theorem dX9_areAlike_28 : decode cX9_areAlike 28 = .ok (.getfield 16, 3) := by decide +kernel
theorem dX9_areAlike_31 : decode cX9_areAlike 31 = .ok (.iload_n 2, 1) := by decide +kernel
theorem dX9_areAlike_32 : decode cX9_areAlike 32 = .ok (.iaload, 1) := by decide +kernel
theorem dX9_areAlike_33 : decode cX9_areAlike 33 = .ok (.if_icmp .ne 22, 3) := by decide +kernel
theorem dX9_areAlike_36 : decode cX9_areAlike 36 = .ok (.aload_n 0, 1) := by decide +kernel
theorem dX9_areAlike_37 : decode cX9_areAlike 37 = .ok (.getfield 22, 3) := by decide +kernel
theorem dX9_areAlike_40 : decode cX9_areAlike 40 = .ok (.iload_n 1, 1) := by decide +kernel
theorem dX9_areAlike_41 : decode cX9_areAlike 41 = .ok (.iaload, 1) := by decide +kernel
theorem dX9_areAlike_42 : decode cX9_areAlike 42 = .ok (.aload_n 0, 1) := by decide +kernel
theorem dX9_areAlike_43 : decode cX9_areAlike 43 = .ok (.getfield 22, 3) := by decide +kernel
theorem dX9_areAlike_46 : decode cX9_areAlike 46 = .ok (.iload_n 2, 1) := by decide +kernel
theorem dX9_areAlike_47 : decode cX9_areAlike 47 = .ok (.iaload, 1) := by decide +kernel
theorem dX9_areAlike_48 : decode cX9_areAlike 48 = .ok (.if_icmp .ne 7, 3) := by decide +kernel
theorem dX9_areAlike_51 : decode cX9_areAlike 51 = .ok (.iconst 1, 1) := by decide +kernel
theorem dX9_areAlike_52 : decode cX9_areAlike 52 = .ok (.goto 4, 3) := by decide +kernel
theorem dX9_areAlike_55 : decode cX9_areAlike 55 = .ok (.iconst 0, 1) := by decide +kernel
theorem dX9_areAlike_56 : decode cX9_areAlike 56 = .ok (.istore_n 3, 1) := by decide +kernel
theorem dX9_areAlike_57 : decode cX9_areAlike 57 = .ok (.iconst 0, 1) := by decide +kernel
theorem dX9_areAlike_58 : decode cX9_areAlike 58 = .ok (.istore 4, 2) := by decide +kernel
theorem dX9_areAlike_60 : decode cX9_areAlike 60 = .ok (.iload 4, 2) := by decide +kernel
theorem dX9_areAlike_62 : decode cX9_areAlike 62 = .ok (.aload_n 0, 1) := by decide +kernel
theorem dX9_areAlike_63 : decode cX9_areAlike 63 = .ok (.getfield 22, 3) := by decide +kernel
theorem dX9_areAlike_66 : decode cX9_areAlike 66 = .ok (.iload_n 1, 1) := by decide +kernel
theorem dX9_areAlike_67 : decode cX9_areAlike 67 = .ok (.iaload, 1) := by decide +kernel
theorem dX9_areAlike_68 : decode cX9_areAlike 68 = .ok (.if_icmp .ge 46, 3) := by decide +kernel
theorem dX9_areAlike_71 : decode cX9_areAlike 71 = .ok (.iload_n 3, 1) := by decide +kernel
theorem dX9_areAlike_72 : decode cX9_areAlike 72 = .ok (.ifCond .eq 42, 3) := by decide +kernel
theorem dX9_areAlike_75 : decode cX9_areAlike 75 = .ok (.aload_n 0, 1) := by decide +kernel
theorem dX9_areAlike_76 : decode cX9_areAlike 76 = .ok (.getfield 25, 3) := by decide +kernel
theorem dX9_areAlike_79 : decode cX9_areAlike 79 = .ok (.bipush 8, 2) := by decide +kernel
theorem dX9_areAlike_81 : decode cX9_areAlike 81 = .ok (.iload_n 1, 1) := by decide +kernel
theorem dX9_areAlike_82 : decode cX9_areAlike 82 = .ok (.imul, 1) := by decide +kernel
theorem dX9_areAlike_83 : decode cX9_areAlike 83 = .ok (.iload 4, 2) := by decide +kernel
theorem dX9_areAlike_85 : decode cX9_areAlike 85 = .ok (.iadd, 1) := by decide +kernel
theorem dX9_areAlike_86 : decode cX9_areAlike 86 = .ok (.iaload, 1) := by decide +kernel
theorem dX9_areAlike_87 : decode cX9_areAlike 87 = .ok (.aload_n 0, 1) := by decide +kernel
theorem dX9_areAlike_88 : decode cX9_areAlike 88 = .ok (.getfield 25, 3) := by decide +kernel
theorem dX9_areAlike_91 : decode cX9_areAlike 91 = .ok (.bipush 8, 2) := by decide +kernel
theorem dX9_areAlike_93 : decode cX9_areAlike 93 = .ok (.iload_n 2, 1) := by decide +kernel
theorem dX9_areAlike_94 : decode cX9_areAlike 94 = .ok (.imul, 1) := by decide +kernel
theorem dX9_areAlike_95 : decode cX9_areAlike 95 = .ok (.iload 4, 2) := by decide +kernel
theorem dX9_areAlike_97 : decode cX9_areAlike 97 = .ok (.iadd, 1) := by decide +kernel
theorem dX9_areAlike_98 : decode cX9_areAlike 98 = .ok (.iaload, 1) := by decide +kernel
theorem dX9_areAlike_99 : decode cX9_areAlike 99 = .ok (.if_icmp .ne 7, 3) := by decide +kernel
theorem dX9_areAlike_102 : decode cX9_areAlike 102 = .ok (.iconst 1, 1) := by decide +kernel
theorem dX9_areAlike_103 : decode cX9_areAlike 103 = .ok (.goto 4, 3) := by decide +kernel
theorem dX9_areAlike_106 : decode cX9_areAlike 106 = .ok (.iconst 0, 1) := by decide +kernel
theorem dX9_areAlike_107 : decode cX9_areAlike 107 = .ok (.istore_n 3, 1) := by decide +kernel
theorem dX9_areAlike_108 : decode cX9_areAlike 108 = .ok (.iinc 4 1, 3) := by decide +kernel
theorem dX9_areAlike_111 : decode cX9_areAlike 111 = .ok (.goto (-51), 3) := by decide +kernel
theorem dX9_areAlike_114 : decode cX9_areAlike 114 = .ok (.iload_n 3, 1) := by decide +kernel
theorem dX9_areAlike_115 : decode cX9_areAlike 115 = .ok (.ireturn, 1) := by decide +kernel
theorem dX9_changes_0 : decode cX9_changes 0 = .ok (.aload_n 0, 1) := by decide +kernel
theorem dX9_changes_1 : decode cX9_changes 1 = .ok (.iconst 0, 1) := by decide +kernel
theorem dX9_changes_2 : decode cX9_changes 2 = .ok (.putfield 47, 3) := by decide +kernel
theorem dX9_changes_5 : decode cX9_changes 5 = .ok (.aload_n 0, 1) := by decide +kernel
theorem dX9_changes_6 : decode cX9_changes 6 = .ok (.iconst 1, 1) := by decide +kernel
theorem dX9_changes_7 : decode cX9_changes 7 = .ok (.iload_n 1, 1) := by decide +kernel
theorem dX9_changes_8 : decode cX9_changes 8 = .ok (.invokevirtual 123, 3) := by decide +kernel
theorem dX9_changes_11 : decode cX9_changes 11 = .ok (.aload_n 0, 1) := by decide +kernel
theorem dX9_changes_12 : decode cX9_changes 12 = .ok (.iconst 2, 1) := by decide +kernel
theorem dX9_changes_13 : decode cX9_changes 13 = .ok (.iload_n 2, 1) := by decide +kernel
theorem dX9_changes_14 : decode cX9_changes 14 = .ok (.invokevirtual 123, 3) := by decide +kernel
theorem dX9_changes_17 : decode cX9_changes 17 = .ok (.iconst 0, 1) := by decide +kernel
theorem dX9_changes_18 : decode cX9_changes 18 = .ok (.istore_n 3, 1) := by decide +kernel
theorem dX9_changes_19 : decode cX9_changes 19 = .ok (.iconst 1, 1) := by decide +kernel
theorem dX9_changes_20 : decode cX9_changes 20 = .ok (.istore 4, 2) := by decide +kernel
theorem dX9_changes_22 : decode cX9_changes 22 = .ok (.iload 4, 2) := by decide +kernel
theorem dX9_changes_24 : decode cX9_changes 24 = .ok (.sipush 512, 3) := by decide +kernel
theorem dX9_changes_27 : decode cX9_changes 27 = .ok (.if_icmp .ge 38, 3) := by decide +kernel
theorem dX9_changes_30 : decode cX9_changes 30 = .ok (.iload_n 3, 1) := by decide +kernel
theorem dX9_changes_31 : decode cX9_changes 31 = .ok (.aload_n 0, 1) := by decide +kernel
theorem dX9_changes_32 : decode cX9_changes 32 = .ok (.aload_n 0, 1) := by decide +kernel
theorem dX9_changes_33 : decode cX9_changes 33 = .ok (.iconst 1, 1) := by decide +kernel
theorem dX9_changes_34 : decode cX9_changes 34 = .ok (.iload 4, 2) := by decide +kernel
theorem dX9_changes_36 : decode cX9_changes 36 = .ok (.invokevirtual 70, 3) := by decide +kernel
theorem dX9_changes_39 : decode cX9_changes 39 = .ok (.aload_n 0, 1) := by decide +kernel
theorem dX9_changes_40 : decode cX9_changes 40 = .ok (.iconst 2, 1) := by decide +kernel
theorem dX9_changes_41 : decode cX9_changes 41 = .ok (.iload 4, 2) := by decide +kernel
theorem dX9_changes_43 : decode cX9_changes 43 = .ok (.invokevirtual 70, 3) := by decide +kernel
theorem dX9_changes_46 : decode cX9_changes 46 = .ok (.invokevirtual 126, 3) := by decide +kernel
theorem dX9_changes_49 : decode cX9_changes 49 = .ok (.ifCond .eq 7, 3) := by decide +kernel
theorem dX9_changes_52 : decode cX9_changes 52 = .ok (.iconst 0, 1) := by decide +kernel
theorem dX9_changes_53 : decode cX9_changes 53 = .ok (.goto 4, 3) := by decide +kernel
theorem dX9_changes_56 : decode cX9_changes 56 = .ok (.iconst 1, 1) := by decide +kernel
theorem dX9_changes_57 : decode cX9_changes 57 = .ok (.iadd, 1) := by decide +kernel
theorem dX9_changes_58 : decode cX9_changes 58 = .ok (.istore_n 3, 1) := by decide +kernel
theorem dX9_changes_59 : decode cX9_changes 59 = .ok (.iinc 4 1, 3) := by decide +kernel
theorem dX9_changes_62 : decode cX9_changes 62 = .ok (.goto (-40), 3) := by decide +kernel
theorem dX9_changes_65 : decode cX9_changes 65 = .ok (.iload_n 3, 1) := by decide +kernel
theorem dX9_changes_66 : decode cX9_changes 66 = .ok (.ireturn, 1) := by decide +kernel
end
section
theorem dL_pass_0 : decode cL_pass 0 = .ok (.aload_n 2, 1) := by decide +kernel
theorem dL_pass_1 : decode cL_pass 1 = .ok (.iconst 0, 1) := by decide +kernel
theorem dL_pass_2 : decode cL_pass 2 = .ok (.aload_n 0, 1) := by decide +kernel
theorem dL_pass_3 : decode cL_pass 3 = .ok (.iload_n 1, 1) := by decide +kernel
theorem dL_pass_4 : decode cL_pass 4 = .ok (.invokevirtual 7, 3) := by decide +kernel
theorem dL_pass_7 : decode cL_pass 7 = .ok (.i2l, 1) := by decide +kernel
theorem dL_pass_8 : decode cL_pass 8 = .ok (.lastore, 1) := by decide +kernel
theorem dL_pass_9 : decode cL_pass 9 = .ok (.goto 9, 3) := by decide +kernel
theorem dL_pass_12 : decode cL_pass 12 = .ok (.astore_n 3, 1) := by decide +kernel
theorem dL_pass_13 : decode cL_pass 13 = .ok (.iconst 1, 1) := by decide +kernel
theorem dL_pass_14 : decode cL_pass 14 = .ok (.ireturn, 1) := by decide +kernel
theorem dL_pass_15 : decode cL_pass 15 = .ok (.astore_n 3, 1) := by decide +kernel
theorem dL_pass_16 : decode cL_pass 16 = .ok (.iconst 2, 1) := by decide +kernel
theorem dL_pass_17 : decode cL_pass 17 = .ok (.ireturn, 1) := by decide +kernel
theorem dL_pass_18 : decode cL_pass 18 = .ok (.iconst 0, 1) := by decide +kernel
theorem dL_pass_19 : decode cL_pass 19 = .ok (.ireturn, 1) := by decide +kernel
theorem dL_hop_0 : decode cL_hop 0 = .ok (.aload_n 2, 1) := by decide +kernel
theorem dL_hop_1 : decode cL_hop 1 = .ok (.iconst 0, 1) := by decide +kernel
theorem dL_hop_2 : decode cL_hop 2 = .ok (.aload_n 0, 1) := by decide +kernel
theorem dL_hop_3 : decode cL_hop 3 = .ok (.iload_n 1, 1) := by decide +kernel
theorem dL_hop_4 : decode cL_hop 4 = .ok (.invokevirtual 17, 3) := by decide +kernel
theorem dL_hop_7 : decode cL_hop 7 = .ok (.i2l, 1) := by decide +kernel
theorem dL_hop_8 : decode cL_hop 8 = .ok (.lastore, 1) := by decide +kernel
theorem dL_hop_9 : decode cL_hop 9 = .ok (.goto 9, 3) := by decide +kernel
theorem dL_hop_12 : decode cL_hop 12 = .ok (.astore_n 3, 1) := by decide +kernel
theorem dL_hop_13 : decode cL_hop 13 = .ok (.iconst 1, 1) := by decide +kernel
theorem dL_hop_14 : decode cL_hop 14 = .ok (.ireturn, 1) := by decide +kernel
theorem dL_hop_15 : decode cL_hop 15 = .ok (.astore_n 3, 1) := by decide +kernel
theorem dL_hop_16 : decode cL_hop 16 = .ok (.iconst 2, 1) := by decide +kernel
theorem dL_hop_17 : decode cL_hop 17 = .ok (.ireturn, 1) := by decide +kernel
theorem dL_hop_18 : decode cL_hop 18 = .ok (.iconst 0, 1) := by decide +kernel
theorem dL_hop_19 : decode cL_hop 19 = .ok (.ireturn, 1) := by decide +kernel
theorem dL_announce_0 : decode cL_announce 0 = .ok (.aload 4, 2) := by decide +kernel
theorem dL_announce_2 : decode cL_announce 2 = .ok (.iconst 0, 1) := by decide +kernel
theorem dL_announce_3 : decode cL_announce 3 = .ok (.aload_n 0, 1) := by decide +kernel
theorem dL_announce_4 : decode cL_announce 4 = .ok (.iload_n 1, 1) := by decide +kernel
theorem dL_announce_5 : decode cL_announce 5 = .ok (.iload_n 2, 1) := by decide +kernel
theorem dL_announce_6 : decode cL_announce 6 = .ok (.iload_n 3, 1) := by decide +kernel
theorem dL_announce_7 : decode cL_announce 7 = .ok (.invokevirtual 20, 3) := by decide +kernel
theorem dL_announce_10 : decode cL_announce 10 = .ok (.ifCond .eq 7, 3) := by decide +kernel
theorem dL_announce_13 : decode cL_announce 13 = .ok (.lconst 1, 1) := by decide +kernel
theorem dL_announce_14 : decode cL_announce 14 = .ok (.goto 4, 3) := by decide +kernel
theorem dL_announce_17 : decode cL_announce 17 = .ok (.lconst 0, 1) := by decide +kernel
theorem dL_announce_18 : decode cL_announce 18 = .ok (.lastore, 1) := by decide +kernel
theorem dL_announce_19 : decode cL_announce 19 = .ok (.goto 15, 3) := by decide +kernel
theorem dL_announce_22 : decode cL_announce 22 = .ok (.astore 5, 2) := by decide +kernel
theorem dL_announce_24 : decode cL_announce 24 = .ok (.iconst 1, 1) := by decide +kernel
theorem dL_announce_25 : decode cL_announce 25 = .ok (.ireturn, 1) := by decide +kernel
theorem dL_announce_26 : decode cL_announce 26 = .ok (.astore 5, 2) := by decide +kernel
theorem dL_announce_28 : decode cL_announce 28 = .ok (.iconst 2, 1) := by decide +kernel
theorem dL_announce_29 : decode cL_announce 29 = .ok (.ireturn, 1) := by decide +kernel
theorem dL_announce_30 : decode cL_announce 30 = .ok (.astore 5, 2) := by decide +kernel
theorem dL_announce_32 : decode cL_announce 32 = .ok (.iconst 3, 1) := by decide +kernel
theorem dL_announce_33 : decode cL_announce 33 = .ok (.ireturn, 1) := by decide +kernel
theorem dL_announce_34 : decode cL_announce 34 = .ok (.iconst 0, 1) := by decide +kernel
theorem dL_announce_35 : decode cL_announce 35 = .ok (.ireturn, 1) := by decide +kernel
theorem dL_withdraw_0 : decode cL_withdraw 0 = .ok (.aload 4, 2) := by decide +kernel
theorem dL_withdraw_2 : decode cL_withdraw 2 = .ok (.iconst 0, 1) := by decide +kernel
theorem dL_withdraw_3 : decode cL_withdraw 3 = .ok (.aload_n 0, 1) := by decide +kernel
theorem dL_withdraw_4 : decode cL_withdraw 4 = .ok (.iload_n 1, 1) := by decide +kernel
theorem dL_withdraw_5 : decode cL_withdraw 5 = .ok (.iload_n 2, 1) := by decide +kernel
theorem dL_withdraw_6 : decode cL_withdraw 6 = .ok (.iload_n 3, 1) := by decide +kernel
theorem dL_withdraw_7 : decode cL_withdraw 7 = .ok (.invokevirtual 26, 3) := by decide +kernel
theorem dL_withdraw_10 : decode cL_withdraw 10 = .ok (.i2l, 1) := by decide +kernel
theorem dL_withdraw_11 : decode cL_withdraw 11 = .ok (.lastore, 1) := by decide +kernel
theorem dL_withdraw_12 : decode cL_withdraw 12 = .ok (.goto 19, 3) := by decide +kernel
theorem dL_withdraw_15 : decode cL_withdraw 15 = .ok (.astore 5, 2) := by decide +kernel
theorem dL_withdraw_17 : decode cL_withdraw 17 = .ok (.iconst 1, 1) := by decide +kernel
theorem dL_withdraw_18 : decode cL_withdraw 18 = .ok (.ireturn, 1) := by decide +kernel
theorem dL_withdraw_19 : decode cL_withdraw 19 = .ok (.astore 5, 2) := by decide +kernel
theorem dL_withdraw_21 : decode cL_withdraw 21 = .ok (.iconst 2, 1) := by decide +kernel
theorem dL_withdraw_22 : decode cL_withdraw 22 = .ok (.ireturn, 1) := by decide +kernel
theorem dL_withdraw_23 : decode cL_withdraw 23 = .ok (.astore 5, 2) := by decide +kernel
theorem dL_withdraw_25 : decode cL_withdraw 25 = .ok (.iconst 3, 1) := by decide +kernel
theorem dL_withdraw_26 : decode cL_withdraw 26 = .ok (.ireturn, 1) := by decide +kernel
theorem dL_withdraw_27 : decode cL_withdraw 27 = .ok (.astore 5, 2) := by decide +kernel
theorem dL_withdraw_29 : decode cL_withdraw 29 = .ok (.iconst 4, 1) := by decide +kernel
theorem dL_withdraw_30 : decode cL_withdraw 30 = .ok (.ireturn, 1) := by decide +kernel
theorem dL_withdraw_31 : decode cL_withdraw 31 = .ok (.iconst 0, 1) := by decide +kernel
theorem dL_withdraw_32 : decode cL_withdraw 32 = .ok (.ireturn, 1) := by decide +kernel
theorem dL_drop_0 : decode cL_drop 0 = .ok (.aload_n 2, 1) := by decide +kernel
theorem dL_drop_1 : decode cL_drop 1 = .ok (.iconst 0, 1) := by decide +kernel
theorem dL_drop_2 : decode cL_drop 2 = .ok (.aload_n 0, 1) := by decide +kernel
theorem dL_drop_3 : decode cL_drop 3 = .ok (.iload_n 1, 1) := by decide +kernel
theorem dL_drop_4 : decode cL_drop 4 = .ok (.invokevirtual 32, 3) := by decide +kernel
theorem dL_drop_7 : decode cL_drop 7 = .ok (.i2l, 1) := by decide +kernel
theorem dL_drop_8 : decode cL_drop 8 = .ok (.lastore, 1) := by decide +kernel
theorem dL_drop_9 : decode cL_drop 9 = .ok (.goto 9, 3) := by decide +kernel
theorem dL_drop_12 : decode cL_drop 12 = .ok (.astore_n 3, 1) := by decide +kernel
theorem dL_drop_13 : decode cL_drop 13 = .ok (.iconst 1, 1) := by decide +kernel
theorem dL_drop_14 : decode cL_drop 14 = .ok (.ireturn, 1) := by decide +kernel
theorem dL_drop_15 : decode cL_drop 15 = .ok (.astore_n 3, 1) := by decide +kernel
theorem dL_drop_16 : decode cL_drop 16 = .ok (.iconst 2, 1) := by decide +kernel
theorem dL_drop_17 : decode cL_drop 17 = .ok (.ireturn, 1) := by decide +kernel
theorem dL_drop_18 : decode cL_drop 18 = .ok (.iconst 0, 1) := by decide +kernel
theorem dL_drop_19 : decode cL_drop 19 = .ok (.ireturn, 1) := by decide +kernel
theorem dL_routes_0 : decode cL_routes 0 = .ok (.aload_n 2, 1) := by decide +kernel
theorem dL_routes_1 : decode cL_routes 1 = .ok (.iconst 0, 1) := by decide +kernel
theorem dL_routes_2 : decode cL_routes 2 = .ok (.aload_n 0, 1) := by decide +kernel
theorem dL_routes_3 : decode cL_routes 3 = .ok (.iload_n 1, 1) := by decide +kernel
theorem dL_routes_4 : decode cL_routes 4 = .ok (.invokevirtual 35, 3) := by decide +kernel
theorem dL_routes_7 : decode cL_routes 7 = .ok (.i2l, 1) := by decide +kernel
theorem dL_routes_8 : decode cL_routes 8 = .ok (.lastore, 1) := by decide +kernel
theorem dL_routes_9 : decode cL_routes 9 = .ok (.goto 6, 3) := by decide +kernel
theorem dL_routes_12 : decode cL_routes 12 = .ok (.astore_n 3, 1) := by decide +kernel
theorem dL_routes_13 : decode cL_routes 13 = .ok (.iconst 1, 1) := by decide +kernel
theorem dL_routes_14 : decode cL_routes 14 = .ok (.ireturn, 1) := by decide +kernel
theorem dL_routes_15 : decode cL_routes 15 = .ok (.iconst 0, 1) := by decide +kernel
theorem dL_routes_16 : decode cL_routes 16 = .ok (.ireturn, 1) := by decide +kernel
theorem dL_pathAt_0 : decode cL_pathAt 0 = .ok (.aload 5, 2) := by decide +kernel
theorem dL_pathAt_2 : decode cL_pathAt 2 = .ok (.iconst 0, 1) := by decide +kernel
theorem dL_pathAt_3 : decode cL_pathAt 3 = .ok (.aload_n 0, 1) := by decide +kernel
theorem dL_pathAt_4 : decode cL_pathAt 4 = .ok (.iload_n 1, 1) := by decide +kernel
theorem dL_pathAt_5 : decode cL_pathAt 5 = .ok (.iload_n 2, 1) := by decide +kernel
theorem dL_pathAt_6 : decode cL_pathAt 6 = .ok (.iload_n 3, 1) := by decide +kernel
theorem dL_pathAt_7 : decode cL_pathAt 7 = .ok (.iload 4, 2) := by decide +kernel
theorem dL_pathAt_9 : decode cL_pathAt 9 = .ok (.invokevirtual 38, 3) := by decide +kernel
theorem dL_pathAt_12 : decode cL_pathAt 12 = .ok (.i2l, 1) := by decide +kernel
theorem dL_pathAt_13 : decode cL_pathAt 13 = .ok (.lastore, 1) := by decide +kernel
theorem dL_pathAt_14 : decode cL_pathAt 14 = .ok (.goto 15, 3) := by decide +kernel
theorem dL_pathAt_17 : decode cL_pathAt 17 = .ok (.astore 6, 2) := by decide +kernel
theorem dL_pathAt_19 : decode cL_pathAt 19 = .ok (.iconst 1, 1) := by decide +kernel
theorem dL_pathAt_20 : decode cL_pathAt 20 = .ok (.ireturn, 1) := by decide +kernel
theorem dL_pathAt_21 : decode cL_pathAt 21 = .ok (.astore 6, 2) := by decide +kernel
theorem dL_pathAt_23 : decode cL_pathAt 23 = .ok (.iconst 2, 1) := by decide +kernel
theorem dL_pathAt_24 : decode cL_pathAt 24 = .ok (.ireturn, 1) := by decide +kernel
theorem dL_pathAt_25 : decode cL_pathAt 25 = .ok (.astore 6, 2) := by decide +kernel
theorem dL_pathAt_27 : decode cL_pathAt 27 = .ok (.iconst 3, 1) := by decide +kernel
theorem dL_pathAt_28 : decode cL_pathAt 28 = .ok (.ireturn, 1) := by decide +kernel
theorem dL_pathAt_29 : decode cL_pathAt 29 = .ok (.iconst 0, 1) := by decide +kernel
theorem dL_pathAt_30 : decode cL_pathAt 30 = .ok (.ireturn, 1) := by decide +kernel
theorem dL_bestPeer_0 : decode cL_bestPeer 0 = .ok (.aload_n 3, 1) := by decide +kernel
theorem dL_bestPeer_1 : decode cL_bestPeer 1 = .ok (.iconst 0, 1) := by decide +kernel
theorem dL_bestPeer_2 : decode cL_bestPeer 2 = .ok (.aload_n 0, 1) := by decide +kernel
theorem dL_bestPeer_3 : decode cL_bestPeer 3 = .ok (.iload_n 1, 1) := by decide +kernel
theorem dL_bestPeer_4 : decode cL_bestPeer 4 = .ok (.iload_n 2, 1) := by decide +kernel
theorem dL_bestPeer_5 : decode cL_bestPeer 5 = .ok (.invokevirtual 42, 3) := by decide +kernel
theorem dL_bestPeer_8 : decode cL_bestPeer 8 = .ok (.i2l, 1) := by decide +kernel
theorem dL_bestPeer_9 : decode cL_bestPeer 9 = .ok (.lastore, 1) := by decide +kernel
theorem dL_bestPeer_10 : decode cL_bestPeer 10 = .ok (.goto 7, 3) := by decide +kernel
theorem dL_bestPeer_13 : decode cL_bestPeer 13 = .ok (.astore 4, 2) := by decide +kernel
theorem dL_bestPeer_15 : decode cL_bestPeer 15 = .ok (.iconst 1, 1) := by decide +kernel
theorem dL_bestPeer_16 : decode cL_bestPeer 16 = .ok (.ireturn, 1) := by decide +kernel
theorem dL_bestPeer_17 : decode cL_bestPeer 17 = .ok (.iconst 0, 1) := by decide +kernel
theorem dL_bestPeer_18 : decode cL_bestPeer 18 = .ok (.ireturn, 1) := by decide +kernel
theorem dL_lookUp_0 : decode cL_lookUp 0 = .ok (.aload_n 2, 1) := by decide +kernel
theorem dL_lookUp_1 : decode cL_lookUp 1 = .ok (.iconst 0, 1) := by decide +kernel
theorem dL_lookUp_2 : decode cL_lookUp 2 = .ok (.aload_n 0, 1) := by decide +kernel
theorem dL_lookUp_3 : decode cL_lookUp 3 = .ok (.iload_n 1, 1) := by decide +kernel
theorem dL_lookUp_4 : decode cL_lookUp 4 = .ok (.invokevirtual 46, 3) := by decide +kernel
theorem dL_lookUp_7 : decode cL_lookUp 7 = .ok (.i2l, 1) := by decide +kernel
theorem dL_lookUp_8 : decode cL_lookUp 8 = .ok (.lastore, 1) := by decide +kernel
theorem dL_lookUp_9 : decode cL_lookUp 9 = .ok (.goto 6, 3) := by decide +kernel
theorem dL_lookUp_12 : decode cL_lookUp 12 = .ok (.astore_n 3, 1) := by decide +kernel
theorem dL_lookUp_13 : decode cL_lookUp 13 = .ok (.iconst 1, 1) := by decide +kernel
theorem dL_lookUp_14 : decode cL_lookUp 14 = .ok (.ireturn, 1) := by decide +kernel
theorem dL_lookUp_15 : decode cL_lookUp 15 = .ok (.iconst 0, 1) := by decide +kernel
theorem dL_lookUp_16 : decode cL_lookUp 16 = .ok (.ireturn, 1) := by decide +kernel
theorem dL_lookUpByScan_0 : decode cL_lookUpByScan 0 = .ok (.aload_n 2, 1) := by decide +kernel
theorem dL_lookUpByScan_1 : decode cL_lookUpByScan 1 = .ok (.iconst 0, 1) := by decide +kernel
theorem dL_lookUpByScan_2 : decode cL_lookUpByScan 2 = .ok (.aload_n 0, 1) := by decide +kernel
theorem dL_lookUpByScan_3 : decode cL_lookUpByScan 3 = .ok (.iload_n 1, 1) := by decide +kernel
theorem dL_lookUpByScan_4 : decode cL_lookUpByScan 4 = .ok (.invokevirtual 49, 3) := by decide +kernel
theorem dL_lookUpByScan_7 : decode cL_lookUpByScan 7 = .ok (.i2l, 1) := by decide +kernel
theorem dL_lookUpByScan_8 : decode cL_lookUpByScan 8 = .ok (.lastore, 1) := by decide +kernel
theorem dL_lookUpByScan_9 : decode cL_lookUpByScan 9 = .ok (.goto 6, 3) := by decide +kernel
theorem dL_lookUpByScan_12 : decode cL_lookUpByScan 12 = .ok (.astore_n 3, 1) := by decide +kernel
theorem dL_lookUpByScan_13 : decode cL_lookUpByScan 13 = .ok (.iconst 1, 1) := by decide +kernel
theorem dL_lookUpByScan_14 : decode cL_lookUpByScan 14 = .ok (.ireturn, 1) := by decide +kernel
theorem dL_lookUpByScan_15 : decode cL_lookUpByScan 15 = .ok (.iconst 0, 1) := by decide +kernel
theorem dL_lookUpByScan_16 : decode cL_lookUpByScan 16 = .ok (.ireturn, 1) := by decide +kernel
theorem dL_origins_0 : decode cL_origins 0 = .ok (.aload_n 3, 1) := by decide +kernel
theorem dL_origins_1 : decode cL_origins 1 = .ok (.iconst 0, 1) := by decide +kernel
theorem dL_origins_2 : decode cL_origins 2 = .ok (.aload_n 0, 1) := by decide +kernel
theorem dL_origins_3 : decode cL_origins 3 = .ok (.iload_n 1, 1) := by decide +kernel
theorem dL_origins_4 : decode cL_origins 4 = .ok (.iload_n 2, 1) := by decide +kernel
theorem dL_origins_5 : decode cL_origins 5 = .ok (.invokevirtual 52, 3) := by decide +kernel
theorem dL_origins_8 : decode cL_origins 8 = .ok (.i2l, 1) := by decide +kernel
theorem dL_origins_9 : decode cL_origins 9 = .ok (.lastore, 1) := by decide +kernel
theorem dL_origins_10 : decode cL_origins 10 = .ok (.goto 7, 3) := by decide +kernel
theorem dL_origins_13 : decode cL_origins 13 = .ok (.astore 4, 2) := by decide +kernel
theorem dL_origins_15 : decode cL_origins 15 = .ok (.iconst 1, 1) := by decide +kernel
theorem dL_origins_16 : decode cL_origins 16 = .ok (.ireturn, 1) := by decide +kernel
theorem dL_origins_17 : decode cL_origins 17 = .ok (.iconst 0, 1) := by decide +kernel
theorem dL_origins_18 : decode cL_origins 18 = .ok (.ireturn, 1) := by decide +kernel
theorem dL_isHijack_0 : decode cL_isHijack 0 = .ok (.aload 4, 2) := by decide +kernel
theorem dL_isHijack_2 : decode cL_isHijack 2 = .ok (.iconst 0, 1) := by decide +kernel
theorem dL_isHijack_3 : decode cL_isHijack 3 = .ok (.aload_n 0, 1) := by decide +kernel
theorem dL_isHijack_4 : decode cL_isHijack 4 = .ok (.iload_n 1, 1) := by decide +kernel
theorem dL_isHijack_5 : decode cL_isHijack 5 = .ok (.iload_n 2, 1) := by decide +kernel
theorem dL_isHijack_6 : decode cL_isHijack 6 = .ok (.iload_n 3, 1) := by decide +kernel
theorem dL_isHijack_7 : decode cL_isHijack 7 = .ok (.invokevirtual 55, 3) := by decide +kernel
theorem dL_isHijack_10 : decode cL_isHijack 10 = .ok (.ifCond .eq 7, 3) := by decide +kernel
theorem dL_isHijack_13 : decode cL_isHijack 13 = .ok (.lconst 1, 1) := by decide +kernel
theorem dL_isHijack_14 : decode cL_isHijack 14 = .ok (.goto 4, 3) := by decide +kernel
theorem dL_isHijack_17 : decode cL_isHijack 17 = .ok (.lconst 0, 1) := by decide +kernel
theorem dL_isHijack_18 : decode cL_isHijack 18 = .ok (.lastore, 1) := by decide +kernel
theorem dL_isHijack_19 : decode cL_isHijack 19 = .ok (.goto 15, 3) := by decide +kernel
theorem dL_isHijack_22 : decode cL_isHijack 22 = .ok (.astore 5, 2) := by decide +kernel
theorem dL_isHijack_24 : decode cL_isHijack 24 = .ok (.iconst 1, 1) := by decide +kernel
theorem dL_isHijack_25 : decode cL_isHijack 25 = .ok (.ireturn, 1) := by decide +kernel
theorem dL_isHijack_26 : decode cL_isHijack 26 = .ok (.astore 5, 2) := by decide +kernel
theorem dL_isHijack_28 : decode cL_isHijack 28 = .ok (.iconst 2, 1) := by decide +kernel
theorem dL_isHijack_29 : decode cL_isHijack 29 = .ok (.ireturn, 1) := by decide +kernel
theorem dL_isHijack_30 : decode cL_isHijack 30 = .ok (.astore 5, 2) := by decide +kernel
theorem dL_isHijack_32 : decode cL_isHijack 32 = .ok (.iconst 3, 1) := by decide +kernel
theorem dL_isHijack_33 : decode cL_isHijack 33 = .ok (.ireturn, 1) := by decide +kernel
theorem dL_isHijack_34 : decode cL_isHijack 34 = .ok (.iconst 0, 1) := by decide +kernel
theorem dL_isHijack_35 : decode cL_isHijack 35 = .ok (.ireturn, 1) := by decide +kernel
theorem dL_allow_0 : decode cL_allow 0 = .ok (.aload 5, 2) := by decide +kernel
theorem dL_allow_2 : decode cL_allow 2 = .ok (.iconst 0, 1) := by decide +kernel
theorem dL_allow_3 : decode cL_allow 3 = .ok (.aload_n 0, 1) := by decide +kernel
theorem dL_allow_4 : decode cL_allow 4 = .ok (.iload_n 1, 1) := by decide +kernel
theorem dL_allow_5 : decode cL_allow 5 = .ok (.iload_n 2, 1) := by decide +kernel
theorem dL_allow_6 : decode cL_allow 6 = .ok (.iload_n 3, 1) := by decide +kernel
theorem dL_allow_7 : decode cL_allow 7 = .ok (.iload 4, 2) := by decide +kernel
theorem dL_allow_9 : decode cL_allow 9 = .ok (.invokevirtual 58, 3) := by decide +kernel
theorem dL_allow_12 : decode cL_allow 12 = .ok (.ifCond .eq 7, 3) := by decide +kernel
theorem dL_allow_15 : decode cL_allow 15 = .ok (.lconst 1, 1) := by decide +kernel
theorem dL_allow_16 : decode cL_allow 16 = .ok (.goto 4, 3) := by decide +kernel
theorem dL_allow_19 : decode cL_allow 19 = .ok (.lconst 0, 1) := by decide +kernel
theorem dL_allow_20 : decode cL_allow 20 = .ok (.lastore, 1) := by decide +kernel
theorem dL_allow_21 : decode cL_allow 21 = .ok (.goto 11, 3) := by decide +kernel
theorem dL_allow_24 : decode cL_allow 24 = .ok (.astore 6, 2) := by decide +kernel
theorem dL_allow_26 : decode cL_allow 26 = .ok (.iconst 1, 1) := by decide +kernel
theorem dL_allow_27 : decode cL_allow 27 = .ok (.ireturn, 1) := by decide +kernel
theorem dL_allow_28 : decode cL_allow 28 = .ok (.astore 6, 2) := by decide +kernel
theorem dL_allow_30 : decode cL_allow 30 = .ok (.iconst 2, 1) := by decide +kernel
theorem dL_allow_31 : decode cL_allow 31 = .ok (.ireturn, 1) := by decide +kernel
theorem dL_allow_32 : decode cL_allow 32 = .ok (.iconst 0, 1) := by decide +kernel
theorem dL_allow_33 : decode cL_allow 33 = .ok (.ireturn, 1) := by decide +kernel
theorem dL_verdict_0 : decode cL_verdict 0 = .ok (.aload 4, 2) := by decide +kernel
theorem dL_verdict_2 : decode cL_verdict 2 = .ok (.iconst 0, 1) := by decide +kernel
theorem dL_verdict_3 : decode cL_verdict 3 = .ok (.aload_n 0, 1) := by decide +kernel
theorem dL_verdict_4 : decode cL_verdict 4 = .ok (.iload_n 1, 1) := by decide +kernel
theorem dL_verdict_5 : decode cL_verdict 5 = .ok (.iload_n 2, 1) := by decide +kernel
theorem dL_verdict_6 : decode cL_verdict 6 = .ok (.iload_n 3, 1) := by decide +kernel
theorem dL_verdict_7 : decode cL_verdict 7 = .ok (.invokevirtual 62, 3) := by decide +kernel
theorem dL_verdict_10 : decode cL_verdict 10 = .ok (.i2l, 1) := by decide +kernel
theorem dL_verdict_11 : decode cL_verdict 11 = .ok (.lastore, 1) := by decide +kernel
theorem dL_verdict_12 : decode cL_verdict 12 = .ok (.goto 15, 3) := by decide +kernel
theorem dL_verdict_15 : decode cL_verdict 15 = .ok (.astore 5, 2) := by decide +kernel
theorem dL_verdict_17 : decode cL_verdict 17 = .ok (.iconst 1, 1) := by decide +kernel
theorem dL_verdict_18 : decode cL_verdict 18 = .ok (.ireturn, 1) := by decide +kernel
theorem dL_verdict_19 : decode cL_verdict 19 = .ok (.astore 5, 2) := by decide +kernel
theorem dL_verdict_21 : decode cL_verdict 21 = .ok (.iconst 2, 1) := by decide +kernel
theorem dL_verdict_22 : decode cL_verdict 22 = .ok (.ireturn, 1) := by decide +kernel
theorem dL_verdict_23 : decode cL_verdict 23 = .ok (.astore 5, 2) := by decide +kernel
theorem dL_verdict_25 : decode cL_verdict 25 = .ok (.iconst 3, 1) := by decide +kernel
theorem dL_verdict_26 : decode cL_verdict 26 = .ok (.ireturn, 1) := by decide +kernel
theorem dL_verdict_27 : decode cL_verdict 27 = .ok (.iconst 0, 1) := by decide +kernel
theorem dL_verdict_28 : decode cL_verdict 28 = .ok (.ireturn, 1) := by decide +kernel
theorem dL_relate_0 : decode cL_relate 0 = .ok (.aload 4, 2) := by decide +kernel
theorem dL_relate_2 : decode cL_relate 2 = .ok (.iconst 0, 1) := by decide +kernel
theorem dL_relate_3 : decode cL_relate 3 = .ok (.aload_n 0, 1) := by decide +kernel
theorem dL_relate_4 : decode cL_relate 4 = .ok (.iload_n 1, 1) := by decide +kernel
theorem dL_relate_5 : decode cL_relate 5 = .ok (.iload_n 2, 1) := by decide +kernel
theorem dL_relate_6 : decode cL_relate 6 = .ok (.iload_n 3, 1) := by decide +kernel
theorem dL_relate_7 : decode cL_relate 7 = .ok (.invokevirtual 65, 3) := by decide +kernel
theorem dL_relate_10 : decode cL_relate 10 = .ok (.i2l, 1) := by decide +kernel
theorem dL_relate_11 : decode cL_relate 11 = .ok (.lastore, 1) := by decide +kernel
theorem dL_relate_12 : decode cL_relate 12 = .ok (.goto 7, 3) := by decide +kernel
theorem dL_relate_15 : decode cL_relate 15 = .ok (.astore 5, 2) := by decide +kernel
theorem dL_relate_17 : decode cL_relate 17 = .ok (.iconst 1, 1) := by decide +kernel
theorem dL_relate_18 : decode cL_relate 18 = .ok (.ireturn, 1) := by decide +kernel
theorem dL_relate_19 : decode cL_relate 19 = .ok (.iconst 0, 1) := by decide +kernel
theorem dL_relate_20 : decode cL_relate 20 = .ok (.ireturn, 1) := by decide +kernel
theorem dL_valley_0 : decode cL_valley 0 = .ok (.aload 4, 2) := by decide +kernel
theorem dL_valley_2 : decode cL_valley 2 = .ok (.iconst 0, 1) := by decide +kernel
theorem dL_valley_3 : decode cL_valley 3 = .ok (.aload_n 0, 1) := by decide +kernel
theorem dL_valley_4 : decode cL_valley 4 = .ok (.iload_n 1, 1) := by decide +kernel
theorem dL_valley_5 : decode cL_valley 5 = .ok (.iload_n 2, 1) := by decide +kernel
theorem dL_valley_6 : decode cL_valley 6 = .ok (.iload_n 3, 1) := by decide +kernel
theorem dL_valley_7 : decode cL_valley 7 = .ok (.invokevirtual 68, 3) := by decide +kernel
theorem dL_valley_10 : decode cL_valley 10 = .ok (.i2l, 1) := by decide +kernel
theorem dL_valley_11 : decode cL_valley 11 = .ok (.lastore, 1) := by decide +kernel
theorem dL_valley_12 : decode cL_valley 12 = .ok (.goto 15, 3) := by decide +kernel
theorem dL_valley_15 : decode cL_valley 15 = .ok (.astore 5, 2) := by decide +kernel
theorem dL_valley_17 : decode cL_valley 17 = .ok (.iconst 1, 1) := by decide +kernel
theorem dL_valley_18 : decode cL_valley 18 = .ok (.ireturn, 1) := by decide +kernel
theorem dL_valley_19 : decode cL_valley 19 = .ok (.astore 5, 2) := by decide +kernel
theorem dL_valley_21 : decode cL_valley 21 = .ok (.iconst 2, 1) := by decide +kernel
theorem dL_valley_22 : decode cL_valley 22 = .ok (.ireturn, 1) := by decide +kernel
theorem dL_valley_23 : decode cL_valley 23 = .ok (.astore 5, 2) := by decide +kernel
theorem dL_valley_25 : decode cL_valley 25 = .ok (.iconst 3, 1) := by decide +kernel
theorem dL_valley_26 : decode cL_valley 26 = .ok (.ireturn, 1) := by decide +kernel
theorem dL_valley_27 : decode cL_valley 27 = .ok (.iconst 0, 1) := by decide +kernel
theorem dL_valley_28 : decode cL_valley 28 = .ok (.ireturn, 1) := by decide +kernel
theorem dL_lookUpAt_0 : decode cL_lookUpAt 0 = .ok (.aload_n 3, 1) := by decide +kernel
theorem dL_lookUpAt_1 : decode cL_lookUpAt 1 = .ok (.iconst 0, 1) := by decide +kernel
theorem dL_lookUpAt_2 : decode cL_lookUpAt 2 = .ok (.aload_n 0, 1) := by decide +kernel
theorem dL_lookUpAt_3 : decode cL_lookUpAt 3 = .ok (.iload_n 1, 1) := by decide +kernel
theorem dL_lookUpAt_4 : decode cL_lookUpAt 4 = .ok (.iload_n 2, 1) := by decide +kernel
theorem dL_lookUpAt_5 : decode cL_lookUpAt 5 = .ok (.invokevirtual 71, 3) := by decide +kernel
theorem dL_lookUpAt_8 : decode cL_lookUpAt 8 = .ok (.i2l, 1) := by decide +kernel
theorem dL_lookUpAt_9 : decode cL_lookUpAt 9 = .ok (.lastore, 1) := by decide +kernel
theorem dL_lookUpAt_10 : decode cL_lookUpAt 10 = .ok (.goto 7, 3) := by decide +kernel
theorem dL_lookUpAt_13 : decode cL_lookUpAt 13 = .ok (.astore 4, 2) := by decide +kernel
theorem dL_lookUpAt_15 : decode cL_lookUpAt 15 = .ok (.iconst 1, 1) := by decide +kernel
theorem dL_lookUpAt_16 : decode cL_lookUpAt 16 = .ok (.ireturn, 1) := by decide +kernel
theorem dL_lookUpAt_17 : decode cL_lookUpAt 17 = .ok (.iconst 0, 1) := by decide +kernel
theorem dL_lookUpAt_18 : decode cL_lookUpAt 18 = .ok (.ireturn, 1) := by decide +kernel
theorem dL_originAt_0 : decode cL_originAt 0 = .ok (.aload_n 3, 1) := by decide +kernel
theorem dL_originAt_1 : decode cL_originAt 1 = .ok (.iconst 0, 1) := by decide +kernel
theorem dL_originAt_2 : decode cL_originAt 2 = .ok (.aload_n 0, 1) := by decide +kernel
theorem dL_originAt_3 : decode cL_originAt 3 = .ok (.iload_n 1, 1) := by decide +kernel
theorem dL_originAt_4 : decode cL_originAt 4 = .ok (.iload_n 2, 1) := by decide +kernel
theorem dL_originAt_5 : decode cL_originAt 5 = .ok (.invokevirtual 74, 3) := by decide +kernel
theorem dL_originAt_8 : decode cL_originAt 8 = .ok (.i2l, 1) := by decide +kernel
theorem dL_originAt_9 : decode cL_originAt 9 = .ok (.lastore, 1) := by decide +kernel
theorem dL_originAt_10 : decode cL_originAt 10 = .ok (.goto 7, 3) := by decide +kernel
theorem dL_originAt_13 : decode cL_originAt 13 = .ok (.astore 4, 2) := by decide +kernel
theorem dL_originAt_15 : decode cL_originAt 15 = .ok (.iconst 1, 1) := by decide +kernel
theorem dL_originAt_16 : decode cL_originAt 16 = .ok (.ireturn, 1) := by decide +kernel
theorem dL_originAt_17 : decode cL_originAt 17 = .ok (.iconst 0, 1) := by decide +kernel
theorem dL_originAt_18 : decode cL_originAt 18 = .ok (.ireturn, 1) := by decide +kernel
end
section
theorem dL_law_0 : decode cL_law 0 = .ok (.new 8, 3) := by decide +kernel
theorem dL_law_3 : decode cL_law 3 = .ok (.dup, 1) := by decide +kernel
theorem dL_law_4 : decode cL_law 4 = .ok (.invokespecial 77, 3) := by decide +kernel
theorem dL_law_7 : decode cL_law 7 = .ok (.astore_n 1, 1) := by decide +kernel
theorem dL_law_8 : decode cL_law 8 = .ok (.new 78, 3) := by decide +kernel
theorem dL_law_11 : decode cL_law 11 = .ok (.dup, 1) := by decide +kernel
theorem dL_law_12 : decode cL_law 12 = .ok (.invokespecial 80, 3) := by decide +kernel
theorem dL_law_15 : decode cL_law 15 = .ok (.astore_n 2, 1) := by decide +kernel
theorem dL_law_16 : decode cL_law 16 = .ok (.iconst 1, 1) := by decide +kernel
theorem dL_law_17 : decode cL_law 17 = .ok (.newarray .long, 2) := by decide +kernel
theorem dL_law_19 : decode cL_law 19 = .ok (.astore_n 3, 1) := by decide +kernel
theorem dL_law_20 : decode cL_law 20 = .ok (.iconst 0, 1) := by decide +kernel
theorem dL_law_21 : decode cL_law 21 = .ok (.istore 4, 2) := by decide +kernel
theorem dL_law_23 : decode cL_law 23 = .ok (.iload 4, 2) := by decide +kernel
theorem dL_law_25 : decode cL_law 25 = .ok (.aload_n 0, 1) := by decide +kernel
theorem dL_law_26 : decode cL_law 26 = .ok (.arraylength, 1) := by decide +kernel
theorem dL_law_27 : decode cL_law 27 = .ok (.iconst 5, 1) := by decide +kernel
theorem dL_law_28 : decode cL_law 28 = .ok (.isub, 1) := by decide +kernel
theorem dL_law_29 : decode cL_law 29 = .ok (.if_icmp .gt 1520, 3) := by decide +kernel
theorem dL_law_32 : decode cL_law 32 = .ok (.aload_n 0, 1) := by decide +kernel
theorem dL_law_33 : decode cL_law 33 = .ok (.iload 4, 2) := by decide +kernel
theorem dL_law_35 : decode cL_law 35 = .ok (.iaload, 1) := by decide +kernel
theorem dL_law_36 : decode cL_law 36 = .ok (.bipush 31, 2) := by decide +kernel
theorem dL_law_38 : decode cL_law 38 = .ok (.iand, 1) := by decide +kernel
theorem dL_law_39 : decode cL_law 39 = .ok (.tableswitch 1504 0 23 #[109, 165, 178, 234, 247, 334, 414, 470, 483, 539, 552, 644, 712, 768, 824, 892, 905, 992, 1091, 1171, 1251, 1331, 1399, 1467], 109) := by decide +kernel
theorem dL_law_148 : decode cL_law 148 = .ok (.aload_n 1, 1) := by decide +kernel
theorem dL_law_149 : decode cL_law 149 = .ok (.aload_n 0, 1) := by decide +kernel
theorem dL_law_150 : decode cL_law 150 = .ok (.iload 4, 2) := by decide +kernel
theorem dL_law_152 : decode cL_law 152 = .ok (.iconst 1, 1) := by decide +kernel
theorem dL_law_153 : decode cL_law 153 = .ok (.iadd, 1) := by decide +kernel
theorem dL_law_154 : decode cL_law 154 = .ok (.iaload, 1) := by decide +kernel
theorem dL_law_155 : decode cL_law 155 = .ok (.aload_n 3, 1) := by decide +kernel
theorem dL_law_156 : decode cL_law 156 = .ok (.invokestatic 81, 3) := by decide +kernel
theorem dL_law_159 : decode cL_law 159 = .ok (.istore 5, 2) := by decide +kernel
theorem dL_law_161 : decode cL_law 161 = .ok (.aload_n 2, 1) := by decide +kernel
theorem dL_law_162 : decode cL_law 162 = .ok (.aload_n 0, 1) := by decide +kernel
theorem dL_law_163 : decode cL_law 163 = .ok (.iload 4, 2) := by decide +kernel
theorem dL_law_165 : decode cL_law 165 = .ok (.iconst 1, 1) := by decide +kernel
theorem dL_law_166 : decode cL_law 166 = .ok (.iadd, 1) := by decide +kernel
theorem dL_law_167 : decode cL_law 167 = .ok (.iaload, 1) := by decide +kernel
theorem dL_law_168 : decode cL_law 168 = .ok (.invokevirtual 86, 3) := by decide +kernel
theorem dL_law_171 : decode cL_law 171 = .ok (.istore 6, 2) := by decide +kernel
theorem dL_law_173 : decode cL_law 173 = .ok (.aload_n 2, 1) := by decide +kernel
theorem dL_law_174 : decode cL_law 174 = .ok (.invokevirtual 87, 3) := by decide +kernel
theorem dL_law_177 : decode cL_law 177 = .ok (.iload 5, 2) := by decide +kernel
theorem dL_law_179 : decode cL_law 179 = .ok (.if_icmp .eq 5, 3) := by decide +kernel
theorem dL_law_182 : decode cL_law 182 = .ok (.iconst 0, 1) := by decide +kernel
theorem dL_law_183 : decode cL_law 183 = .ok (.ireturn, 1) := by decide +kernel
theorem dL_law_184 : decode cL_law 184 = .ok (.iload 5, 2) := by decide +kernel
theorem dL_law_186 : decode cL_law 186 = .ok (.ifCond .ne 15, 3) := by decide +kernel
theorem dL_law_189 : decode cL_law 189 = .ok (.aload_n 3, 1) := by decide +kernel
theorem dL_law_190 : decode cL_law 190 = .ok (.iconst 0, 1) := by decide +kernel
theorem dL_law_191 : decode cL_law 191 = .ok (.laload, 1) := by decide +kernel
theorem dL_law_192 : decode cL_law 192 = .ok (.iload 6, 2) := by decide +kernel
theorem dL_law_194 : decode cL_law 194 = .ok (.i2l, 1) := by decide +kernel
theorem dL_law_195 : decode cL_law 195 = .ok (.lcmp, 1) := by decide +kernel
theorem dL_law_196 : decode cL_law 196 = .ok (.ifCond .eq 5, 3) := by decide +kernel
theorem dL_law_199 : decode cL_law 199 = .ok (.iconst 0, 1) := by decide +kernel
theorem dL_law_200 : decode cL_law 200 = .ok (.ireturn, 1) := by decide +kernel
theorem dL_law_201 : decode cL_law 201 = .ok (.goto 1342, 3) := by decide +kernel
theorem dL_law_204 : decode cL_law 204 = .ok (.aload_n 1, 1) := by decide +kernel
theorem dL_law_205 : decode cL_law 205 = .ok (.invokevirtual 91, 3) := by decide +kernel
theorem dL_law_208 : decode cL_law 208 = .ok (.aload_n 2, 1) := by decide +kernel
theorem dL_law_209 : decode cL_law 209 = .ok (.invokevirtual 94, 3) := by decide +kernel
theorem dL_law_212 : decode cL_law 212 = .ok (.if_icmp .eq 1331, 3) := by decide +kernel
theorem dL_law_215 : decode cL_law 215 = .ok (.iconst 0, 1) := by decide +kernel
theorem dL_law_216 : decode cL_law 216 = .ok (.ireturn, 1) := by decide +kernel
theorem dL_law_217 : decode cL_law 217 = .ok (.aload_n 1, 1) := by decide +kernel
theorem dL_law_218 : decode cL_law 218 = .ok (.aload_n 0, 1) := by decide +kernel
theorem dL_law_219 : decode cL_law 219 = .ok (.iload 4, 2) := by decide +kernel
theorem dL_law_221 : decode cL_law 221 = .ok (.iconst 1, 1) := by decide +kernel
theorem dL_law_222 : decode cL_law 222 = .ok (.iadd, 1) := by decide +kernel
theorem dL_law_223 : decode cL_law 223 = .ok (.iaload, 1) := by decide +kernel
theorem dL_law_224 : decode cL_law 224 = .ok (.aload_n 3, 1) := by decide +kernel
theorem dL_law_225 : decode cL_law 225 = .ok (.invokestatic 95, 3) := by decide +kernel
theorem dL_law_228 : decode cL_law 228 = .ok (.istore 5, 2) := by decide +kernel
theorem dL_law_230 : decode cL_law 230 = .ok (.aload_n 2, 1) := by decide +kernel
theorem dL_law_231 : decode cL_law 231 = .ok (.aload_n 0, 1) := by decide +kernel
theorem dL_law_232 : decode cL_law 232 = .ok (.iload 4, 2) := by decide +kernel
theorem dL_law_234 : decode cL_law 234 = .ok (.iconst 1, 1) := by decide +kernel
theorem dL_law_235 : decode cL_law 235 = .ok (.iadd, 1) := by decide +kernel
theorem dL_law_236 : decode cL_law 236 = .ok (.iaload, 1) := by decide +kernel
theorem dL_law_237 : decode cL_law 237 = .ok (.invokevirtual 97, 3) := by decide +kernel
theorem dL_law_240 : decode cL_law 240 = .ok (.istore 6, 2) := by decide +kernel
theorem dL_law_242 : decode cL_law 242 = .ok (.aload_n 2, 1) := by decide +kernel
theorem dL_law_243 : decode cL_law 243 = .ok (.invokevirtual 87, 3) := by decide +kernel
theorem dL_law_246 : decode cL_law 246 = .ok (.iload 5, 2) := by decide +kernel
theorem dL_law_248 : decode cL_law 248 = .ok (.if_icmp .eq 5, 3) := by decide +kernel
theorem dL_law_251 : decode cL_law 251 = .ok (.iconst 0, 1) := by decide +kernel
theorem dL_law_252 : decode cL_law 252 = .ok (.ireturn, 1) := by decide +kernel
theorem dL_law_253 : decode cL_law 253 = .ok (.iload 5, 2) := by decide +kernel
theorem dL_law_255 : decode cL_law 255 = .ok (.ifCond .ne 15, 3) := by decide +kernel
theorem dL_law_258 : decode cL_law 258 = .ok (.aload_n 3, 1) := by decide +kernel
theorem dL_law_259 : decode cL_law 259 = .ok (.iconst 0, 1) := by decide +kernel
theorem dL_law_260 : decode cL_law 260 = .ok (.laload, 1) := by decide +kernel
theorem dL_law_261 : decode cL_law 261 = .ok (.iload 6, 2) := by decide +kernel
theorem dL_law_263 : decode cL_law 263 = .ok (.i2l, 1) := by decide +kernel
theorem dL_law_264 : decode cL_law 264 = .ok (.lcmp, 1) := by decide +kernel
theorem dL_law_265 : decode cL_law 265 = .ok (.ifCond .eq 5, 3) := by decide +kernel
theorem dL_law_268 : decode cL_law 268 = .ok (.iconst 0, 1) := by decide +kernel
theorem dL_law_269 : decode cL_law 269 = .ok (.ireturn, 1) := by decide +kernel
theorem dL_law_270 : decode cL_law 270 = .ok (.goto 1273, 3) := by decide +kernel
theorem dL_law_273 : decode cL_law 273 = .ok (.aload_n 1, 1) := by decide +kernel
theorem dL_law_274 : decode cL_law 274 = .ok (.invokevirtual 98, 3) := by decide +kernel
theorem dL_law_277 : decode cL_law 277 = .ok (.aload_n 2, 1) := by decide +kernel
theorem dL_law_278 : decode cL_law 278 = .ok (.invokevirtual 101, 3) := by decide +kernel
theorem dL_law_281 : decode cL_law 281 = .ok (.if_icmp .eq 1262, 3) := by decide +kernel
theorem dL_law_284 : decode cL_law 284 = .ok (.iconst 0, 1) := by decide +kernel
theorem dL_law_285 : decode cL_law 285 = .ok (.ireturn, 1) := by decide +kernel
theorem dL_law_286 : decode cL_law 286 = .ok (.aload_n 1, 1) := by decide +kernel
theorem dL_law_287 : decode cL_law 287 = .ok (.aload_n 0, 1) := by decide +kernel
theorem dL_law_288 : decode cL_law 288 = .ok (.iload 4, 2) := by decide +kernel
theorem dL_law_290 : decode cL_law 290 = .ok (.iconst 1, 1) := by decide +kernel
theorem dL_law_291 : decode cL_law 291 = .ok (.iadd, 1) := by decide +kernel
theorem dL_law_292 : decode cL_law 292 = .ok (.iaload, 1) := by decide +kernel
theorem dL_law_293 : decode cL_law 293 = .ok (.aload_n 0, 1) := by decide +kernel
theorem dL_law_294 : decode cL_law 294 = .ok (.iload 4, 2) := by decide +kernel
theorem dL_law_296 : decode cL_law 296 = .ok (.iconst 2, 1) := by decide +kernel
theorem dL_law_297 : decode cL_law 297 = .ok (.iadd, 1) := by decide +kernel
theorem dL_law_298 : decode cL_law 298 = .ok (.iaload, 1) := by decide +kernel
theorem dL_law_299 : decode cL_law 299 = .ok (.aload_n 0, 1) := by decide +kernel
theorem dL_law_300 : decode cL_law 300 = .ok (.iload 4, 2) := by decide +kernel
theorem dL_law_302 : decode cL_law 302 = .ok (.iconst 3, 1) := by decide +kernel
theorem dL_law_303 : decode cL_law 303 = .ok (.iadd, 1) := by decide +kernel
theorem dL_law_304 : decode cL_law 304 = .ok (.iaload, 1) := by decide +kernel
theorem dL_law_305 : decode cL_law 305 = .ok (.aload_n 3, 1) := by decide +kernel
theorem dL_law_306 : decode cL_law 306 = .ok (.invokestatic 102, 3) := by decide +kernel
theorem dL_law_309 : decode cL_law 309 = .ok (.istore 5, 2) := by decide +kernel
theorem dL_law_311 : decode cL_law 311 = .ok (.aload_n 2, 1) := by decide +kernel
theorem dL_law_312 : decode cL_law 312 = .ok (.aload_n 0, 1) := by decide +kernel
theorem dL_law_313 : decode cL_law 313 = .ok (.iload 4, 2) := by decide +kernel
theorem dL_law_315 : decode cL_law 315 = .ok (.iconst 1, 1) := by decide +kernel
theorem dL_law_316 : decode cL_law 316 = .ok (.iadd, 1) := by decide +kernel
theorem dL_law_317 : decode cL_law 317 = .ok (.iaload, 1) := by decide +kernel
theorem dL_law_318 : decode cL_law 318 = .ok (.aload_n 0, 1) := by decide +kernel
theorem dL_law_319 : decode cL_law 319 = .ok (.iload 4, 2) := by decide +kernel
theorem dL_law_321 : decode cL_law 321 = .ok (.iconst 2, 1) := by decide +kernel
theorem dL_law_322 : decode cL_law 322 = .ok (.iadd, 1) := by decide +kernel
theorem dL_law_323 : decode cL_law 323 = .ok (.iaload, 1) := by decide +kernel
theorem dL_law_324 : decode cL_law 324 = .ok (.aload_n 0, 1) := by decide +kernel
theorem dL_law_325 : decode cL_law 325 = .ok (.iload 4, 2) := by decide +kernel
theorem dL_law_327 : decode cL_law 327 = .ok (.iconst 3, 1) := by decide +kernel
theorem dL_law_328 : decode cL_law 328 = .ok (.iadd, 1) := by decide +kernel
theorem dL_law_329 : decode cL_law 329 = .ok (.iaload, 1) := by decide +kernel
theorem dL_law_330 : decode cL_law 330 = .ok (.invokevirtual 105, 3) := by decide +kernel
theorem dL_law_333 : decode cL_law 333 = .ok (.istore 6, 2) := by decide +kernel
theorem dL_law_335 : decode cL_law 335 = .ok (.aload_n 2, 1) := by decide +kernel
theorem dL_law_336 : decode cL_law 336 = .ok (.invokevirtual 87, 3) := by decide +kernel
theorem dL_law_339 : decode cL_law 339 = .ok (.iload 5, 2) := by decide +kernel
theorem dL_law_341 : decode cL_law 341 = .ok (.if_icmp .eq 5, 3) := by decide +kernel
theorem dL_law_344 : decode cL_law 344 = .ok (.iconst 0, 1) := by decide +kernel
theorem dL_law_345 : decode cL_law 345 = .ok (.ireturn, 1) := by decide +kernel
theorem dL_law_346 : decode cL_law 346 = .ok (.iload 5, 2) := by decide +kernel
theorem dL_law_348 : decode cL_law 348 = .ok (.ifCond .ne 22, 3) := by decide +kernel
theorem dL_law_351 : decode cL_law 351 = .ok (.aload_n 3, 1) := by decide +kernel
theorem dL_law_352 : decode cL_law 352 = .ok (.iconst 0, 1) := by decide +kernel
theorem dL_law_353 : decode cL_law 353 = .ok (.laload, 1) := by decide +kernel
theorem dL_law_354 : decode cL_law 354 = .ok (.iload 6, 2) := by decide +kernel
theorem dL_law_356 : decode cL_law 356 = .ok (.ifCond .eq 7, 3) := by decide +kernel
theorem dL_law_359 : decode cL_law 359 = .ok (.lconst 1, 1) := by decide +kernel
theorem dL_law_360 : decode cL_law 360 = .ok (.goto 4, 3) := by decide +kernel
theorem dL_law_363 : decode cL_law 363 = .ok (.lconst 0, 1) := by decide +kernel
theorem dL_law_364 : decode cL_law 364 = .ok (.lcmp, 1) := by decide +kernel
theorem dL_law_365 : decode cL_law 365 = .ok (.ifCond .eq 5, 3) := by decide +kernel
theorem dL_law_368 : decode cL_law 368 = .ok (.iconst 0, 1) := by decide +kernel
theorem dL_law_369 : decode cL_law 369 = .ok (.ireturn, 1) := by decide +kernel
theorem dL_law_370 : decode cL_law 370 = .ok (.goto 1173, 3) := by decide +kernel
theorem dL_law_373 : decode cL_law 373 = .ok (.aload_n 1, 1) := by decide +kernel
theorem dL_law_374 : decode cL_law 374 = .ok (.aload_n 0, 1) := by decide +kernel
theorem dL_law_375 : decode cL_law 375 = .ok (.iload 4, 2) := by decide +kernel
theorem dL_law_377 : decode cL_law 377 = .ok (.iconst 1, 1) := by decide +kernel
theorem dL_law_378 : decode cL_law 378 = .ok (.iadd, 1) := by decide +kernel
theorem dL_law_379 : decode cL_law 379 = .ok (.iaload, 1) := by decide +kernel
theorem dL_law_380 : decode cL_law 380 = .ok (.aload_n 0, 1) := by decide +kernel
theorem dL_law_381 : decode cL_law 381 = .ok (.iload 4, 2) := by decide +kernel
theorem dL_law_383 : decode cL_law 383 = .ok (.iconst 2, 1) := by decide +kernel
theorem dL_law_384 : decode cL_law 384 = .ok (.iadd, 1) := by decide +kernel
theorem dL_law_385 : decode cL_law 385 = .ok (.iaload, 1) := by decide +kernel
theorem dL_law_386 : decode cL_law 386 = .ok (.aload_n 0, 1) := by decide +kernel
theorem dL_law_387 : decode cL_law 387 = .ok (.iload 4, 2) := by decide +kernel
theorem dL_law_389 : decode cL_law 389 = .ok (.iconst 3, 1) := by decide +kernel
theorem dL_law_390 : decode cL_law 390 = .ok (.iadd, 1) := by decide +kernel
theorem dL_law_391 : decode cL_law 391 = .ok (.iaload, 1) := by decide +kernel
theorem dL_law_392 : decode cL_law 392 = .ok (.aload_n 3, 1) := by decide +kernel
theorem dL_law_393 : decode cL_law 393 = .ok (.invokestatic 106, 3) := by decide +kernel
theorem dL_law_396 : decode cL_law 396 = .ok (.istore 5, 2) := by decide +kernel
theorem dL_law_398 : decode cL_law 398 = .ok (.aload_n 2, 1) := by decide +kernel
theorem dL_law_399 : decode cL_law 399 = .ok (.aload_n 0, 1) := by decide +kernel
theorem dL_law_400 : decode cL_law 400 = .ok (.iload 4, 2) := by decide +kernel
theorem dL_law_402 : decode cL_law 402 = .ok (.iconst 1, 1) := by decide +kernel
theorem dL_law_403 : decode cL_law 403 = .ok (.iadd, 1) := by decide +kernel
theorem dL_law_404 : decode cL_law 404 = .ok (.iaload, 1) := by decide +kernel
theorem dL_law_405 : decode cL_law 405 = .ok (.aload_n 0, 1) := by decide +kernel
theorem dL_law_406 : decode cL_law 406 = .ok (.iload 4, 2) := by decide +kernel
theorem dL_law_408 : decode cL_law 408 = .ok (.iconst 2, 1) := by decide +kernel
theorem dL_law_409 : decode cL_law 409 = .ok (.iadd, 1) := by decide +kernel
theorem dL_law_410 : decode cL_law 410 = .ok (.iaload, 1) := by decide +kernel
theorem dL_law_411 : decode cL_law 411 = .ok (.aload_n 0, 1) := by decide +kernel
theorem dL_law_412 : decode cL_law 412 = .ok (.iload 4, 2) := by decide +kernel
theorem dL_law_414 : decode cL_law 414 = .ok (.iconst 3, 1) := by decide +kernel
theorem dL_law_415 : decode cL_law 415 = .ok (.iadd, 1) := by decide +kernel
theorem dL_law_416 : decode cL_law 416 = .ok (.iaload, 1) := by decide +kernel
theorem dL_law_417 : decode cL_law 417 = .ok (.invokevirtual 108, 3) := by decide +kernel
theorem dL_law_420 : decode cL_law 420 = .ok (.istore 6, 2) := by decide +kernel
theorem dL_law_422 : decode cL_law 422 = .ok (.aload_n 2, 1) := by decide +kernel
theorem dL_law_423 : decode cL_law 423 = .ok (.invokevirtual 87, 3) := by decide +kernel
theorem dL_law_426 : decode cL_law 426 = .ok (.iload 5, 2) := by decide +kernel
theorem dL_law_428 : decode cL_law 428 = .ok (.if_icmp .eq 5, 3) := by decide +kernel
theorem dL_law_431 : decode cL_law 431 = .ok (.iconst 0, 1) := by decide +kernel
theorem dL_law_432 : decode cL_law 432 = .ok (.ireturn, 1) := by decide +kernel
theorem dL_law_433 : decode cL_law 433 = .ok (.iload 5, 2) := by decide +kernel
theorem dL_law_435 : decode cL_law 435 = .ok (.ifCond .ne 15, 3) := by decide +kernel
theorem dL_law_438 : decode cL_law 438 = .ok (.aload_n 3, 1) := by decide +kernel
theorem dL_law_439 : decode cL_law 439 = .ok (.iconst 0, 1) := by decide +kernel
theorem dL_law_440 : decode cL_law 440 = .ok (.laload, 1) := by decide +kernel
theorem dL_law_441 : decode cL_law 441 = .ok (.iload 6, 2) := by decide +kernel
theorem dL_law_443 : decode cL_law 443 = .ok (.i2l, 1) := by decide +kernel
theorem dL_law_444 : decode cL_law 444 = .ok (.lcmp, 1) := by decide +kernel
theorem dL_law_445 : decode cL_law 445 = .ok (.ifCond .eq 5, 3) := by decide +kernel
theorem dL_law_448 : decode cL_law 448 = .ok (.iconst 0, 1) := by decide +kernel
theorem dL_law_449 : decode cL_law 449 = .ok (.ireturn, 1) := by decide +kernel
theorem dL_law_450 : decode cL_law 450 = .ok (.goto 1093, 3) := by decide +kernel
theorem dL_law_453 : decode cL_law 453 = .ok (.aload_n 1, 1) := by decide +kernel
theorem dL_law_454 : decode cL_law 454 = .ok (.aload_n 0, 1) := by decide +kernel
theorem dL_law_455 : decode cL_law 455 = .ok (.iload 4, 2) := by decide +kernel
theorem dL_law_457 : decode cL_law 457 = .ok (.iconst 1, 1) := by decide +kernel
theorem dL_law_458 : decode cL_law 458 = .ok (.iadd, 1) := by decide +kernel
theorem dL_law_459 : decode cL_law 459 = .ok (.iaload, 1) := by decide +kernel
theorem dL_law_460 : decode cL_law 460 = .ok (.aload_n 3, 1) := by decide +kernel
theorem dL_law_461 : decode cL_law 461 = .ok (.invokestatic 109, 3) := by decide +kernel
theorem dL_law_464 : decode cL_law 464 = .ok (.istore 5, 2) := by decide +kernel
theorem dL_law_466 : decode cL_law 466 = .ok (.aload_n 2, 1) := by decide +kernel
theorem dL_law_467 : decode cL_law 467 = .ok (.aload_n 0, 1) := by decide +kernel
theorem dL_law_468 : decode cL_law 468 = .ok (.iload 4, 2) := by decide +kernel
theorem dL_law_470 : decode cL_law 470 = .ok (.iconst 1, 1) := by decide +kernel
theorem dL_law_471 : decode cL_law 471 = .ok (.iadd, 1) := by decide +kernel
theorem dL_law_472 : decode cL_law 472 = .ok (.iaload, 1) := by decide +kernel
theorem dL_law_473 : decode cL_law 473 = .ok (.invokevirtual 111, 3) := by decide +kernel
end
section
theorem dL_law_476 : decode cL_law 476 = .ok (.istore 6, 2) := by decide +kernel
theorem dL_law_478 : decode cL_law 478 = .ok (.aload_n 2, 1) := by decide +kernel
theorem dL_law_479 : decode cL_law 479 = .ok (.invokevirtual 87, 3) := by decide +kernel
theorem dL_law_482 : decode cL_law 482 = .ok (.iload 5, 2) := by decide +kernel
theorem dL_law_484 : decode cL_law 484 = .ok (.if_icmp .eq 5, 3) := by decide +kernel
theorem dL_law_487 : decode cL_law 487 = .ok (.iconst 0, 1) := by decide +kernel
theorem dL_law_488 : decode cL_law 488 = .ok (.ireturn, 1) := by decide +kernel
theorem dL_law_489 : decode cL_law 489 = .ok (.iload 5, 2) := by decide +kernel
theorem dL_law_491 : decode cL_law 491 = .ok (.ifCond .ne 15, 3) := by decide +kernel
theorem dL_law_494 : decode cL_law 494 = .ok (.aload_n 3, 1) := by decide +kernel
theorem dL_law_495 : decode cL_law 495 = .ok (.iconst 0, 1) := by decide +kernel
theorem dL_law_496 : decode cL_law 496 = .ok (.laload, 1) := by decide +kernel
theorem dL_law_497 : decode cL_law 497 = .ok (.iload 6, 2) := by decide +kernel
theorem dL_law_499 : decode cL_law 499 = .ok (.i2l, 1) := by decide +kernel
theorem dL_law_500 : decode cL_law 500 = .ok (.lcmp, 1) := by decide +kernel
theorem dL_law_501 : decode cL_law 501 = .ok (.ifCond .eq 5, 3) := by decide +kernel
theorem dL_law_504 : decode cL_law 504 = .ok (.iconst 0, 1) := by decide +kernel
theorem dL_law_505 : decode cL_law 505 = .ok (.ireturn, 1) := by decide +kernel
theorem dL_law_506 : decode cL_law 506 = .ok (.goto 1037, 3) := by decide +kernel
theorem dL_law_509 : decode cL_law 509 = .ok (.aload_n 1, 1) := by decide +kernel
theorem dL_law_510 : decode cL_law 510 = .ok (.invokevirtual 112, 3) := by decide +kernel
theorem dL_law_513 : decode cL_law 513 = .ok (.aload_n 2, 1) := by decide +kernel
theorem dL_law_514 : decode cL_law 514 = .ok (.invokevirtual 115, 3) := by decide +kernel
theorem dL_law_517 : decode cL_law 517 = .ok (.if_icmp .eq 1026, 3) := by decide +kernel
theorem dL_law_520 : decode cL_law 520 = .ok (.iconst 0, 1) := by decide +kernel
theorem dL_law_521 : decode cL_law 521 = .ok (.ireturn, 1) := by decide +kernel
theorem dL_law_522 : decode cL_law 522 = .ok (.aload_n 1, 1) := by decide +kernel
theorem dL_law_523 : decode cL_law 523 = .ok (.aload_n 0, 1) := by decide +kernel
theorem dL_law_524 : decode cL_law 524 = .ok (.iload 4, 2) := by decide +kernel
theorem dL_law_526 : decode cL_law 526 = .ok (.iconst 1, 1) := by decide +kernel
theorem dL_law_527 : decode cL_law 527 = .ok (.iadd, 1) := by decide +kernel
theorem dL_law_528 : decode cL_law 528 = .ok (.iaload, 1) := by decide +kernel
theorem dL_law_529 : decode cL_law 529 = .ok (.aload_n 3, 1) := by decide +kernel
theorem dL_law_530 : decode cL_law 530 = .ok (.invokestatic 116, 3) := by decide +kernel
theorem dL_law_533 : decode cL_law 533 = .ok (.istore 5, 2) := by decide +kernel
theorem dL_law_535 : decode cL_law 535 = .ok (.aload_n 2, 1) := by decide +kernel
theorem dL_law_536 : decode cL_law 536 = .ok (.aload_n 0, 1) := by decide +kernel
theorem dL_law_537 : decode cL_law 537 = .ok (.iload 4, 2) := by decide +kernel
theorem dL_law_539 : decode cL_law 539 = .ok (.iconst 1, 1) := by decide +kernel
theorem dL_law_540 : decode cL_law 540 = .ok (.iadd, 1) := by decide +kernel
theorem dL_law_541 : decode cL_law 541 = .ok (.iaload, 1) := by decide +kernel
theorem dL_law_542 : decode cL_law 542 = .ok (.invokevirtual 118, 3) := by decide +kernel
theorem dL_law_545 : decode cL_law 545 = .ok (.istore 6, 2) := by decide +kernel
theorem dL_law_547 : decode cL_law 547 = .ok (.aload_n 2, 1) := by decide +kernel
theorem dL_law_548 : decode cL_law 548 = .ok (.invokevirtual 87, 3) := by decide +kernel
theorem dL_law_551 : decode cL_law 551 = .ok (.iload 5, 2) := by decide +kernel
theorem dL_law_553 : decode cL_law 553 = .ok (.if_icmp .eq 5, 3) := by decide +kernel
theorem dL_law_556 : decode cL_law 556 = .ok (.iconst 0, 1) := by decide +kernel
theorem dL_law_557 : decode cL_law 557 = .ok (.ireturn, 1) := by decide +kernel
theorem dL_law_558 : decode cL_law 558 = .ok (.iload 5, 2) := by decide +kernel
theorem dL_law_560 : decode cL_law 560 = .ok (.ifCond .ne 15, 3) := by decide +kernel
theorem dL_law_563 : decode cL_law 563 = .ok (.aload_n 3, 1) := by decide +kernel
theorem dL_law_564 : decode cL_law 564 = .ok (.iconst 0, 1) := by decide +kernel
theorem dL_law_565 : decode cL_law 565 = .ok (.laload, 1) := by decide +kernel
theorem dL_law_566 : decode cL_law 566 = .ok (.iload 6, 2) := by decide +kernel
theorem dL_law_568 : decode cL_law 568 = .ok (.i2l, 1) := by decide +kernel
theorem dL_law_569 : decode cL_law 569 = .ok (.lcmp, 1) := by decide +kernel
theorem dL_law_570 : decode cL_law 570 = .ok (.ifCond .eq 5, 3) := by decide +kernel
theorem dL_law_573 : decode cL_law 573 = .ok (.iconst 0, 1) := by decide +kernel
theorem dL_law_574 : decode cL_law 574 = .ok (.ireturn, 1) := by decide +kernel
theorem dL_law_575 : decode cL_law 575 = .ok (.goto 968, 3) := by decide +kernel
theorem dL_law_578 : decode cL_law 578 = .ok (.aload_n 1, 1) := by decide +kernel
theorem dL_law_579 : decode cL_law 579 = .ok (.invokevirtual 119, 3) := by decide +kernel
theorem dL_law_582 : decode cL_law 582 = .ok (.aload_n 2, 1) := by decide +kernel
theorem dL_law_583 : decode cL_law 583 = .ok (.invokevirtual 122, 3) := by decide +kernel
theorem dL_law_586 : decode cL_law 586 = .ok (.if_icmp .eq 957, 3) := by decide +kernel
theorem dL_law_589 : decode cL_law 589 = .ok (.iconst 0, 1) := by decide +kernel
theorem dL_law_590 : decode cL_law 590 = .ok (.ireturn, 1) := by decide +kernel
theorem dL_law_591 : decode cL_law 591 = .ok (.aload_n 1, 1) := by decide +kernel
theorem dL_law_592 : decode cL_law 592 = .ok (.aload_n 0, 1) := by decide +kernel
theorem dL_law_593 : decode cL_law 593 = .ok (.iload 4, 2) := by decide +kernel
theorem dL_law_595 : decode cL_law 595 = .ok (.iconst 1, 1) := by decide +kernel
theorem dL_law_596 : decode cL_law 596 = .ok (.iadd, 1) := by decide +kernel
theorem dL_law_597 : decode cL_law 597 = .ok (.iaload, 1) := by decide +kernel
theorem dL_law_598 : decode cL_law 598 = .ok (.aload_n 0, 1) := by decide +kernel
theorem dL_law_599 : decode cL_law 599 = .ok (.iload 4, 2) := by decide +kernel
theorem dL_law_601 : decode cL_law 601 = .ok (.iconst 2, 1) := by decide +kernel
theorem dL_law_602 : decode cL_law 602 = .ok (.iadd, 1) := by decide +kernel
theorem dL_law_603 : decode cL_law 603 = .ok (.iaload, 1) := by decide +kernel
theorem dL_law_604 : decode cL_law 604 = .ok (.aload_n 0, 1) := by decide +kernel
theorem dL_law_605 : decode cL_law 605 = .ok (.iload 4, 2) := by decide +kernel
theorem dL_law_607 : decode cL_law 607 = .ok (.iconst 3, 1) := by decide +kernel
theorem dL_law_608 : decode cL_law 608 = .ok (.iadd, 1) := by decide +kernel
theorem dL_law_609 : decode cL_law 609 = .ok (.iaload, 1) := by decide +kernel
theorem dL_law_610 : decode cL_law 610 = .ok (.aload_n 0, 1) := by decide +kernel
theorem dL_law_611 : decode cL_law 611 = .ok (.iload 4, 2) := by decide +kernel
theorem dL_law_613 : decode cL_law 613 = .ok (.iconst 4, 1) := by decide +kernel
theorem dL_law_614 : decode cL_law 614 = .ok (.iadd, 1) := by decide +kernel
theorem dL_law_615 : decode cL_law 615 = .ok (.iaload, 1) := by decide +kernel
theorem dL_law_616 : decode cL_law 616 = .ok (.aload_n 3, 1) := by decide +kernel
theorem dL_law_617 : decode cL_law 617 = .ok (.invokestatic 123, 3) := by decide +kernel
theorem dL_law_620 : decode cL_law 620 = .ok (.istore 5, 2) := by decide +kernel
theorem dL_law_622 : decode cL_law 622 = .ok (.aload_n 2, 1) := by decide +kernel
theorem dL_law_623 : decode cL_law 623 = .ok (.aload_n 0, 1) := by decide +kernel
theorem dL_law_624 : decode cL_law 624 = .ok (.iload 4, 2) := by decide +kernel
theorem dL_law_626 : decode cL_law 626 = .ok (.iconst 1, 1) := by decide +kernel
theorem dL_law_627 : decode cL_law 627 = .ok (.iadd, 1) := by decide +kernel
theorem dL_law_628 : decode cL_law 628 = .ok (.iaload, 1) := by decide +kernel
theorem dL_law_629 : decode cL_law 629 = .ok (.aload_n 0, 1) := by decide +kernel
theorem dL_law_630 : decode cL_law 630 = .ok (.iload 4, 2) := by decide +kernel
theorem dL_law_632 : decode cL_law 632 = .ok (.iconst 2, 1) := by decide +kernel
theorem dL_law_633 : decode cL_law 633 = .ok (.iadd, 1) := by decide +kernel
theorem dL_law_634 : decode cL_law 634 = .ok (.iaload, 1) := by decide +kernel
theorem dL_law_635 : decode cL_law 635 = .ok (.aload_n 0, 1) := by decide +kernel
theorem dL_law_636 : decode cL_law 636 = .ok (.iload 4, 2) := by decide +kernel
theorem dL_law_638 : decode cL_law 638 = .ok (.iconst 3, 1) := by decide +kernel
theorem dL_law_639 : decode cL_law 639 = .ok (.iadd, 1) := by decide +kernel
theorem dL_law_640 : decode cL_law 640 = .ok (.iaload, 1) := by decide +kernel
theorem dL_law_641 : decode cL_law 641 = .ok (.aload_n 0, 1) := by decide +kernel
theorem dL_law_642 : decode cL_law 642 = .ok (.iload 4, 2) := by decide +kernel
theorem dL_law_644 : decode cL_law 644 = .ok (.iconst 4, 1) := by decide +kernel
theorem dL_law_645 : decode cL_law 645 = .ok (.iadd, 1) := by decide +kernel
theorem dL_law_646 : decode cL_law 646 = .ok (.iaload, 1) := by decide +kernel
theorem dL_law_647 : decode cL_law 647 = .ok (.invokevirtual 126, 3) := by decide +kernel
theorem dL_law_650 : decode cL_law 650 = .ok (.istore 6, 2) := by decide +kernel
theorem dL_law_652 : decode cL_law 652 = .ok (.aload_n 2, 1) := by decide +kernel
theorem dL_law_653 : decode cL_law 653 = .ok (.invokevirtual 87, 3) := by decide +kernel
theorem dL_law_656 : decode cL_law 656 = .ok (.iload 5, 2) := by decide +kernel
theorem dL_law_658 : decode cL_law 658 = .ok (.if_icmp .eq 5, 3) := by decide +kernel
theorem dL_law_661 : decode cL_law 661 = .ok (.iconst 0, 1) := by decide +kernel
theorem dL_law_662 : decode cL_law 662 = .ok (.ireturn, 1) := by decide +kernel
theorem dL_law_663 : decode cL_law 663 = .ok (.iload 5, 2) := by decide +kernel
theorem dL_law_665 : decode cL_law 665 = .ok (.ifCond .ne 15, 3) := by decide +kernel
theorem dL_law_668 : decode cL_law 668 = .ok (.aload_n 3, 1) := by decide +kernel
theorem dL_law_669 : decode cL_law 669 = .ok (.iconst 0, 1) := by decide +kernel
theorem dL_law_670 : decode cL_law 670 = .ok (.laload, 1) := by decide +kernel
theorem dL_law_671 : decode cL_law 671 = .ok (.iload 6, 2) := by decide +kernel
theorem dL_law_673 : decode cL_law 673 = .ok (.i2l, 1) := by decide +kernel
theorem dL_law_674 : decode cL_law 674 = .ok (.lcmp, 1) := by decide +kernel
theorem dL_law_675 : decode cL_law 675 = .ok (.ifCond .eq 5, 3) := by decide +kernel
theorem dL_law_678 : decode cL_law 678 = .ok (.iconst 0, 1) := by decide +kernel
theorem dL_law_679 : decode cL_law 679 = .ok (.ireturn, 1) := by decide +kernel
theorem dL_law_680 : decode cL_law 680 = .ok (.goto 863, 3) := by decide +kernel
theorem dL_law_683 : decode cL_law 683 = .ok (.aload_n 1, 1) := by decide +kernel
theorem dL_law_684 : decode cL_law 684 = .ok (.aload_n 0, 1) := by decide +kernel
theorem dL_law_685 : decode cL_law 685 = .ok (.iload 4, 2) := by decide +kernel
theorem dL_law_687 : decode cL_law 687 = .ok (.iconst 1, 1) := by decide +kernel
theorem dL_law_688 : decode cL_law 688 = .ok (.iadd, 1) := by decide +kernel
theorem dL_law_689 : decode cL_law 689 = .ok (.iaload, 1) := by decide +kernel
theorem dL_law_690 : decode cL_law 690 = .ok (.aload_n 0, 1) := by decide +kernel
theorem dL_law_691 : decode cL_law 691 = .ok (.iload 4, 2) := by decide +kernel
theorem dL_law_693 : decode cL_law 693 = .ok (.iconst 2, 1) := by decide +kernel
theorem dL_law_694 : decode cL_law 694 = .ok (.iadd, 1) := by decide +kernel
theorem dL_law_695 : decode cL_law 695 = .ok (.iaload, 1) := by decide +kernel
theorem dL_law_696 : decode cL_law 696 = .ok (.aload_n 3, 1) := by decide +kernel
theorem dL_law_697 : decode cL_law 697 = .ok (.invokestatic 127, 3) := by decide +kernel
theorem dL_law_700 : decode cL_law 700 = .ok (.istore 5, 2) := by decide +kernel
theorem dL_law_702 : decode cL_law 702 = .ok (.aload_n 2, 1) := by decide +kernel
theorem dL_law_703 : decode cL_law 703 = .ok (.aload_n 0, 1) := by decide +kernel
theorem dL_law_704 : decode cL_law 704 = .ok (.iload 4, 2) := by decide +kernel
theorem dL_law_706 : decode cL_law 706 = .ok (.iconst 1, 1) := by decide +kernel
theorem dL_law_707 : decode cL_law 707 = .ok (.iadd, 1) := by decide +kernel
theorem dL_law_708 : decode cL_law 708 = .ok (.iaload, 1) := by decide +kernel
theorem dL_law_709 : decode cL_law 709 = .ok (.aload_n 0, 1) := by decide +kernel
theorem dL_law_710 : decode cL_law 710 = .ok (.iload 4, 2) := by decide +kernel
theorem dL_law_712 : decode cL_law 712 = .ok (.iconst 2, 1) := by decide +kernel
theorem dL_law_713 : decode cL_law 713 = .ok (.iadd, 1) := by decide +kernel
theorem dL_law_714 : decode cL_law 714 = .ok (.iaload, 1) := by decide +kernel
theorem dL_law_715 : decode cL_law 715 = .ok (.invokevirtual 130, 3) := by decide +kernel
theorem dL_law_718 : decode cL_law 718 = .ok (.istore 6, 2) := by decide +kernel
theorem dL_law_720 : decode cL_law 720 = .ok (.aload_n 2, 1) := by decide +kernel
theorem dL_law_721 : decode cL_law 721 = .ok (.invokevirtual 87, 3) := by decide +kernel
theorem dL_law_724 : decode cL_law 724 = .ok (.iload 5, 2) := by decide +kernel
theorem dL_law_726 : decode cL_law 726 = .ok (.if_icmp .eq 5, 3) := by decide +kernel
theorem dL_law_729 : decode cL_law 729 = .ok (.iconst 0, 1) := by decide +kernel
theorem dL_law_730 : decode cL_law 730 = .ok (.ireturn, 1) := by decide +kernel
theorem dL_law_731 : decode cL_law 731 = .ok (.iload 5, 2) := by decide +kernel
theorem dL_law_733 : decode cL_law 733 = .ok (.ifCond .ne 15, 3) := by decide +kernel
theorem dL_law_736 : decode cL_law 736 = .ok (.aload_n 3, 1) := by decide +kernel
theorem dL_law_737 : decode cL_law 737 = .ok (.iconst 0, 1) := by decide +kernel
theorem dL_law_738 : decode cL_law 738 = .ok (.laload, 1) := by decide +kernel
theorem dL_law_739 : decode cL_law 739 = .ok (.iload 6, 2) := by decide +kernel
theorem dL_law_741 : decode cL_law 741 = .ok (.i2l, 1) := by decide +kernel
theorem dL_law_742 : decode cL_law 742 = .ok (.lcmp, 1) := by decide +kernel
theorem dL_law_743 : decode cL_law 743 = .ok (.ifCond .eq 5, 3) := by decide +kernel
theorem dL_law_746 : decode cL_law 746 = .ok (.iconst 0, 1) := by decide +kernel
theorem dL_law_747 : decode cL_law 747 = .ok (.ireturn, 1) := by decide +kernel
theorem dL_law_748 : decode cL_law 748 = .ok (.goto 795, 3) := by decide +kernel
theorem dL_law_751 : decode cL_law 751 = .ok (.aload_n 1, 1) := by decide +kernel
theorem dL_law_752 : decode cL_law 752 = .ok (.aload_n 0, 1) := by decide +kernel
theorem dL_law_753 : decode cL_law 753 = .ok (.iload 4, 2) := by decide +kernel
theorem dL_law_755 : decode cL_law 755 = .ok (.iconst 1, 1) := by decide +kernel
theorem dL_law_756 : decode cL_law 756 = .ok (.iadd, 1) := by decide +kernel
theorem dL_law_757 : decode cL_law 757 = .ok (.iaload, 1) := by decide +kernel
theorem dL_law_758 : decode cL_law 758 = .ok (.aload_n 3, 1) := by decide +kernel
theorem dL_law_759 : decode cL_law 759 = .ok (.invokestatic 131, 3) := by decide +kernel
theorem dL_law_762 : decode cL_law 762 = .ok (.istore 5, 2) := by decide +kernel
theorem dL_law_764 : decode cL_law 764 = .ok (.aload_n 2, 1) := by decide +kernel
theorem dL_law_765 : decode cL_law 765 = .ok (.aload_n 0, 1) := by decide +kernel
theorem dL_law_766 : decode cL_law 766 = .ok (.iload 4, 2) := by decide +kernel
theorem dL_law_768 : decode cL_law 768 = .ok (.iconst 1, 1) := by decide +kernel
theorem dL_law_769 : decode cL_law 769 = .ok (.iadd, 1) := by decide +kernel
theorem dL_law_770 : decode cL_law 770 = .ok (.iaload, 1) := by decide +kernel
theorem dL_law_771 : decode cL_law 771 = .ok (.invokevirtual 133, 3) := by decide +kernel
theorem dL_law_774 : decode cL_law 774 = .ok (.istore 6, 2) := by decide +kernel
theorem dL_law_776 : decode cL_law 776 = .ok (.aload_n 2, 1) := by decide +kernel
theorem dL_law_777 : decode cL_law 777 = .ok (.invokevirtual 87, 3) := by decide +kernel
theorem dL_law_780 : decode cL_law 780 = .ok (.iload 5, 2) := by decide +kernel
theorem dL_law_782 : decode cL_law 782 = .ok (.if_icmp .eq 5, 3) := by decide +kernel
theorem dL_law_785 : decode cL_law 785 = .ok (.iconst 0, 1) := by decide +kernel
theorem dL_law_786 : decode cL_law 786 = .ok (.ireturn, 1) := by decide +kernel
theorem dL_law_787 : decode cL_law 787 = .ok (.iload 5, 2) := by decide +kernel
theorem dL_law_789 : decode cL_law 789 = .ok (.ifCond .ne 15, 3) := by decide +kernel
theorem dL_law_792 : decode cL_law 792 = .ok (.aload_n 3, 1) := by decide +kernel
theorem dL_law_793 : decode cL_law 793 = .ok (.iconst 0, 1) := by decide +kernel
theorem dL_law_794 : decode cL_law 794 = .ok (.laload, 1) := by decide +kernel
theorem dL_law_795 : decode cL_law 795 = .ok (.iload 6, 2) := by decide +kernel
theorem dL_law_797 : decode cL_law 797 = .ok (.i2l, 1) := by decide +kernel
theorem dL_law_798 : decode cL_law 798 = .ok (.lcmp, 1) := by decide +kernel
theorem dL_law_799 : decode cL_law 799 = .ok (.ifCond .eq 5, 3) := by decide +kernel
theorem dL_law_802 : decode cL_law 802 = .ok (.iconst 0, 1) := by decide +kernel
theorem dL_law_803 : decode cL_law 803 = .ok (.ireturn, 1) := by decide +kernel
theorem dL_law_804 : decode cL_law 804 = .ok (.goto 739, 3) := by decide +kernel
theorem dL_law_807 : decode cL_law 807 = .ok (.aload_n 1, 1) := by decide +kernel
theorem dL_law_808 : decode cL_law 808 = .ok (.aload_n 0, 1) := by decide +kernel
theorem dL_law_809 : decode cL_law 809 = .ok (.iload 4, 2) := by decide +kernel
theorem dL_law_811 : decode cL_law 811 = .ok (.iconst 1, 1) := by decide +kernel
theorem dL_law_812 : decode cL_law 812 = .ok (.iadd, 1) := by decide +kernel
theorem dL_law_813 : decode cL_law 813 = .ok (.iaload, 1) := by decide +kernel
theorem dL_law_814 : decode cL_law 814 = .ok (.aload_n 3, 1) := by decide +kernel
theorem dL_law_815 : decode cL_law 815 = .ok (.invokestatic 134, 3) := by decide +kernel
theorem dL_law_818 : decode cL_law 818 = .ok (.istore 5, 2) := by decide +kernel
theorem dL_law_820 : decode cL_law 820 = .ok (.aload_n 2, 1) := by decide +kernel
theorem dL_law_821 : decode cL_law 821 = .ok (.aload_n 0, 1) := by decide +kernel
theorem dL_law_822 : decode cL_law 822 = .ok (.iload 4, 2) := by decide +kernel
theorem dL_law_824 : decode cL_law 824 = .ok (.iconst 1, 1) := by decide +kernel
theorem dL_law_825 : decode cL_law 825 = .ok (.iadd, 1) := by decide +kernel
theorem dL_law_826 : decode cL_law 826 = .ok (.iaload, 1) := by decide +kernel
theorem dL_law_827 : decode cL_law 827 = .ok (.invokevirtual 136, 3) := by decide +kernel
theorem dL_law_830 : decode cL_law 830 = .ok (.istore 6, 2) := by decide +kernel
theorem dL_law_832 : decode cL_law 832 = .ok (.aload_n 2, 1) := by decide +kernel
theorem dL_law_833 : decode cL_law 833 = .ok (.invokevirtual 87, 3) := by decide +kernel
theorem dL_law_836 : decode cL_law 836 = .ok (.iload 5, 2) := by decide +kernel
theorem dL_law_838 : decode cL_law 838 = .ok (.if_icmp .eq 5, 3) := by decide +kernel
theorem dL_law_841 : decode cL_law 841 = .ok (.iconst 0, 1) := by decide +kernel
theorem dL_law_842 : decode cL_law 842 = .ok (.ireturn, 1) := by decide +kernel
theorem dL_law_843 : decode cL_law 843 = .ok (.iload 5, 2) := by decide +kernel
theorem dL_law_845 : decode cL_law 845 = .ok (.ifCond .ne 15, 3) := by decide +kernel
end
section
theorem dL_law_848 : decode cL_law 848 = .ok (.aload_n 3, 1) := by decide +kernel
theorem dL_law_849 : decode cL_law 849 = .ok (.iconst 0, 1) := by decide +kernel
theorem dL_law_850 : decode cL_law 850 = .ok (.laload, 1) := by decide +kernel
theorem dL_law_851 : decode cL_law 851 = .ok (.iload 6, 2) := by decide +kernel
theorem dL_law_853 : decode cL_law 853 = .ok (.i2l, 1) := by decide +kernel
theorem dL_law_854 : decode cL_law 854 = .ok (.lcmp, 1) := by decide +kernel
theorem dL_law_855 : decode cL_law 855 = .ok (.ifCond .eq 5, 3) := by decide +kernel
theorem dL_law_858 : decode cL_law 858 = .ok (.iconst 0, 1) := by decide +kernel
theorem dL_law_859 : decode cL_law 859 = .ok (.ireturn, 1) := by decide +kernel
theorem dL_law_860 : decode cL_law 860 = .ok (.goto 683, 3) := by decide +kernel
theorem dL_law_863 : decode cL_law 863 = .ok (.aload_n 1, 1) := by decide +kernel
theorem dL_law_864 : decode cL_law 864 = .ok (.aload_n 0, 1) := by decide +kernel
theorem dL_law_865 : decode cL_law 865 = .ok (.iload 4, 2) := by decide +kernel
theorem dL_law_867 : decode cL_law 867 = .ok (.iconst 1, 1) := by decide +kernel
theorem dL_law_868 : decode cL_law 868 = .ok (.iadd, 1) := by decide +kernel
theorem dL_law_869 : decode cL_law 869 = .ok (.iaload, 1) := by decide +kernel
theorem dL_law_870 : decode cL_law 870 = .ok (.aload_n 0, 1) := by decide +kernel
theorem dL_law_871 : decode cL_law 871 = .ok (.iload 4, 2) := by decide +kernel
theorem dL_law_873 : decode cL_law 873 = .ok (.iconst 2, 1) := by decide +kernel
theorem dL_law_874 : decode cL_law 874 = .ok (.iadd, 1) := by decide +kernel
theorem dL_law_875 : decode cL_law 875 = .ok (.iaload, 1) := by decide +kernel
theorem dL_law_876 : decode cL_law 876 = .ok (.aload_n 3, 1) := by decide +kernel
theorem dL_law_877 : decode cL_law 877 = .ok (.invokestatic 137, 3) := by decide +kernel
theorem dL_law_880 : decode cL_law 880 = .ok (.istore 5, 2) := by decide +kernel
theorem dL_law_882 : decode cL_law 882 = .ok (.aload_n 2, 1) := by decide +kernel
theorem dL_law_883 : decode cL_law 883 = .ok (.aload_n 0, 1) := by decide +kernel
theorem dL_law_884 : decode cL_law 884 = .ok (.iload 4, 2) := by decide +kernel
theorem dL_law_886 : decode cL_law 886 = .ok (.iconst 1, 1) := by decide +kernel
theorem dL_law_887 : decode cL_law 887 = .ok (.iadd, 1) := by decide +kernel
theorem dL_law_888 : decode cL_law 888 = .ok (.iaload, 1) := by decide +kernel
theorem dL_law_889 : decode cL_law 889 = .ok (.aload_n 0, 1) := by decide +kernel
theorem dL_law_890 : decode cL_law 890 = .ok (.iload 4, 2) := by decide +kernel
theorem dL_law_892 : decode cL_law 892 = .ok (.iconst 2, 1) := by decide +kernel
theorem dL_law_893 : decode cL_law 893 = .ok (.iadd, 1) := by decide +kernel
theorem dL_law_894 : decode cL_law 894 = .ok (.iaload, 1) := by decide +kernel
theorem dL_law_895 : decode cL_law 895 = .ok (.invokevirtual 139, 3) := by decide +kernel
theorem dL_law_898 : decode cL_law 898 = .ok (.istore 6, 2) := by decide +kernel
theorem dL_law_900 : decode cL_law 900 = .ok (.aload_n 2, 1) := by decide +kernel
theorem dL_law_901 : decode cL_law 901 = .ok (.invokevirtual 87, 3) := by decide +kernel
theorem dL_law_904 : decode cL_law 904 = .ok (.iload 5, 2) := by decide +kernel
theorem dL_law_906 : decode cL_law 906 = .ok (.if_icmp .eq 5, 3) := by decide +kernel
theorem dL_law_909 : decode cL_law 909 = .ok (.iconst 0, 1) := by decide +kernel
theorem dL_law_910 : decode cL_law 910 = .ok (.ireturn, 1) := by decide +kernel
theorem dL_law_911 : decode cL_law 911 = .ok (.iload 5, 2) := by decide +kernel
theorem dL_law_913 : decode cL_law 913 = .ok (.ifCond .ne 15, 3) := by decide +kernel
theorem dL_law_916 : decode cL_law 916 = .ok (.aload_n 3, 1) := by decide +kernel
theorem dL_law_917 : decode cL_law 917 = .ok (.iconst 0, 1) := by decide +kernel
theorem dL_law_918 : decode cL_law 918 = .ok (.laload, 1) := by decide +kernel
theorem dL_law_919 : decode cL_law 919 = .ok (.iload 6, 2) := by decide +kernel
theorem dL_law_921 : decode cL_law 921 = .ok (.i2l, 1) := by decide +kernel
theorem dL_law_922 : decode cL_law 922 = .ok (.lcmp, 1) := by decide +kernel
theorem dL_law_923 : decode cL_law 923 = .ok (.ifCond .eq 5, 3) := by decide +kernel
theorem dL_law_926 : decode cL_law 926 = .ok (.iconst 0, 1) := by decide +kernel
theorem dL_law_927 : decode cL_law 927 = .ok (.ireturn, 1) := by decide +kernel
theorem dL_law_928 : decode cL_law 928 = .ok (.goto 615, 3) := by decide +kernel
theorem dL_law_931 : decode cL_law 931 = .ok (.aload_n 1, 1) := by decide +kernel
theorem dL_law_932 : decode cL_law 932 = .ok (.invokevirtual 140, 3) := by decide +kernel
theorem dL_law_935 : decode cL_law 935 = .ok (.aload_n 2, 1) := by decide +kernel
theorem dL_law_936 : decode cL_law 936 = .ok (.invokevirtual 143, 3) := by decide +kernel
theorem dL_law_939 : decode cL_law 939 = .ok (.if_icmp .eq 604, 3) := by decide +kernel
theorem dL_law_942 : decode cL_law 942 = .ok (.iconst 0, 1) := by decide +kernel
theorem dL_law_943 : decode cL_law 943 = .ok (.ireturn, 1) := by decide +kernel
theorem dL_law_944 : decode cL_law 944 = .ok (.aload_n 1, 1) := by decide +kernel
theorem dL_law_945 : decode cL_law 945 = .ok (.aload_n 0, 1) := by decide +kernel
theorem dL_law_946 : decode cL_law 946 = .ok (.iload 4, 2) := by decide +kernel
theorem dL_law_948 : decode cL_law 948 = .ok (.iconst 1, 1) := by decide +kernel
theorem dL_law_949 : decode cL_law 949 = .ok (.iadd, 1) := by decide +kernel
theorem dL_law_950 : decode cL_law 950 = .ok (.iaload, 1) := by decide +kernel
theorem dL_law_951 : decode cL_law 951 = .ok (.aload_n 0, 1) := by decide +kernel
theorem dL_law_952 : decode cL_law 952 = .ok (.iload 4, 2) := by decide +kernel
theorem dL_law_954 : decode cL_law 954 = .ok (.iconst 2, 1) := by decide +kernel
theorem dL_law_955 : decode cL_law 955 = .ok (.iadd, 1) := by decide +kernel
theorem dL_law_956 : decode cL_law 956 = .ok (.iaload, 1) := by decide +kernel
theorem dL_law_957 : decode cL_law 957 = .ok (.aload_n 0, 1) := by decide +kernel
theorem dL_law_958 : decode cL_law 958 = .ok (.iload 4, 2) := by decide +kernel
theorem dL_law_960 : decode cL_law 960 = .ok (.iconst 3, 1) := by decide +kernel
theorem dL_law_961 : decode cL_law 961 = .ok (.iadd, 1) := by decide +kernel
theorem dL_law_962 : decode cL_law 962 = .ok (.iaload, 1) := by decide +kernel
theorem dL_law_963 : decode cL_law 963 = .ok (.aload_n 3, 1) := by decide +kernel
theorem dL_law_964 : decode cL_law 964 = .ok (.invokestatic 144, 3) := by decide +kernel
theorem dL_law_967 : decode cL_law 967 = .ok (.istore 5, 2) := by decide +kernel
theorem dL_law_969 : decode cL_law 969 = .ok (.aload_n 2, 1) := by decide +kernel
theorem dL_law_970 : decode cL_law 970 = .ok (.aload_n 0, 1) := by decide +kernel
theorem dL_law_971 : decode cL_law 971 = .ok (.iload 4, 2) := by decide +kernel
theorem dL_law_973 : decode cL_law 973 = .ok (.iconst 1, 1) := by decide +kernel
theorem dL_law_974 : decode cL_law 974 = .ok (.iadd, 1) := by decide +kernel
theorem dL_law_975 : decode cL_law 975 = .ok (.iaload, 1) := by decide +kernel
theorem dL_law_976 : decode cL_law 976 = .ok (.aload_n 0, 1) := by decide +kernel
theorem dL_law_977 : decode cL_law 977 = .ok (.iload 4, 2) := by decide +kernel
theorem dL_law_979 : decode cL_law 979 = .ok (.iconst 2, 1) := by decide +kernel
theorem dL_law_980 : decode cL_law 980 = .ok (.iadd, 1) := by decide +kernel
theorem dL_law_981 : decode cL_law 981 = .ok (.iaload, 1) := by decide +kernel
theorem dL_law_982 : decode cL_law 982 = .ok (.aload_n 0, 1) := by decide +kernel
theorem dL_law_983 : decode cL_law 983 = .ok (.iload 4, 2) := by decide +kernel
theorem dL_law_985 : decode cL_law 985 = .ok (.iconst 3, 1) := by decide +kernel
theorem dL_law_986 : decode cL_law 986 = .ok (.iadd, 1) := by decide +kernel
theorem dL_law_987 : decode cL_law 987 = .ok (.iaload, 1) := by decide +kernel
theorem dL_law_988 : decode cL_law 988 = .ok (.invokevirtual 146, 3) := by decide +kernel
theorem dL_law_991 : decode cL_law 991 = .ok (.istore 6, 2) := by decide +kernel
theorem dL_law_993 : decode cL_law 993 = .ok (.aload_n 2, 1) := by decide +kernel
theorem dL_law_994 : decode cL_law 994 = .ok (.invokevirtual 87, 3) := by decide +kernel
theorem dL_law_997 : decode cL_law 997 = .ok (.iload 5, 2) := by decide +kernel
theorem dL_law_999 : decode cL_law 999 = .ok (.if_icmp .eq 5, 3) := by decide +kernel
theorem dL_law_1002 : decode cL_law 1002 = .ok (.iconst 0, 1) := by decide +kernel
theorem dL_law_1003 : decode cL_law 1003 = .ok (.ireturn, 1) := by decide +kernel
theorem dL_law_1004 : decode cL_law 1004 = .ok (.iload 5, 2) := by decide +kernel
theorem dL_law_1006 : decode cL_law 1006 = .ok (.ifCond .ne 22, 3) := by decide +kernel
theorem dL_law_1009 : decode cL_law 1009 = .ok (.aload_n 3, 1) := by decide +kernel
theorem dL_law_1010 : decode cL_law 1010 = .ok (.iconst 0, 1) := by decide +kernel
theorem dL_law_1011 : decode cL_law 1011 = .ok (.laload, 1) := by decide +kernel
theorem dL_law_1012 : decode cL_law 1012 = .ok (.iload 6, 2) := by decide +kernel
theorem dL_law_1014 : decode cL_law 1014 = .ok (.ifCond .eq 7, 3) := by decide +kernel
theorem dL_law_1017 : decode cL_law 1017 = .ok (.lconst 1, 1) := by decide +kernel
theorem dL_law_1018 : decode cL_law 1018 = .ok (.goto 4, 3) := by decide +kernel
theorem dL_law_1021 : decode cL_law 1021 = .ok (.lconst 0, 1) := by decide +kernel
theorem dL_law_1022 : decode cL_law 1022 = .ok (.lcmp, 1) := by decide +kernel
theorem dL_law_1023 : decode cL_law 1023 = .ok (.ifCond .eq 5, 3) := by decide +kernel
theorem dL_law_1026 : decode cL_law 1026 = .ok (.iconst 0, 1) := by decide +kernel
theorem dL_law_1027 : decode cL_law 1027 = .ok (.ireturn, 1) := by decide +kernel
theorem dL_law_1028 : decode cL_law 1028 = .ok (.goto 515, 3) := by decide +kernel
theorem dL_law_1031 : decode cL_law 1031 = .ok (.aload_n 1, 1) := by decide +kernel
theorem dL_law_1032 : decode cL_law 1032 = .ok (.aload_n 0, 1) := by decide +kernel
theorem dL_law_1033 : decode cL_law 1033 = .ok (.iload 4, 2) := by decide +kernel
theorem dL_law_1035 : decode cL_law 1035 = .ok (.iconst 1, 1) := by decide +kernel
theorem dL_law_1036 : decode cL_law 1036 = .ok (.iadd, 1) := by decide +kernel
theorem dL_law_1037 : decode cL_law 1037 = .ok (.iaload, 1) := by decide +kernel
theorem dL_law_1038 : decode cL_law 1038 = .ok (.aload_n 0, 1) := by decide +kernel
theorem dL_law_1039 : decode cL_law 1039 = .ok (.iload 4, 2) := by decide +kernel
theorem dL_law_1041 : decode cL_law 1041 = .ok (.iconst 2, 1) := by decide +kernel
theorem dL_law_1042 : decode cL_law 1042 = .ok (.iadd, 1) := by decide +kernel
theorem dL_law_1043 : decode cL_law 1043 = .ok (.iaload, 1) := by decide +kernel
theorem dL_law_1044 : decode cL_law 1044 = .ok (.aload_n 0, 1) := by decide +kernel
theorem dL_law_1045 : decode cL_law 1045 = .ok (.iload 4, 2) := by decide +kernel
theorem dL_law_1047 : decode cL_law 1047 = .ok (.iconst 3, 1) := by decide +kernel
theorem dL_law_1048 : decode cL_law 1048 = .ok (.iadd, 1) := by decide +kernel
theorem dL_law_1049 : decode cL_law 1049 = .ok (.iaload, 1) := by decide +kernel
theorem dL_law_1050 : decode cL_law 1050 = .ok (.aload_n 0, 1) := by decide +kernel
theorem dL_law_1051 : decode cL_law 1051 = .ok (.iload 4, 2) := by decide +kernel
theorem dL_law_1053 : decode cL_law 1053 = .ok (.iconst 4, 1) := by decide +kernel
theorem dL_law_1054 : decode cL_law 1054 = .ok (.iadd, 1) := by decide +kernel
theorem dL_law_1055 : decode cL_law 1055 = .ok (.iaload, 1) := by decide +kernel
theorem dL_law_1056 : decode cL_law 1056 = .ok (.aload_n 3, 1) := by decide +kernel
theorem dL_law_1057 : decode cL_law 1057 = .ok (.invokestatic 147, 3) := by decide +kernel
theorem dL_law_1060 : decode cL_law 1060 = .ok (.istore 5, 2) := by decide +kernel
theorem dL_law_1062 : decode cL_law 1062 = .ok (.aload_n 2, 1) := by decide +kernel
theorem dL_law_1063 : decode cL_law 1063 = .ok (.aload_n 0, 1) := by decide +kernel
theorem dL_law_1064 : decode cL_law 1064 = .ok (.iload 4, 2) := by decide +kernel
theorem dL_law_1066 : decode cL_law 1066 = .ok (.iconst 1, 1) := by decide +kernel
theorem dL_law_1067 : decode cL_law 1067 = .ok (.iadd, 1) := by decide +kernel
theorem dL_law_1068 : decode cL_law 1068 = .ok (.iaload, 1) := by decide +kernel
theorem dL_law_1069 : decode cL_law 1069 = .ok (.aload_n 0, 1) := by decide +kernel
theorem dL_law_1070 : decode cL_law 1070 = .ok (.iload 4, 2) := by decide +kernel
theorem dL_law_1072 : decode cL_law 1072 = .ok (.iconst 2, 1) := by decide +kernel
theorem dL_law_1073 : decode cL_law 1073 = .ok (.iadd, 1) := by decide +kernel
theorem dL_law_1074 : decode cL_law 1074 = .ok (.iaload, 1) := by decide +kernel
theorem dL_law_1075 : decode cL_law 1075 = .ok (.aload_n 0, 1) := by decide +kernel
theorem dL_law_1076 : decode cL_law 1076 = .ok (.iload 4, 2) := by decide +kernel
theorem dL_law_1078 : decode cL_law 1078 = .ok (.iconst 3, 1) := by decide +kernel
theorem dL_law_1079 : decode cL_law 1079 = .ok (.iadd, 1) := by decide +kernel
theorem dL_law_1080 : decode cL_law 1080 = .ok (.iaload, 1) := by decide +kernel
theorem dL_law_1081 : decode cL_law 1081 = .ok (.aload_n 0, 1) := by decide +kernel
theorem dL_law_1082 : decode cL_law 1082 = .ok (.iload 4, 2) := by decide +kernel
theorem dL_law_1084 : decode cL_law 1084 = .ok (.iconst 4, 1) := by decide +kernel
theorem dL_law_1085 : decode cL_law 1085 = .ok (.iadd, 1) := by decide +kernel
theorem dL_law_1086 : decode cL_law 1086 = .ok (.iaload, 1) := by decide +kernel
theorem dL_law_1087 : decode cL_law 1087 = .ok (.invokevirtual 149, 3) := by decide +kernel
theorem dL_law_1090 : decode cL_law 1090 = .ok (.istore 6, 2) := by decide +kernel
theorem dL_law_1092 : decode cL_law 1092 = .ok (.aload_n 2, 1) := by decide +kernel
theorem dL_law_1093 : decode cL_law 1093 = .ok (.invokevirtual 87, 3) := by decide +kernel
theorem dL_law_1096 : decode cL_law 1096 = .ok (.iload 5, 2) := by decide +kernel
theorem dL_law_1098 : decode cL_law 1098 = .ok (.if_icmp .eq 5, 3) := by decide +kernel
theorem dL_law_1101 : decode cL_law 1101 = .ok (.iconst 0, 1) := by decide +kernel
theorem dL_law_1102 : decode cL_law 1102 = .ok (.ireturn, 1) := by decide +kernel
theorem dL_law_1103 : decode cL_law 1103 = .ok (.iload 5, 2) := by decide +kernel
theorem dL_law_1105 : decode cL_law 1105 = .ok (.ifCond .ne 22, 3) := by decide +kernel
theorem dL_law_1108 : decode cL_law 1108 = .ok (.aload_n 3, 1) := by decide +kernel
theorem dL_law_1109 : decode cL_law 1109 = .ok (.iconst 0, 1) := by decide +kernel
theorem dL_law_1110 : decode cL_law 1110 = .ok (.laload, 1) := by decide +kernel
theorem dL_law_1111 : decode cL_law 1111 = .ok (.iload 6, 2) := by decide +kernel
theorem dL_law_1113 : decode cL_law 1113 = .ok (.ifCond .eq 7, 3) := by decide +kernel
theorem dL_law_1116 : decode cL_law 1116 = .ok (.lconst 1, 1) := by decide +kernel
theorem dL_law_1117 : decode cL_law 1117 = .ok (.goto 4, 3) := by decide +kernel
theorem dL_law_1120 : decode cL_law 1120 = .ok (.lconst 0, 1) := by decide +kernel
theorem dL_law_1121 : decode cL_law 1121 = .ok (.lcmp, 1) := by decide +kernel
theorem dL_law_1122 : decode cL_law 1122 = .ok (.ifCond .eq 5, 3) := by decide +kernel
theorem dL_law_1125 : decode cL_law 1125 = .ok (.iconst 0, 1) := by decide +kernel
theorem dL_law_1126 : decode cL_law 1126 = .ok (.ireturn, 1) := by decide +kernel
theorem dL_law_1127 : decode cL_law 1127 = .ok (.goto 416, 3) := by decide +kernel
theorem dL_law_1130 : decode cL_law 1130 = .ok (.aload_n 1, 1) := by decide +kernel
theorem dL_law_1131 : decode cL_law 1131 = .ok (.aload_n 0, 1) := by decide +kernel
theorem dL_law_1132 : decode cL_law 1132 = .ok (.iload 4, 2) := by decide +kernel
theorem dL_law_1134 : decode cL_law 1134 = .ok (.iconst 1, 1) := by decide +kernel
theorem dL_law_1135 : decode cL_law 1135 = .ok (.iadd, 1) := by decide +kernel
theorem dL_law_1136 : decode cL_law 1136 = .ok (.iaload, 1) := by decide +kernel
theorem dL_law_1137 : decode cL_law 1137 = .ok (.aload_n 0, 1) := by decide +kernel
theorem dL_law_1138 : decode cL_law 1138 = .ok (.iload 4, 2) := by decide +kernel
theorem dL_law_1140 : decode cL_law 1140 = .ok (.iconst 2, 1) := by decide +kernel
theorem dL_law_1141 : decode cL_law 1141 = .ok (.iadd, 1) := by decide +kernel
theorem dL_law_1142 : decode cL_law 1142 = .ok (.iaload, 1) := by decide +kernel
theorem dL_law_1143 : decode cL_law 1143 = .ok (.aload_n 0, 1) := by decide +kernel
theorem dL_law_1144 : decode cL_law 1144 = .ok (.iload 4, 2) := by decide +kernel
theorem dL_law_1146 : decode cL_law 1146 = .ok (.iconst 3, 1) := by decide +kernel
theorem dL_law_1147 : decode cL_law 1147 = .ok (.iadd, 1) := by decide +kernel
theorem dL_law_1148 : decode cL_law 1148 = .ok (.iaload, 1) := by decide +kernel
theorem dL_law_1149 : decode cL_law 1149 = .ok (.aload_n 3, 1) := by decide +kernel
theorem dL_law_1150 : decode cL_law 1150 = .ok (.invokestatic 150, 3) := by decide +kernel
theorem dL_law_1153 : decode cL_law 1153 = .ok (.istore 5, 2) := by decide +kernel
theorem dL_law_1155 : decode cL_law 1155 = .ok (.aload_n 2, 1) := by decide +kernel
theorem dL_law_1156 : decode cL_law 1156 = .ok (.aload_n 0, 1) := by decide +kernel
theorem dL_law_1157 : decode cL_law 1157 = .ok (.iload 4, 2) := by decide +kernel
theorem dL_law_1159 : decode cL_law 1159 = .ok (.iconst 1, 1) := by decide +kernel
theorem dL_law_1160 : decode cL_law 1160 = .ok (.iadd, 1) := by decide +kernel
theorem dL_law_1161 : decode cL_law 1161 = .ok (.iaload, 1) := by decide +kernel
theorem dL_law_1162 : decode cL_law 1162 = .ok (.aload_n 0, 1) := by decide +kernel
theorem dL_law_1163 : decode cL_law 1163 = .ok (.iload 4, 2) := by decide +kernel
theorem dL_law_1165 : decode cL_law 1165 = .ok (.iconst 2, 1) := by decide +kernel
theorem dL_law_1166 : decode cL_law 1166 = .ok (.iadd, 1) := by decide +kernel
theorem dL_law_1167 : decode cL_law 1167 = .ok (.iaload, 1) := by decide +kernel
theorem dL_law_1168 : decode cL_law 1168 = .ok (.aload_n 0, 1) := by decide +kernel
theorem dL_law_1169 : decode cL_law 1169 = .ok (.iload 4, 2) := by decide +kernel
theorem dL_law_1171 : decode cL_law 1171 = .ok (.iconst 3, 1) := by decide +kernel
theorem dL_law_1172 : decode cL_law 1172 = .ok (.iadd, 1) := by decide +kernel
theorem dL_law_1173 : decode cL_law 1173 = .ok (.iaload, 1) := by decide +kernel
theorem dL_law_1174 : decode cL_law 1174 = .ok (.invokevirtual 152, 3) := by decide +kernel
theorem dL_law_1177 : decode cL_law 1177 = .ok (.istore 6, 2) := by decide +kernel
theorem dL_law_1179 : decode cL_law 1179 = .ok (.aload_n 2, 1) := by decide +kernel
theorem dL_law_1180 : decode cL_law 1180 = .ok (.invokevirtual 87, 3) := by decide +kernel
theorem dL_law_1183 : decode cL_law 1183 = .ok (.iload 5, 2) := by decide +kernel
theorem dL_law_1185 : decode cL_law 1185 = .ok (.if_icmp .eq 5, 3) := by decide +kernel
theorem dL_law_1188 : decode cL_law 1188 = .ok (.iconst 0, 1) := by decide +kernel
theorem dL_law_1189 : decode cL_law 1189 = .ok (.ireturn, 1) := by decide +kernel
theorem dL_law_1190 : decode cL_law 1190 = .ok (.iload 5, 2) := by decide +kernel
theorem dL_law_1192 : decode cL_law 1192 = .ok (.ifCond .ne 15, 3) := by decide +kernel
theorem dL_law_1195 : decode cL_law 1195 = .ok (.aload_n 3, 1) := by decide +kernel
theorem dL_law_1196 : decode cL_law 1196 = .ok (.iconst 0, 1) := by decide +kernel
theorem dL_law_1197 : decode cL_law 1197 = .ok (.laload, 1) := by decide +kernel
theorem dL_law_1198 : decode cL_law 1198 = .ok (.iload 6, 2) := by decide +kernel
theorem dL_law_1200 : decode cL_law 1200 = .ok (.i2l, 1) := by decide +kernel
end
section
theorem dL_law_1201 : decode cL_law 1201 = .ok (.lcmp, 1) := by decide +kernel
theorem dL_law_1202 : decode cL_law 1202 = .ok (.ifCond .eq 5, 3) := by decide +kernel
theorem dL_law_1205 : decode cL_law 1205 = .ok (.iconst 0, 1) := by decide +kernel
theorem dL_law_1206 : decode cL_law 1206 = .ok (.ireturn, 1) := by decide +kernel
theorem dL_law_1207 : decode cL_law 1207 = .ok (.goto 336, 3) := by decide +kernel
theorem dL_law_1210 : decode cL_law 1210 = .ok (.aload_n 1, 1) := by decide +kernel
theorem dL_law_1211 : decode cL_law 1211 = .ok (.aload_n 0, 1) := by decide +kernel
theorem dL_law_1212 : decode cL_law 1212 = .ok (.iload 4, 2) := by decide +kernel
theorem dL_law_1214 : decode cL_law 1214 = .ok (.iconst 1, 1) := by decide +kernel
theorem dL_law_1215 : decode cL_law 1215 = .ok (.iadd, 1) := by decide +kernel
theorem dL_law_1216 : decode cL_law 1216 = .ok (.iaload, 1) := by decide +kernel
theorem dL_law_1217 : decode cL_law 1217 = .ok (.aload_n 0, 1) := by decide +kernel
theorem dL_law_1218 : decode cL_law 1218 = .ok (.iload 4, 2) := by decide +kernel
theorem dL_law_1220 : decode cL_law 1220 = .ok (.iconst 2, 1) := by decide +kernel
theorem dL_law_1221 : decode cL_law 1221 = .ok (.iadd, 1) := by decide +kernel
theorem dL_law_1222 : decode cL_law 1222 = .ok (.iaload, 1) := by decide +kernel
theorem dL_law_1223 : decode cL_law 1223 = .ok (.aload_n 0, 1) := by decide +kernel
theorem dL_law_1224 : decode cL_law 1224 = .ok (.iload 4, 2) := by decide +kernel
theorem dL_law_1226 : decode cL_law 1226 = .ok (.iconst 3, 1) := by decide +kernel
theorem dL_law_1227 : decode cL_law 1227 = .ok (.iadd, 1) := by decide +kernel
theorem dL_law_1228 : decode cL_law 1228 = .ok (.iaload, 1) := by decide +kernel
theorem dL_law_1229 : decode cL_law 1229 = .ok (.aload_n 3, 1) := by decide +kernel
theorem dL_law_1230 : decode cL_law 1230 = .ok (.invokestatic 153, 3) := by decide +kernel
theorem dL_law_1233 : decode cL_law 1233 = .ok (.istore 5, 2) := by decide +kernel
theorem dL_law_1235 : decode cL_law 1235 = .ok (.aload_n 2, 1) := by decide +kernel
theorem dL_law_1236 : decode cL_law 1236 = .ok (.aload_n 0, 1) := by decide +kernel
theorem dL_law_1237 : decode cL_law 1237 = .ok (.iload 4, 2) := by decide +kernel
theorem dL_law_1239 : decode cL_law 1239 = .ok (.iconst 1, 1) := by decide +kernel
theorem dL_law_1240 : decode cL_law 1240 = .ok (.iadd, 1) := by decide +kernel
theorem dL_law_1241 : decode cL_law 1241 = .ok (.iaload, 1) := by decide +kernel
theorem dL_law_1242 : decode cL_law 1242 = .ok (.aload_n 0, 1) := by decide +kernel
theorem dL_law_1243 : decode cL_law 1243 = .ok (.iload 4, 2) := by decide +kernel
theorem dL_law_1245 : decode cL_law 1245 = .ok (.iconst 2, 1) := by decide +kernel
theorem dL_law_1246 : decode cL_law 1246 = .ok (.iadd, 1) := by decide +kernel
theorem dL_law_1247 : decode cL_law 1247 = .ok (.iaload, 1) := by decide +kernel
theorem dL_law_1248 : decode cL_law 1248 = .ok (.aload_n 0, 1) := by decide +kernel
theorem dL_law_1249 : decode cL_law 1249 = .ok (.iload 4, 2) := by decide +kernel
theorem dL_law_1251 : decode cL_law 1251 = .ok (.iconst 3, 1) := by decide +kernel
theorem dL_law_1252 : decode cL_law 1252 = .ok (.iadd, 1) := by decide +kernel
theorem dL_law_1253 : decode cL_law 1253 = .ok (.iaload, 1) := by decide +kernel
theorem dL_law_1254 : decode cL_law 1254 = .ok (.invokevirtual 155, 3) := by decide +kernel
theorem dL_law_1257 : decode cL_law 1257 = .ok (.istore 6, 2) := by decide +kernel
theorem dL_law_1259 : decode cL_law 1259 = .ok (.aload_n 2, 1) := by decide +kernel
theorem dL_law_1260 : decode cL_law 1260 = .ok (.invokevirtual 87, 3) := by decide +kernel
theorem dL_law_1263 : decode cL_law 1263 = .ok (.iload 5, 2) := by decide +kernel
theorem dL_law_1265 : decode cL_law 1265 = .ok (.if_icmp .eq 5, 3) := by decide +kernel
theorem dL_law_1268 : decode cL_law 1268 = .ok (.iconst 0, 1) := by decide +kernel
theorem dL_law_1269 : decode cL_law 1269 = .ok (.ireturn, 1) := by decide +kernel
theorem dL_law_1270 : decode cL_law 1270 = .ok (.iload 5, 2) := by decide +kernel
theorem dL_law_1272 : decode cL_law 1272 = .ok (.ifCond .ne 15, 3) := by decide +kernel
theorem dL_law_1275 : decode cL_law 1275 = .ok (.aload_n 3, 1) := by decide +kernel
theorem dL_law_1276 : decode cL_law 1276 = .ok (.iconst 0, 1) := by decide +kernel
theorem dL_law_1277 : decode cL_law 1277 = .ok (.laload, 1) := by decide +kernel
theorem dL_law_1278 : decode cL_law 1278 = .ok (.iload 6, 2) := by decide +kernel
theorem dL_law_1280 : decode cL_law 1280 = .ok (.i2l, 1) := by decide +kernel
theorem dL_law_1281 : decode cL_law 1281 = .ok (.lcmp, 1) := by decide +kernel
theorem dL_law_1282 : decode cL_law 1282 = .ok (.ifCond .eq 5, 3) := by decide +kernel
theorem dL_law_1285 : decode cL_law 1285 = .ok (.iconst 0, 1) := by decide +kernel
theorem dL_law_1286 : decode cL_law 1286 = .ok (.ireturn, 1) := by decide +kernel
theorem dL_law_1287 : decode cL_law 1287 = .ok (.goto 256, 3) := by decide +kernel
theorem dL_law_1290 : decode cL_law 1290 = .ok (.aload_n 1, 1) := by decide +kernel
theorem dL_law_1291 : decode cL_law 1291 = .ok (.aload_n 0, 1) := by decide +kernel
theorem dL_law_1292 : decode cL_law 1292 = .ok (.iload 4, 2) := by decide +kernel
theorem dL_law_1294 : decode cL_law 1294 = .ok (.iconst 1, 1) := by decide +kernel
theorem dL_law_1295 : decode cL_law 1295 = .ok (.iadd, 1) := by decide +kernel
theorem dL_law_1296 : decode cL_law 1296 = .ok (.iaload, 1) := by decide +kernel
theorem dL_law_1297 : decode cL_law 1297 = .ok (.aload_n 0, 1) := by decide +kernel
theorem dL_law_1298 : decode cL_law 1298 = .ok (.iload 4, 2) := by decide +kernel
theorem dL_law_1300 : decode cL_law 1300 = .ok (.iconst 2, 1) := by decide +kernel
theorem dL_law_1301 : decode cL_law 1301 = .ok (.iadd, 1) := by decide +kernel
theorem dL_law_1302 : decode cL_law 1302 = .ok (.iaload, 1) := by decide +kernel
theorem dL_law_1303 : decode cL_law 1303 = .ok (.aload_n 0, 1) := by decide +kernel
theorem dL_law_1304 : decode cL_law 1304 = .ok (.iload 4, 2) := by decide +kernel
theorem dL_law_1306 : decode cL_law 1306 = .ok (.iconst 3, 1) := by decide +kernel
theorem dL_law_1307 : decode cL_law 1307 = .ok (.iadd, 1) := by decide +kernel
theorem dL_law_1308 : decode cL_law 1308 = .ok (.iaload, 1) := by decide +kernel
theorem dL_law_1309 : decode cL_law 1309 = .ok (.aload_n 3, 1) := by decide +kernel
theorem dL_law_1310 : decode cL_law 1310 = .ok (.invokestatic 156, 3) := by decide +kernel
theorem dL_law_1313 : decode cL_law 1313 = .ok (.istore 5, 2) := by decide +kernel
theorem dL_law_1315 : decode cL_law 1315 = .ok (.aload_n 2, 1) := by decide +kernel
theorem dL_law_1316 : decode cL_law 1316 = .ok (.aload_n 0, 1) := by decide +kernel
theorem dL_law_1317 : decode cL_law 1317 = .ok (.iload 4, 2) := by decide +kernel
theorem dL_law_1319 : decode cL_law 1319 = .ok (.iconst 1, 1) := by decide +kernel
theorem dL_law_1320 : decode cL_law 1320 = .ok (.iadd, 1) := by decide +kernel
theorem dL_law_1321 : decode cL_law 1321 = .ok (.iaload, 1) := by decide +kernel
theorem dL_law_1322 : decode cL_law 1322 = .ok (.aload_n 0, 1) := by decide +kernel
theorem dL_law_1323 : decode cL_law 1323 = .ok (.iload 4, 2) := by decide +kernel
theorem dL_law_1325 : decode cL_law 1325 = .ok (.iconst 2, 1) := by decide +kernel
theorem dL_law_1326 : decode cL_law 1326 = .ok (.iadd, 1) := by decide +kernel
theorem dL_law_1327 : decode cL_law 1327 = .ok (.iaload, 1) := by decide +kernel
theorem dL_law_1328 : decode cL_law 1328 = .ok (.aload_n 0, 1) := by decide +kernel
theorem dL_law_1329 : decode cL_law 1329 = .ok (.iload 4, 2) := by decide +kernel
theorem dL_law_1331 : decode cL_law 1331 = .ok (.iconst 3, 1) := by decide +kernel
theorem dL_law_1332 : decode cL_law 1332 = .ok (.iadd, 1) := by decide +kernel
theorem dL_law_1333 : decode cL_law 1333 = .ok (.iaload, 1) := by decide +kernel
theorem dL_law_1334 : decode cL_law 1334 = .ok (.invokevirtual 158, 3) := by decide +kernel
theorem dL_law_1337 : decode cL_law 1337 = .ok (.istore 6, 2) := by decide +kernel
theorem dL_law_1339 : decode cL_law 1339 = .ok (.aload_n 2, 1) := by decide +kernel
theorem dL_law_1340 : decode cL_law 1340 = .ok (.invokevirtual 87, 3) := by decide +kernel
theorem dL_law_1343 : decode cL_law 1343 = .ok (.iload 5, 2) := by decide +kernel
theorem dL_law_1345 : decode cL_law 1345 = .ok (.if_icmp .eq 5, 3) := by decide +kernel
theorem dL_law_1348 : decode cL_law 1348 = .ok (.iconst 0, 1) := by decide +kernel
theorem dL_law_1349 : decode cL_law 1349 = .ok (.ireturn, 1) := by decide +kernel
theorem dL_law_1350 : decode cL_law 1350 = .ok (.iload 5, 2) := by decide +kernel
theorem dL_law_1352 : decode cL_law 1352 = .ok (.ifCond .ne 15, 3) := by decide +kernel
theorem dL_law_1355 : decode cL_law 1355 = .ok (.aload_n 3, 1) := by decide +kernel
theorem dL_law_1356 : decode cL_law 1356 = .ok (.iconst 0, 1) := by decide +kernel
theorem dL_law_1357 : decode cL_law 1357 = .ok (.laload, 1) := by decide +kernel
theorem dL_law_1358 : decode cL_law 1358 = .ok (.iload 6, 2) := by decide +kernel
theorem dL_law_1360 : decode cL_law 1360 = .ok (.i2l, 1) := by decide +kernel
theorem dL_law_1361 : decode cL_law 1361 = .ok (.lcmp, 1) := by decide +kernel
theorem dL_law_1362 : decode cL_law 1362 = .ok (.ifCond .eq 5, 3) := by decide +kernel
theorem dL_law_1365 : decode cL_law 1365 = .ok (.iconst 0, 1) := by decide +kernel
theorem dL_law_1366 : decode cL_law 1366 = .ok (.ireturn, 1) := by decide +kernel
theorem dL_law_1367 : decode cL_law 1367 = .ok (.goto 176, 3) := by decide +kernel
theorem dL_law_1370 : decode cL_law 1370 = .ok (.aload_n 1, 1) := by decide +kernel
theorem dL_law_1371 : decode cL_law 1371 = .ok (.aload_n 0, 1) := by decide +kernel
theorem dL_law_1372 : decode cL_law 1372 = .ok (.iload 4, 2) := by decide +kernel
theorem dL_law_1374 : decode cL_law 1374 = .ok (.iconst 1, 1) := by decide +kernel
theorem dL_law_1375 : decode cL_law 1375 = .ok (.iadd, 1) := by decide +kernel
theorem dL_law_1376 : decode cL_law 1376 = .ok (.iaload, 1) := by decide +kernel
theorem dL_law_1377 : decode cL_law 1377 = .ok (.aload_n 0, 1) := by decide +kernel
theorem dL_law_1378 : decode cL_law 1378 = .ok (.iload 4, 2) := by decide +kernel
theorem dL_law_1380 : decode cL_law 1380 = .ok (.iconst 2, 1) := by decide +kernel
theorem dL_law_1381 : decode cL_law 1381 = .ok (.iadd, 1) := by decide +kernel
theorem dL_law_1382 : decode cL_law 1382 = .ok (.iaload, 1) := by decide +kernel
theorem dL_law_1383 : decode cL_law 1383 = .ok (.aload_n 3, 1) := by decide +kernel
theorem dL_law_1384 : decode cL_law 1384 = .ok (.invokestatic 159, 3) := by decide +kernel
theorem dL_law_1387 : decode cL_law 1387 = .ok (.istore 5, 2) := by decide +kernel
theorem dL_law_1389 : decode cL_law 1389 = .ok (.aload_n 2, 1) := by decide +kernel
theorem dL_law_1390 : decode cL_law 1390 = .ok (.aload_n 0, 1) := by decide +kernel
theorem dL_law_1391 : decode cL_law 1391 = .ok (.iload 4, 2) := by decide +kernel
theorem dL_law_1393 : decode cL_law 1393 = .ok (.iconst 1, 1) := by decide +kernel
theorem dL_law_1394 : decode cL_law 1394 = .ok (.iadd, 1) := by decide +kernel
theorem dL_law_1395 : decode cL_law 1395 = .ok (.iaload, 1) := by decide +kernel
theorem dL_law_1396 : decode cL_law 1396 = .ok (.aload_n 0, 1) := by decide +kernel
theorem dL_law_1397 : decode cL_law 1397 = .ok (.iload 4, 2) := by decide +kernel
theorem dL_law_1399 : decode cL_law 1399 = .ok (.iconst 2, 1) := by decide +kernel
theorem dL_law_1400 : decode cL_law 1400 = .ok (.iadd, 1) := by decide +kernel
theorem dL_law_1401 : decode cL_law 1401 = .ok (.iaload, 1) := by decide +kernel
theorem dL_law_1402 : decode cL_law 1402 = .ok (.invokevirtual 161, 3) := by decide +kernel
theorem dL_law_1405 : decode cL_law 1405 = .ok (.istore 6, 2) := by decide +kernel
theorem dL_law_1407 : decode cL_law 1407 = .ok (.aload_n 2, 1) := by decide +kernel
theorem dL_law_1408 : decode cL_law 1408 = .ok (.invokevirtual 87, 3) := by decide +kernel
theorem dL_law_1411 : decode cL_law 1411 = .ok (.iload 5, 2) := by decide +kernel
theorem dL_law_1413 : decode cL_law 1413 = .ok (.if_icmp .eq 5, 3) := by decide +kernel
theorem dL_law_1416 : decode cL_law 1416 = .ok (.iconst 0, 1) := by decide +kernel
theorem dL_law_1417 : decode cL_law 1417 = .ok (.ireturn, 1) := by decide +kernel
theorem dL_law_1418 : decode cL_law 1418 = .ok (.iload 5, 2) := by decide +kernel
theorem dL_law_1420 : decode cL_law 1420 = .ok (.ifCond .ne 15, 3) := by decide +kernel
theorem dL_law_1423 : decode cL_law 1423 = .ok (.aload_n 3, 1) := by decide +kernel
theorem dL_law_1424 : decode cL_law 1424 = .ok (.iconst 0, 1) := by decide +kernel
theorem dL_law_1425 : decode cL_law 1425 = .ok (.laload, 1) := by decide +kernel
theorem dL_law_1426 : decode cL_law 1426 = .ok (.iload 6, 2) := by decide +kernel
theorem dL_law_1428 : decode cL_law 1428 = .ok (.i2l, 1) := by decide +kernel
theorem dL_law_1429 : decode cL_law 1429 = .ok (.lcmp, 1) := by decide +kernel
theorem dL_law_1430 : decode cL_law 1430 = .ok (.ifCond .eq 5, 3) := by decide +kernel
theorem dL_law_1433 : decode cL_law 1433 = .ok (.iconst 0, 1) := by decide +kernel
theorem dL_law_1434 : decode cL_law 1434 = .ok (.ireturn, 1) := by decide +kernel
theorem dL_law_1435 : decode cL_law 1435 = .ok (.goto 108, 3) := by decide +kernel
theorem dL_law_1438 : decode cL_law 1438 = .ok (.aload_n 1, 1) := by decide +kernel
theorem dL_law_1439 : decode cL_law 1439 = .ok (.aload_n 0, 1) := by decide +kernel
theorem dL_law_1440 : decode cL_law 1440 = .ok (.iload 4, 2) := by decide +kernel
theorem dL_law_1442 : decode cL_law 1442 = .ok (.iconst 1, 1) := by decide +kernel
theorem dL_law_1443 : decode cL_law 1443 = .ok (.iadd, 1) := by decide +kernel
theorem dL_law_1444 : decode cL_law 1444 = .ok (.iaload, 1) := by decide +kernel
theorem dL_law_1445 : decode cL_law 1445 = .ok (.aload_n 0, 1) := by decide +kernel
theorem dL_law_1446 : decode cL_law 1446 = .ok (.iload 4, 2) := by decide +kernel
theorem dL_law_1448 : decode cL_law 1448 = .ok (.iconst 2, 1) := by decide +kernel
theorem dL_law_1449 : decode cL_law 1449 = .ok (.iadd, 1) := by decide +kernel
theorem dL_law_1450 : decode cL_law 1450 = .ok (.iaload, 1) := by decide +kernel
theorem dL_law_1451 : decode cL_law 1451 = .ok (.aload_n 3, 1) := by decide +kernel
theorem dL_law_1452 : decode cL_law 1452 = .ok (.invokestatic 162, 3) := by decide +kernel
theorem dL_law_1455 : decode cL_law 1455 = .ok (.istore 5, 2) := by decide +kernel
theorem dL_law_1457 : decode cL_law 1457 = .ok (.aload_n 2, 1) := by decide +kernel
theorem dL_law_1458 : decode cL_law 1458 = .ok (.aload_n 0, 1) := by decide +kernel
theorem dL_law_1459 : decode cL_law 1459 = .ok (.iload 4, 2) := by decide +kernel
theorem dL_law_1461 : decode cL_law 1461 = .ok (.iconst 1, 1) := by decide +kernel
theorem dL_law_1462 : decode cL_law 1462 = .ok (.iadd, 1) := by decide +kernel
theorem dL_law_1463 : decode cL_law 1463 = .ok (.iaload, 1) := by decide +kernel
theorem dL_law_1464 : decode cL_law 1464 = .ok (.aload_n 0, 1) := by decide +kernel
theorem dL_law_1465 : decode cL_law 1465 = .ok (.iload 4, 2) := by decide +kernel
theorem dL_law_1467 : decode cL_law 1467 = .ok (.iconst 2, 1) := by decide +kernel
theorem dL_law_1468 : decode cL_law 1468 = .ok (.iadd, 1) := by decide +kernel
theorem dL_law_1469 : decode cL_law 1469 = .ok (.iaload, 1) := by decide +kernel
theorem dL_law_1470 : decode cL_law 1470 = .ok (.invokevirtual 164, 3) := by decide +kernel
theorem dL_law_1473 : decode cL_law 1473 = .ok (.istore 6, 2) := by decide +kernel
theorem dL_law_1475 : decode cL_law 1475 = .ok (.aload_n 2, 1) := by decide +kernel
theorem dL_law_1476 : decode cL_law 1476 = .ok (.invokevirtual 87, 3) := by decide +kernel
theorem dL_law_1479 : decode cL_law 1479 = .ok (.iload 5, 2) := by decide +kernel
theorem dL_law_1481 : decode cL_law 1481 = .ok (.if_icmp .eq 5, 3) := by decide +kernel
theorem dL_law_1484 : decode cL_law 1484 = .ok (.iconst 0, 1) := by decide +kernel
theorem dL_law_1485 : decode cL_law 1485 = .ok (.ireturn, 1) := by decide +kernel
theorem dL_law_1486 : decode cL_law 1486 = .ok (.iload 5, 2) := by decide +kernel
theorem dL_law_1488 : decode cL_law 1488 = .ok (.ifCond .ne 15, 3) := by decide +kernel
theorem dL_law_1491 : decode cL_law 1491 = .ok (.aload_n 3, 1) := by decide +kernel
theorem dL_law_1492 : decode cL_law 1492 = .ok (.iconst 0, 1) := by decide +kernel
theorem dL_law_1493 : decode cL_law 1493 = .ok (.laload, 1) := by decide +kernel
theorem dL_law_1494 : decode cL_law 1494 = .ok (.iload 6, 2) := by decide +kernel
theorem dL_law_1496 : decode cL_law 1496 = .ok (.i2l, 1) := by decide +kernel
theorem dL_law_1497 : decode cL_law 1497 = .ok (.lcmp, 1) := by decide +kernel
theorem dL_law_1498 : decode cL_law 1498 = .ok (.ifCond .eq 5, 3) := by decide +kernel
theorem dL_law_1501 : decode cL_law 1501 = .ok (.iconst 0, 1) := by decide +kernel
theorem dL_law_1502 : decode cL_law 1502 = .ok (.ireturn, 1) := by decide +kernel
theorem dL_law_1503 : decode cL_law 1503 = .ok (.goto 40, 3) := by decide +kernel
theorem dL_law_1506 : decode cL_law 1506 = .ok (.aload_n 1, 1) := by decide +kernel
theorem dL_law_1507 : decode cL_law 1507 = .ok (.aload_n 0, 1) := by decide +kernel
theorem dL_law_1508 : decode cL_law 1508 = .ok (.iload 4, 2) := by decide +kernel
theorem dL_law_1510 : decode cL_law 1510 = .ok (.iconst 1, 1) := by decide +kernel
theorem dL_law_1511 : decode cL_law 1511 = .ok (.iadd, 1) := by decide +kernel
theorem dL_law_1512 : decode cL_law 1512 = .ok (.iaload, 1) := by decide +kernel
theorem dL_law_1513 : decode cL_law 1513 = .ok (.aload_n 0, 1) := by decide +kernel
theorem dL_law_1514 : decode cL_law 1514 = .ok (.iload 4, 2) := by decide +kernel
theorem dL_law_1516 : decode cL_law 1516 = .ok (.iconst 2, 1) := by decide +kernel
theorem dL_law_1517 : decode cL_law 1517 = .ok (.iadd, 1) := by decide +kernel
theorem dL_law_1518 : decode cL_law 1518 = .ok (.iaload, 1) := by decide +kernel
theorem dL_law_1519 : decode cL_law 1519 = .ok (.invokevirtual 165, 3) := by decide +kernel
theorem dL_law_1522 : decode cL_law 1522 = .ok (.aload_n 2, 1) := by decide +kernel
theorem dL_law_1523 : decode cL_law 1523 = .ok (.aload_n 0, 1) := by decide +kernel
theorem dL_law_1524 : decode cL_law 1524 = .ok (.iload 4, 2) := by decide +kernel
theorem dL_law_1526 : decode cL_law 1526 = .ok (.iconst 1, 1) := by decide +kernel
theorem dL_law_1527 : decode cL_law 1527 = .ok (.iadd, 1) := by decide +kernel
theorem dL_law_1528 : decode cL_law 1528 = .ok (.iaload, 1) := by decide +kernel
theorem dL_law_1529 : decode cL_law 1529 = .ok (.aload_n 0, 1) := by decide +kernel
theorem dL_law_1530 : decode cL_law 1530 = .ok (.iload 4, 2) := by decide +kernel
theorem dL_law_1532 : decode cL_law 1532 = .ok (.iconst 2, 1) := by decide +kernel
theorem dL_law_1533 : decode cL_law 1533 = .ok (.iadd, 1) := by decide +kernel
theorem dL_law_1534 : decode cL_law 1534 = .ok (.iaload, 1) := by decide +kernel
theorem dL_law_1535 : decode cL_law 1535 = .ok (.invokevirtual 168, 3) := by decide +kernel
theorem dL_law_1538 : decode cL_law 1538 = .ok (.if_icmp .eq 5, 3) := by decide +kernel
theorem dL_law_1541 : decode cL_law 1541 = .ok (.iconst 0, 1) := by decide +kernel
theorem dL_law_1542 : decode cL_law 1542 = .ok (.ireturn, 1) := by decide +kernel
theorem dL_law_1543 : decode cL_law 1543 = .ok (.iinc 4 5, 3) := by decide +kernel
theorem dL_law_1546 : decode cL_law 1546 = .ok (.goto (-1523), 3) := by decide +kernel
theorem dL_law_1549 : decode cL_law 1549 = .ok (.iconst 1, 1) := by decide +kernel
theorem dL_law_1550 : decode cL_law 1550 = .ok (.ireturn, 1) := by decide +kernel
end
section
/-! ===== the words: one list of all good ones; every method stands over it ===== -/
def wU : List Cond := lw_tbl.filter goodWord
theorem wU_good : ∀ w ∈ wU, goodWord w = true := fun w h => (List.mem_filter.mp h).2
theorem wU_tbl : ∀ w ∈ wU, w ∈ lw_tbl := fun w h => (List.mem_filter.mp h).1
theorem wU_at {w : Cond} (i : Nat) (h : lw_tbl[i]? = some w) (g : goodWord w = true) : w ∈ wU := List.mem_filter.mpr ⟨List.mem_of_getElem? h, g⟩
theorem wU_ws {ws : List Cond} (ps : List Nat) (h : ws = ps.filterMap (fun i => lw_tbl[i]?)) (g : ws.all goodWord = true) : ∀ w ∈ ws, w ∈ wU := by
  intro w hw
  have h1 := List.all_eq_true.mp g w hw
  rw [h] at hw
  obtain ⟨i, -, hi⟩ := List.mem_filterMap.mp hw
  exact wU_at i hi h1
theorem wU_in {yc w : Cond} (h : w ∈ wU) : GoodIn wU (w :: wU) := fun v hv => (List.mem_cons.mp hv).elim (fun e => by rw [e]; exact ⟨h, good_of_word (wU_good _ h)⟩) (fun h2 => ⟨h2, good_of_word (wU_good _ h2)⟩)
theorem fw_X0 : ∀ w ∈ u_ws RX0 TX0 3, w ∈ wU := wU_ws [671, 673, 675] (by decide +kernel) (by decide +kernel)
theorem fw_X1 : ∀ w ∈ u_ws RX1 TX1 6, w ∈ wU := wU_ws [94, 96, 98, 100, 102, 104] (by decide +kernel) (by decide +kernel)
theorem fw_X2 : ∀ w ∈ u_ws RX2 TX2 2, w ∈ wU := wU_ws [57, 59] (by decide +kernel) (by decide +kernel)
theorem fw_X3 : ∀ w ∈ u_ws RX3 TX3 2, w ∈ wU := wU_ws [445, 447] (by decide +kernel) (by decide +kernel)
theorem fw_X4 : ∀ w ∈ u_ws RX4 TX4 2, w ∈ wU := wU_ws [117, 119] (by decide +kernel) (by decide +kernel)
theorem fw_X5 : ∀ w ∈ u_ws RX5 TX5 1, w ∈ wU := wU_ws [131] (by decide +kernel) (by decide +kernel)
theorem fw_X6 : ∀ w ∈ u_ws RX6 TX6 5, w ∈ wU := wU_ws [501, 503, 505, 507, 509] (by decide +kernel) (by decide +kernel)
theorem fw_X7 : ∀ w ∈ u_ws RX7 TX7 3, w ∈ wU := wU_ws [74, 76, 78] (by decide +kernel) (by decide +kernel)
theorem fw_X8 : ∀ w ∈ u_ws RX8 TX8 6, w ∈ wU := wU_ws [140, 142, 144, 146, 148, 150] (by decide +kernel) (by decide +kernel)
theorem fw_X9 : ∀ w ∈ u_ws RX9 TX9 16, w ∈ wU := wU_ws [800, 802, 804, 806, 808, 810, 812, 814, 816, 818, 820, 822, 824, 826, 828, 830] (by decide +kernel) (by decide +kernel)
/-- a method that may be called: its code, its class; how many arguments -/
def MW (y : MethodName) (c : ByteArray) (nL : Nat) (ret : Option FieldType) (n : Nat) : Prop := Cond.code y c nL ret ∈ wU ∧ Cond.initialized y.cls ∈ wU ∧ y.cls ≠ "java/lang/invoke/MethodHandle" ∧ y.cls ≠ "java/lang/invoke/VarHandle" ∧ (parseMethodDescriptor y.desc).map (fun d => d.parameters.length) = some n
def MV (y : MethodName) : Prop := Cond.instanceMethod y ∈ wU ∧ Cond.selects y.cls y y ∈ wU
theorem m_X7_isThere : MW yX7_isThere cX7_isThere 2 (some .boolean) 1 := ⟨wU_at 188 (by decide +kernel) rfl, wU_at 25 (by decide +kernel) rfl, by decide +kernel, by decide +kernel, by decide +kernel⟩
theorem mv_X7_isThere : MV yX7_isThere := ⟨wU_at 187 (by decide +kernel) rfl, wU_at 0 (by decide +kernel) rfl⟩
theorem m_X7_originBits : MW yX7_originBits cX7_originBits 5 (some .int) 1 := ⟨wU_at 203 (by decide +kernel) rfl, wU_at 25 (by decide +kernel) rfl, by decide +kernel, by decide +kernel, by decide +kernel⟩
theorem mv_X7_originBits : MV yX7_originBits := ⟨wU_at 202 (by decide +kernel) rfl, wU_at 1 (by decide +kernel) rfl⟩
theorem m_X1_fillBest : MW yX1_fillBest cX1_fillBest 6 none 2 := ⟨wU_at 243 (by decide +kernel) rfl, wU_at 26 (by decide +kernel) rfl, by decide +kernel, by decide +kernel, by decide +kernel⟩
theorem mv_X1_fillBest : MV yX1_fillBest := ⟨wU_at 242 (by decide +kernel) rfl, wU_at 2 (by decide +kernel) rfl⟩
theorem m_X8_needPeer : MW yX8_needPeer cX8_needPeer 2 none 1 := ⟨wU_at 398 (by decide +kernel) rfl, wU_at 23 (by decide +kernel) rfl, by decide +kernel, by decide +kernel, by decide +kernel⟩
theorem mv_X8_needPeer : MV yX8_needPeer := ⟨wU_at 397 (by decide +kernel) rfl, wU_at 4 (by decide +kernel) rfl⟩
theorem m_X8_needPrefix : MW yX8_needPrefix cX8_needPrefix 3 (some (.object "Bgpreplay$Prefix")) 2 := ⟨wU_at 419 (by decide +kernel) rfl, wU_at 23 (by decide +kernel) rfl, by decide +kernel, by decide +kernel, by decide +kernel⟩
theorem mv_X8_needPrefix : MV yX8_needPrefix := ⟨wU_at 418 (by decide +kernel) rfl, wU_at 5 (by decide +kernel) rfl⟩
theorem m_X8_needRoomForUpdate : MW yX8_needRoomForUpdate cX8_needRoomForUpdate 1 none 0 := ⟨wU_at 458 (by decide +kernel) rfl, wU_at 23 (by decide +kernel) rfl, by decide +kernel, by decide +kernel, by decide +kernel⟩
theorem mv_X8_needRoomForUpdate : MV yX8_needRoomForUpdate := ⟨wU_at 457 (by decide +kernel) rfl, wU_at 6 (by decide +kernel) rfl⟩
theorem m_X8_endRoute : MW yX8_endRoute cX8_endRoute 2 none 1 := ⟨wU_at 468 (by decide +kernel) rfl, wU_at 23 (by decide +kernel) rfl, by decide +kernel, by decide +kernel, by decide +kernel⟩
theorem mv_X8_endRoute : MV yX8_endRoute := ⟨wU_at 467 (by decide +kernel) rfl, wU_at 7 (by decide +kernel) rfl⟩
theorem m_X8_needRoute : MW yX8_needRoute cX8_needRoute 5 (some (.object "Bgpreplay$Route")) 3 := ⟨wU_at 536 (by decide +kernel) rfl, wU_at 23 (by decide +kernel) rfl, by decide +kernel, by decide +kernel, by decide +kernel⟩
theorem mv_X8_needRoute : MV yX8_needRoute := ⟨wU_at 535 (by decide +kernel) rfl, wU_at 8 (by decide +kernel) rfl⟩
theorem m_X8_needAddress : MW yX8_needAddress cX8_needAddress 2 none 1 := ⟨wU_at 601 (by decide +kernel) rfl, wU_at 23 (by decide +kernel) rfl, by decide +kernel, by decide +kernel, by decide +kernel⟩
theorem mv_X8_needAddress : MV yX8_needAddress := ⟨wU_at 600 (by decide +kernel) rfl, wU_at 9 (by decide +kernel) rfl⟩
theorem m_X9_clearTable : MW yX9_clearTable cX9_clearTable 3 none 1 := ⟨wU_at 783 (by decide +kernel) rfl, wU_at 29 (by decide +kernel) rfl, by decide +kernel, by decide +kernel, by decide +kernel⟩
theorem mv_X9_clearTable : MV yX9_clearTable := ⟨wU_at 782 (by decide +kernel) rfl, wU_at 10 (by decide +kernel) rfl⟩
theorem m_X9_update : MW yX9_update cX9_update 5 none 3 := ⟨wU_at 876 (by decide +kernel) rfl, wU_at 29 (by decide +kernel) rfl, by decide +kernel, by decide +kernel, by decide +kernel⟩
theorem mv_X9_update : MV yX9_update := ⟨wU_at 875 (by decide +kernel) rfl, wU_at 11 (by decide +kernel) rfl⟩
theorem m_X9_apply : MW yX9_apply cX9_apply 4 none 2 := ⟨wU_at 880 (by decide +kernel) rfl, wU_at 29 (by decide +kernel) rfl, by decide +kernel, by decide +kernel, by decide +kernel⟩
theorem mv_X9_apply : MV yX9_apply := ⟨wU_at 879 (by decide +kernel) rfl, wU_at 12 (by decide +kernel) rfl⟩
theorem m_X9_route : MW yX9_route cX9_route 5 (some .int) 3 := ⟨wU_at 888 (by decide +kernel) rfl, wU_at 29 (by decide +kernel) rfl, by decide +kernel, by decide +kernel, by decide +kernel⟩
theorem mv_X9_route : MV yX9_route := ⟨wU_at 887 (by decide +kernel) rfl, wU_at 13 (by decide +kernel) rfl⟩
theorem m_X9_routesOf : MW yX9_routesOf cX9_routesOf 4 (some .int) 1 := ⟨wU_at 892 (by decide +kernel) rfl, wU_at 29 (by decide +kernel) rfl, by decide +kernel, by decide +kernel, by decide +kernel⟩
theorem mv_X9_routesOf : MV yX9_routesOf := ⟨wU_at 891 (by decide +kernel) rfl, wU_at 14 (by decide +kernel) rfl⟩
theorem m_X9_best : MW yX9_best cX9_best 6 (some .int) 2 := ⟨wU_at 912 (by decide +kernel) rfl, wU_at 29 (by decide +kernel) rfl, by decide +kernel, by decide +kernel, by decide +kernel⟩
theorem mv_X9_best : MV yX9_best := ⟨wU_at 911 (by decide +kernel) rfl, wU_at 15 (by decide +kernel) rfl⟩
theorem m_X9_lengthFound : MW yX9_lengthFound cX9_lengthFound 4 (some .int) 2 := ⟨wU_at 928 (by decide +kernel) rfl, wU_at 29 (by decide +kernel) rfl, by decide +kernel, by decide +kernel, by decide +kernel⟩
theorem mv_X9_lengthFound : MV yX9_lengthFound := ⟨wU_at 927 (by decide +kernel) rfl, wU_at 16 (by decide +kernel) rfl⟩
theorem m_X9_found : MW yX9_found cX9_found 4 (some .int) 2 := ⟨wU_at 932 (by decide +kernel) rfl, wU_at 29 (by decide +kernel) rfl, by decide +kernel, by decide +kernel, by decide +kernel⟩
theorem mv_X9_found : MV yX9_found := ⟨wU_at 931 (by decide +kernel) rfl, wU_at 17 (by decide +kernel) rfl⟩
theorem m_X9_originsOf : MW yX9_originsOf cX9_originsOf 7 (some .int) 1 := ⟨wU_at 948 (by decide +kernel) rfl, wU_at 29 (by decide +kernel) rfl, by decide +kernel, by decide +kernel, by decide +kernel⟩
theorem mv_X9_originsOf : MV yX9_originsOf := ⟨wU_at 947 (by decide +kernel) rfl, wU_at 18 (by decide +kernel) rfl⟩
theorem m_X9_origin : MW yX9_origin cX9_origin 2 (some .int) 1 := ⟨wU_at 952 (by decide +kernel) rfl, wU_at 29 (by decide +kernel) rfl, by decide +kernel, by decide +kernel, by decide +kernel⟩
theorem mv_X9_origin : MV yX9_origin := ⟨wU_at 951 (by decide +kernel) rfl, wU_at 19 (by decide +kernel) rfl⟩
theorem m_X9_replay : MW yX9_replay cX9_replay 4 none 2 := ⟨wU_at 987 (by decide +kernel) rfl, wU_at 29 (by decide +kernel) rfl, by decide +kernel, by decide +kernel, by decide +kernel⟩
theorem mv_X9_replay : MV yX9_replay := ⟨wU_at 986 (by decide +kernel) rfl, wU_at 20 (by decide +kernel) rfl⟩
theorem m_X9_areAlike : MW yX9_areAlike cX9_areAlike 5 (some .boolean) 2 := ⟨wU_at 999 (by decide +kernel) rfl, wU_at 29 (by decide +kernel) rfl, by decide +kernel, by decide +kernel, by decide +kernel⟩
theorem mv_X9_areAlike : MV yX9_areAlike := ⟨wU_at 998 (by decide +kernel) rfl, wU_at 21 (by decide +kernel) rfl⟩
theorem m_X8_init : MW yX8_init cX8_init 1 none 0 := ⟨wU_at 45 (by decide +kernel) rfl, wU_at 23 (by decide +kernel) rfl, by decide +kernel, by decide +kernel, by decide +kernel⟩
theorem mi_X8_init : Cond.instanceMethod yX8_init ∈ wU := wU_at 44 (by decide +kernel) rfl
theorem m_X2_init : MW yX2_init cX2_init 1 none 0 := ⟨wU_at 53 (by decide +kernel) rfl, wU_at 24 (by decide +kernel) rfl, by decide +kernel, by decide +kernel, by decide +kernel⟩
theorem mi_X2_init : Cond.instanceMethod yX2_init ∈ wU := wU_at 52 (by decide +kernel) rfl
theorem m_X7_init : MW yX7_init cX7_init 1 none 0 := ⟨wU_at 67 (by decide +kernel) rfl, wU_at 25 (by decide +kernel) rfl, by decide +kernel, by decide +kernel, by decide +kernel⟩
theorem mi_X7_init : Cond.instanceMethod yX7_init ∈ wU := wU_at 66 (by decide +kernel) rfl
theorem m_X1_init : MW yX1_init cX1_init 1 none 0 := ⟨wU_at 85 (by decide +kernel) rfl, wU_at 26 (by decide +kernel) rfl, by decide +kernel, by decide +kernel, by decide +kernel⟩
theorem mi_X1_init : Cond.instanceMethod yX1_init ∈ wU := wU_at 84 (by decide +kernel) rfl
theorem m_X4_init : MW yX4_init cX4_init 1 none 0 := ⟨wU_at 111 (by decide +kernel) rfl, wU_at 27 (by decide +kernel) rfl, by decide +kernel, by decide +kernel, by decide +kernel⟩
theorem mi_X4_init : Cond.instanceMethod yX4_init ∈ wU := wU_at 110 (by decide +kernel) rfl
theorem m_X5_init : MW yX5_init cX5_init 1 none 0 := ⟨wU_at 126 (by decide +kernel) rfl, wU_at 28 (by decide +kernel) rfl, by decide +kernel, by decide +kernel, by decide +kernel⟩
theorem mi_X5_init : Cond.instanceMethod yX5_init ∈ wU := wU_at 125 (by decide +kernel) rfl
theorem m_X8_now : MW yX8_now cX8_now 1 (some .int) 0 := ⟨wU_at 156 (by decide +kernel) rfl, wU_at 23 (by decide +kernel) rfl, by decide +kernel, by decide +kernel, by decide +kernel⟩
theorem mv_X8_now : MV yX8_now := ⟨wU_at 154 (by decide +kernel) rfl, wU_at 155 (by decide +kernel) rfl⟩
theorem m_X8_clearPath : MW yX8_clearPath cX8_clearPath 2 (some .int) 0 := ⟨wU_at 160 (by decide +kernel) rfl, wU_at 23 (by decide +kernel) rfl, by decide +kernel, by decide +kernel, by decide +kernel⟩
theorem mv_X8_clearPath : MV yX8_clearPath := ⟨wU_at 158 (by decide +kernel) rfl, wU_at 159 (by decide +kernel) rfl⟩
theorem m_X2_size : MW yX2_size cX2_size 1 (some .int) 0 := ⟨wU_at 164 (by decide +kernel) rfl, wU_at 24 (by decide +kernel) rfl, by decide +kernel, by decide +kernel, by decide +kernel⟩
theorem mv_X2_size : MV yX2_size := ⟨wU_at 162 (by decide +kernel) rfl, wU_at 163 (by decide +kernel) rfl⟩
theorem m_X2_clear : MW yX2_clear cX2_clear 1 none 0 := ⟨wU_at 168 (by decide +kernel) rfl, wU_at 24 (by decide +kernel) rfl, by decide +kernel, by decide +kernel, by decide +kernel⟩
theorem mv_X2_clear : MV yX2_clear := ⟨wU_at 166 (by decide +kernel) rfl, wU_at 167 (by decide +kernel) rfl⟩
theorem m_X8_updates : MW yX8_updates cX8_updates 1 (some .int) 0 := ⟨wU_at 172 (by decide +kernel) rfl, wU_at 23 (by decide +kernel) rfl, by decide +kernel, by decide +kernel, by decide +kernel⟩
theorem mv_X8_updates : MV yX8_updates := ⟨wU_at 170 (by decide +kernel) rfl, wU_at 171 (by decide +kernel) rfl⟩
theorem m_X1_size : MW yX1_size cX1_size 1 (some .int) 0 := ⟨wU_at 176 (by decide +kernel) rfl, wU_at 26 (by decide +kernel) rfl, by decide +kernel, by decide +kernel, by decide +kernel⟩
theorem mv_X1_size : MV yX1_size := ⟨wU_at 174 (by decide +kernel) rfl, wU_at 175 (by decide +kernel) rfl⟩
theorem m_X8_prefixes : MW yX8_prefixes cX8_prefixes 1 (some .int) 0 := ⟨wU_at 180 (by decide +kernel) rfl, wU_at 23 (by decide +kernel) rfl, by decide +kernel, by decide +kernel, by decide +kernel⟩
theorem mv_X8_prefixes : MV yX8_prefixes := ⟨wU_at 178 (by decide +kernel) rfl, wU_at 179 (by decide +kernel) rfl⟩
theorem m_X7_countPrefixes : MW yX7_countPrefixes cX7_countPrefixes 3 (some .int) 0 := ⟨wU_at 184 (by decide +kernel) rfl, wU_at 25 (by decide +kernel) rfl, by decide +kernel, by decide +kernel, by decide +kernel⟩
theorem mv_X7_countPrefixes : MV yX7_countPrefixes := ⟨wU_at 182 (by decide +kernel) rfl, wU_at 183 (by decide +kernel) rfl⟩
theorem m_X8_isPrefixNumber : MW yX8_isPrefixNumber cX8_isPrefixNumber 1 (some .boolean) 1 := ⟨wU_at 191 (by decide +kernel) rfl, wU_at 23 (by decide +kernel) rfl, by decide +kernel, by decide +kernel, by decide +kernel⟩
theorem ms_X8_isPrefixNumber : Cond.static yX8_isPrefixNumber ∈ wU := wU_at 190 (by decide +kernel) rfl
theorem m_X8_contested : MW yX8_contested cX8_contested 3 (some .int) 0 := ⟨wU_at 195 (by decide +kernel) rfl, wU_at 23 (by decide +kernel) rfl, by decide +kernel, by decide +kernel, by decide +kernel⟩
theorem mv_X8_contested : MV yX8_contested := ⟨wU_at 193 (by decide +kernel) rfl, wU_at 194 (by decide +kernel) rfl⟩
theorem m_X7_countOrigins : MW yX7_countOrigins cX7_countOrigins 2 (some .int) 1 := ⟨wU_at 199 (by decide +kernel) rfl, wU_at 25 (by decide +kernel) rfl, by decide +kernel, by decide +kernel, by decide +kernel⟩
theorem mv_X7_countOrigins : MV yX7_countOrigins := ⟨wU_at 197 (by decide +kernel) rfl, wU_at 198 (by decide +kernel) rfl⟩
theorem m_X7_routeOf : MW yX7_routeOf cX7_routeOf 4 (some (.object "Bgpreplay$Route")) 2 := ⟨wU_at 207 (by decide +kernel) rfl, wU_at 25 (by decide +kernel) rfl, by decide +kernel, by decide +kernel, by decide +kernel⟩
theorem mv_X7_routeOf : MV yX7_routeOf := ⟨wU_at 205 (by decide +kernel) rfl, wU_at 206 (by decide +kernel) rfl⟩
theorem m_X7_cellOf : MW yX7_cellOf cX7_cellOf 2 (some .int) 2 := ⟨wU_at 210 (by decide +kernel) rfl, wU_at 25 (by decide +kernel) rfl, by decide +kernel, by decide +kernel, by decide +kernel⟩
theorem ms_X7_cellOf : Cond.static yX7_cellOf ∈ wU := wU_at 209 (by decide +kernel) rfl
theorem m_X8_isPeer : MW yX8_isPeer cX8_isPeer 1 (some .boolean) 1 := ⟨wU_at 213 (by decide +kernel) rfl, wU_at 23 (by decide +kernel) rfl, by decide +kernel, by decide +kernel, by decide +kernel⟩
theorem ms_X8_isPeer : Cond.static yX8_isPeer ∈ wU := wU_at 212 (by decide +kernel) rfl
theorem m_X2_origin : MW yX2_origin cX2_origin 1 (some .int) 0 := ⟨wU_at 217 (by decide +kernel) rfl, wU_at 24 (by decide +kernel) rfl, by decide +kernel, by decide +kernel, by decide +kernel⟩
theorem mv_X2_origin : MV yX2_origin := ⟨wU_at 215 (by decide +kernel) rfl, wU_at 216 (by decide +kernel) rfl⟩
theorem m_X2_networkAt : MW yX2_networkAt cX2_networkAt 2 (some .int) 1 := ⟨wU_at 221 (by decide +kernel) rfl, wU_at 24 (by decide +kernel) rfl, by decide +kernel, by decide +kernel, by decide +kernel⟩
theorem mv_X2_networkAt : MV yX2_networkAt := ⟨wU_at 219 (by decide +kernel) rfl, wU_at 220 (by decide +kernel) rfl⟩
theorem m_J6_bitCount_0f7a4 : MW yJ6_bitCount_0f7a4 cJ6_bitCount_0f7a4 1 (some .int) 1 := ⟨wU_at 224 (by decide +kernel) rfl, wU_at 39 (by decide +kernel) rfl, by decide +kernel, by decide +kernel, by decide +kernel⟩
theorem ms_J6_bitCount_0f7a4 : Cond.static yJ6_bitCount_0f7a4 ∈ wU := wU_at 223 (by decide +kernel) rfl
theorem m_X8_changes : MW yX8_changes cX8_changes 3 (some .int) 2 := ⟨wU_at 231 (by decide +kernel) rfl, wU_at 23 (by decide +kernel) rfl, by decide +kernel, by decide +kernel, by decide +kernel⟩
theorem mv_X8_changes : MV yX8_changes := ⟨wU_at 229 (by decide +kernel) rfl, wU_at 230 (by decide +kernel) rfl⟩
theorem m_X1_sizeAt : MW yX1_sizeAt cX1_sizeAt 3 (some .int) 1 := ⟨wU_at 235 (by decide +kernel) rfl, wU_at 26 (by decide +kernel) rfl, by decide +kernel, by decide +kernel, by decide +kernel⟩
theorem mv_X1_sizeAt : MV yX1_sizeAt := ⟨wU_at 233 (by decide +kernel) rfl, wU_at 234 (by decide +kernel) rfl⟩
theorem m_X1_countUnlike : MW yX1_countUnlike cX1_countUnlike 5 (some .int) 2 := ⟨wU_at 239 (by decide +kernel) rfl, wU_at 26 (by decide +kernel) rfl, by decide +kernel, by decide +kernel, by decide +kernel⟩
theorem mv_X1_countUnlike : MV yX1_countUnlike := ⟨wU_at 237 (by decide +kernel) rfl, wU_at 238 (by decide +kernel) rfl⟩
theorem m_X6_standsAfter : MW yX6_standsAfter cX6_standsAfter 2 (some .boolean) 1 := ⟨wU_at 247 (by decide +kernel) rfl, wU_at 37 (by decide +kernel) rfl, by decide +kernel, by decide +kernel, by decide +kernel⟩
theorem mv_X6_standsAfter : MV yX6_standsAfter := ⟨wU_at 245 (by decide +kernel) rfl, wU_at 246 (by decide +kernel) rfl⟩
theorem m_X6_isBetterThan : MW yX6_isBetterThan cX6_isBetterThan 2 (some .boolean) 1 := ⟨wU_at 252 (by decide +kernel) rfl, wU_at 37 (by decide +kernel) rfl, by decide +kernel, by decide +kernel, by decide +kernel⟩
theorem mv_X6_isBetterThan : MV yX6_isBetterThan := ⟨wU_at 250 (by decide +kernel) rfl, wU_at 251 (by decide +kernel) rfl⟩
theorem m_X1_areUnlike : MW yX1_areUnlike cX1_areUnlike 2 (some .boolean) 2 := ⟨wU_at 256 (by decide +kernel) rfl, wU_at 26 (by decide +kernel) rfl, by decide +kernel, by decide +kernel, by decide +kernel⟩
theorem ms_X1_areUnlike : Cond.static yX1_areUnlike ∈ wU := wU_at 255 (by decide +kernel) rfl
theorem m_X6_isLike : MW yX6_isLike cX6_isLike 2 (some .boolean) 1 := ⟨wU_at 260 (by decide +kernel) rfl, wU_at 37 (by decide +kernel) rfl, by decide +kernel, by decide +kernel, by decide +kernel⟩
theorem mv_X6_isLike : MV yX6_isLike := ⟨wU_at 258 (by decide +kernel) rfl, wU_at 259 (by decide +kernel) rfl⟩
theorem m_X2_isLike : MW yX2_isLike cX2_isLike 3 (some .boolean) 1 := ⟨wU_at 264 (by decide +kernel) rfl, wU_at 24 (by decide +kernel) rfl, by decide +kernel, by decide +kernel, by decide +kernel⟩
theorem mv_X2_isLike : MV yX2_isLike := ⟨wU_at 262 (by decide +kernel) rfl, wU_at 263 (by decide +kernel) rfl⟩
theorem m_X8_pass : MW yX8_pass cX8_pass 2 (some .int) 1 := ⟨wU_at 273 (by decide +kernel) rfl, wU_at 23 (by decide +kernel) rfl, by decide +kernel, by decide +kernel, by decide +kernel⟩
theorem mv_X8_pass : MV yX8_pass := ⟨wU_at 271 (by decide +kernel) rfl, wU_at 272 (by decide +kernel) rfl⟩
theorem m_X8_hop : MW yX8_hop cX8_hop 2 (some .int) 1 := ⟨wU_at 366 (by decide +kernel) rfl, wU_at 23 (by decide +kernel) rfl, by decide +kernel, by decide +kernel, by decide +kernel⟩
theorem mv_X8_hop : MV yX8_hop := ⟨wU_at 364 (by decide +kernel) rfl, wU_at 365 (by decide +kernel) rfl⟩
theorem m_X8_isNetwork : MW yX8_isNetwork cX8_isNetwork 1 (some .boolean) 1 := ⟨wU_at 369 (by decide +kernel) rfl, wU_at 23 (by decide +kernel) rfl, by decide +kernel, by decide +kernel, by decide +kernel⟩
theorem ms_X8_isNetwork : Cond.static yX8_isNetwork ∈ wU := wU_at 368 (by decide +kernel) rfl
theorem m_X2_isFull : MW yX2_isFull cX2_isFull 1 (some .boolean) 0 := ⟨wU_at 374 (by decide +kernel) rfl, wU_at 24 (by decide +kernel) rfl, by decide +kernel, by decide +kernel, by decide +kernel⟩
theorem mv_X2_isFull : MV yX2_isFull := ⟨wU_at 372 (by decide +kernel) rfl, wU_at 373 (by decide +kernel) rfl⟩
theorem m_X2_hasLeft : MW yX2_hasLeft cX2_hasLeft 3 (some .boolean) 1 := ⟨wU_at 379 (by decide +kernel) rfl, wU_at 24 (by decide +kernel) rfl, by decide +kernel, by decide +kernel, by decide +kernel⟩
theorem mv_X2_hasLeft : MV yX2_hasLeft := ⟨wU_at 377 (by decide +kernel) rfl, wU_at 378 (by decide +kernel) rfl⟩
theorem m_X2_add : MW yX2_add cX2_add 2 none 1 := ⟨wU_at 385 (by decide +kernel) rfl, wU_at 24 (by decide +kernel) rfl, by decide +kernel, by decide +kernel, by decide +kernel⟩
theorem mv_X2_add : MV yX2_add := ⟨wU_at 383 (by decide +kernel) rfl, wU_at 384 (by decide +kernel) rfl⟩
theorem m_X8_announce : MW yX8_announce cX8_announce 7 (some .boolean) 3 := ⟨wU_at 394 (by decide +kernel) rfl, wU_at 23 (by decide +kernel) rfl, by decide +kernel, by decide +kernel, by decide +kernel⟩
theorem mv_X8_announce : MV yX8_announce := ⟨wU_at 392 (by decide +kernel) rfl, wU_at 393 (by decide +kernel) rfl⟩
theorem m_X8_isPrefix : MW yX8_isPrefix cX8_isPrefix 3 (some .boolean) 2 := ⟨wU_at 422 (by decide +kernel) rfl, wU_at 23 (by decide +kernel) rfl, by decide +kernel, by decide +kernel, by decide +kernel⟩
theorem ms_X8_isPrefix : Cond.static yX8_isPrefix ∈ wU := wU_at 421 (by decide +kernel) rfl
theorem m_X8_isAddress : MW yX8_isAddress cX8_isAddress 1 (some .boolean) 1 := ⟨wU_at 425 (by decide +kernel) rfl, wU_at 23 (by decide +kernel) rfl, by decide +kernel, by decide +kernel, by decide +kernel⟩
theorem ms_X8_isAddress : Cond.static yX8_isAddress ∈ wU := wU_at 424 (by decide +kernel) rfl
theorem m_X3_init : MW yX3_init cX3_init 3 none 2 := ⟨wU_at 431 (by decide +kernel) rfl, wU_at 36 (by decide +kernel) rfl, by decide +kernel, by decide +kernel, by decide +kernel⟩
theorem mi_X3_init : Cond.instanceMethod yX3_init ∈ wU := wU_at 430 (by decide +kernel) rfl
theorem m_X8_prefixNumber : MW yX8_prefixNumber cX8_prefixNumber 2 (some .int) 2 := ⟨wU_at 435 (by decide +kernel) rfl, wU_at 23 (by decide +kernel) rfl, by decide +kernel, by decide +kernel, by decide +kernel⟩
theorem ms_X8_prefixNumber : Cond.static yX8_prefixNumber ∈ wU := wU_at 434 (by decide +kernel) rfl
theorem m_X8_networkOf : MW yX8_networkOf cX8_networkOf 1 (some .int) 1 := ⟨wU_at 453 (by decide +kernel) rfl, wU_at 23 (by decide +kernel) rfl, by decide +kernel, by decide +kernel, by decide +kernel⟩
theorem ms_X8_networkOf : Cond.static yX8_networkOf ∈ wU := wU_at 452 (by decide +kernel) rfl
theorem m_X1_isFull : MW yX1_isFull cX1_isFull 1 (some .boolean) 0 := ⟨wU_at 462 (by decide +kernel) rfl, wU_at 26 (by decide +kernel) rfl, by decide +kernel, by decide +kernel, by decide +kernel⟩
theorem mv_X1_isFull : MV yX1_isFull := ⟨wU_at 460 (by decide +kernel) rfl, wU_at 461 (by decide +kernel) rfl⟩
theorem m_X7_remove : MW yX7_remove cX7_remove 4 none 1 := ⟨wU_at 472 (by decide +kernel) rfl, wU_at 25 (by decide +kernel) rfl, by decide +kernel, by decide +kernel, by decide +kernel⟩
theorem mv_X7_remove : MV yX7_remove := ⟨wU_at 470 (by decide +kernel) rfl, wU_at 471 (by decide +kernel) rfl⟩
theorem m_X2_copy : MW yX2_copy cX2_copy 3 (some (.object "Bgpreplay$Path")) 0 := ⟨wU_at 478 (by decide +kernel) rfl, wU_at 24 (by decide +kernel) rfl, by decide +kernel, by decide +kernel, by decide +kernel⟩
theorem mv_X2_copy : MV yX2_copy := ⟨wU_at 476 (by decide +kernel) rfl, wU_at 477 (by decide +kernel) rfl⟩
theorem m_X6_init : MW yX6_init cX6_init 5 none 4 := ⟨wU_at 484 (by decide +kernel) rfl, wU_at 37 (by decide +kernel) rfl, by decide +kernel, by decide +kernel, by decide +kernel⟩
theorem mi_X6_init : Cond.instanceMethod yX6_init ∈ wU := wU_at 483 (by decide +kernel) rfl
theorem m_X7_put : MW yX7_put cX7_put 4 none 1 := ⟨wU_at 515 (by decide +kernel) rfl, wU_at 25 (by decide +kernel) rfl, by decide +kernel, by decide +kernel, by decide +kernel⟩
theorem mv_X7_put : MV yX7_put := ⟨wU_at 513 (by decide +kernel) rfl, wU_at 514 (by decide +kernel) rfl⟩
theorem m_X1_keep : MW yX1_keep cX1_keep 2 none 1 := ⟨wU_at 519 (by decide +kernel) rfl, wU_at 26 (by decide +kernel) rfl, by decide +kernel, by decide +kernel, by decide +kernel⟩
theorem mv_X1_keep : MV yX1_keep := ⟨wU_at 517 (by decide +kernel) rfl, wU_at 518 (by decide +kernel) rfl⟩
theorem m_X1_noteUpdate : MW yX1_noteUpdate cX1_noteUpdate 2 none 1 := ⟨wU_at 523 (by decide +kernel) rfl, wU_at 26 (by decide +kernel) rfl, by decide +kernel, by decide +kernel, by decide +kernel⟩
theorem mv_X1_noteUpdate : MV yX1_noteUpdate := ⟨wU_at 521 (by decide +kernel) rfl, wU_at 522 (by decide +kernel) rfl⟩
theorem m_X8_withdraw : MW yX8_withdraw cX8_withdraw 5 (some .int) 3 := ⟨wU_at 532 (by decide +kernel) rfl, wU_at 23 (by decide +kernel) rfl, by decide +kernel, by decide +kernel, by decide +kernel⟩
theorem mv_X8_withdraw : MV yX8_withdraw := ⟨wU_at 530 (by decide +kernel) rfl, wU_at 531 (by decide +kernel) rfl⟩
theorem m_X7_countOfPeer : MW yX7_countOfPeer cX7_countOfPeer 2 (some .int) 1 := ⟨wU_at 556 (by decide +kernel) rfl, wU_at 25 (by decide +kernel) rfl, by decide +kernel, by decide +kernel, by decide +kernel⟩
theorem mv_X7_countOfPeer : MV yX7_countOfPeer := ⟨wU_at 554 (by decide +kernel) rfl, wU_at 555 (by decide +kernel) rfl⟩
theorem m_X8_drop : MW yX8_drop cX8_drop 5 (some .int) 1 := ⟨wU_at 563 (by decide +kernel) rfl, wU_at 23 (by decide +kernel) rfl, by decide +kernel, by decide +kernel, by decide +kernel⟩
theorem mv_X8_drop : MV yX8_drop := ⟨wU_at 561 (by decide +kernel) rfl, wU_at 562 (by decide +kernel) rfl⟩
theorem m_X8_routes : MW yX8_routes cX8_routes 2 (some .int) 1 := ⟨wU_at 570 (by decide +kernel) rfl, wU_at 23 (by decide +kernel) rfl, by decide +kernel, by decide +kernel, by decide +kernel⟩
theorem mv_X8_routes : MV yX8_routes := ⟨wU_at 568 (by decide +kernel) rfl, wU_at 569 (by decide +kernel) rfl⟩
theorem m_X8_pathAt : MW yX8_pathAt cX8_pathAt 5 (some .int) 4 := ⟨wU_at 577 (by decide +kernel) rfl, wU_at 23 (by decide +kernel) rfl, by decide +kernel, by decide +kernel, by decide +kernel⟩
theorem mv_X8_pathAt : MV yX8_pathAt := ⟨wU_at 575 (by decide +kernel) rfl, wU_at 576 (by decide +kernel) rfl⟩
theorem m_X8_bestPeer : MW yX8_bestPeer cX8_bestPeer 4 (some .int) 2 := ⟨wU_at 585 (by decide +kernel) rfl, wU_at 23 (by decide +kernel) rfl, by decide +kernel, by decide +kernel, by decide +kernel⟩
theorem mv_X8_bestPeer : MV yX8_bestPeer := ⟨wU_at 583 (by decide +kernel) rfl, wU_at 584 (by decide +kernel) rfl⟩
theorem m_X7_bestOf : MW yX7_bestOf cX7_bestOf 5 (some (.object "Bgpreplay$Route")) 1 := ⟨wU_at 589 (by decide +kernel) rfl, wU_at 25 (by decide +kernel) rfl, by decide +kernel, by decide +kernel, by decide +kernel⟩
theorem mv_X7_bestOf : MV yX7_bestOf := ⟨wU_at 587 (by decide +kernel) rfl, wU_at 588 (by decide +kernel) rfl⟩
theorem m_X8_lookUp : MW yX8_lookUp cX8_lookUp 2 (some .int) 1 := ⟨wU_at 597 (by decide +kernel) rfl, wU_at 23 (by decide +kernel) rfl, by decide +kernel, by decide +kernel, by decide +kernel⟩
theorem mv_X8_lookUp : MV yX8_lookUp := ⟨wU_at 595 (by decide +kernel) rfl, wU_at 596 (by decide +kernel) rfl⟩
theorem m_X7_longestLengthFor : MW yX7_longestLengthFor cX7_longestLengthFor 4 (some .int) 1 := ⟨wU_at 606 (by decide +kernel) rfl, wU_at 25 (by decide +kernel) rfl, by decide +kernel, by decide +kernel, by decide +kernel⟩
theorem mv_X7_longestLengthFor : MV yX7_longestLengthFor := ⟨wU_at 604 (by decide +kernel) rfl, wU_at 605 (by decide +kernel) rfl⟩
theorem m_X8_lookUpByScan : MW yX8_lookUpByScan cX8_lookUpByScan 2 (some .int) 1 := ⟨wU_at 614 (by decide +kernel) rfl, wU_at 23 (by decide +kernel) rfl, by decide +kernel, by decide +kernel, by decide +kernel⟩
theorem mv_X8_lookUpByScan : MV yX8_lookUpByScan := ⟨wU_at 612 (by decide +kernel) rfl, wU_at 613 (by decide +kernel) rfl⟩
theorem m_X1_routeFor : MW yX1_routeFor cX1_routeFor 6 (some (.object "Bgpreplay$Route")) 2 := ⟨wU_at 618 (by decide +kernel) rfl, wU_at 26 (by decide +kernel) rfl, by decide +kernel, by decide +kernel, by decide +kernel⟩
theorem mv_X1_routeFor : MV yX1_routeFor := ⟨wU_at 616 (by decide +kernel) rfl, wU_at 617 (by decide +kernel) rfl⟩
theorem m_X3_has : MW yX3_has cX3_has 2 (some .boolean) 1 := ⟨wU_at 622 (by decide +kernel) rfl, wU_at 36 (by decide +kernel) rfl, by decide +kernel, by decide +kernel, by decide +kernel⟩
theorem mv_X3_has : MV yX3_has := ⟨wU_at 620 (by decide +kernel) rfl, wU_at 621 (by decide +kernel) rfl⟩
theorem m_X6_isFoundBefore : MW yX6_isFoundBefore cX6_isFoundBefore 2 (some .boolean) 1 := ⟨wU_at 626 (by decide +kernel) rfl, wU_at 37 (by decide +kernel) rfl, by decide +kernel, by decide +kernel, by decide +kernel⟩
theorem mv_X6_isFoundBefore : MV yX6_isFoundBefore := ⟨wU_at 624 (by decide +kernel) rfl, wU_at 625 (by decide +kernel) rfl⟩
theorem m_X8_lengthOf : MW yX8_lengthOf cX8_lengthOf 1 (some .int) 1 := ⟨wU_at 630 (by decide +kernel) rfl, wU_at 23 (by decide +kernel) rfl, by decide +kernel, by decide +kernel, by decide +kernel⟩
theorem ms_X8_lengthOf : Cond.static yX8_lengthOf ∈ wU := wU_at 629 (by decide +kernel) rfl
theorem m_X8_origins : MW yX8_origins cX8_origins 3 (some .int) 2 := ⟨wU_at 637 (by decide +kernel) rfl, wU_at 23 (by decide +kernel) rfl, by decide +kernel, by decide +kernel, by decide +kernel⟩
theorem mv_X8_origins : MV yX8_origins := ⟨wU_at 635 (by decide +kernel) rfl, wU_at 636 (by decide +kernel) rfl⟩
theorem m_X8_isHijack : MW yX8_isHijack cX8_isHijack 6 (some .boolean) 3 := ⟨wU_at 644 (by decide +kernel) rfl, wU_at 23 (by decide +kernel) rfl, by decide +kernel, by decide +kernel, by decide +kernel⟩
theorem mv_X8_isHijack : MV yX8_isHijack := ⟨wU_at 642 (by decide +kernel) rfl, wU_at 643 (by decide +kernel) rfl⟩
theorem m_X7_nearestAbove : MW yX7_nearestAbove cX7_nearestAbove 3 (some .int) 1 := ⟨wU_at 648 (by decide +kernel) rfl, wU_at 25 (by decide +kernel) rfl, by decide +kernel, by decide +kernel, by decide +kernel⟩
theorem mv_X7_nearestAbove : MV yX7_nearestAbove := ⟨wU_at 646 (by decide +kernel) rfl, wU_at 647 (by decide +kernel) rfl⟩
theorem m_X7_hasOrigin : MW yX7_hasOrigin cX7_hasOrigin 3 (some .boolean) 2 := ⟨wU_at 653 (by decide +kernel) rfl, wU_at 25 (by decide +kernel) rfl, by decide +kernel, by decide +kernel, by decide +kernel⟩
theorem mv_X7_hasOrigin : MV yX7_hasOrigin := ⟨wU_at 651 (by decide +kernel) rfl, wU_at 652 (by decide +kernel) rfl⟩
theorem m_X8_allow : MW yX8_allow cX8_allow 8 (some .boolean) 4 := ⟨wU_at 660 (by decide +kernel) rfl, wU_at 23 (by decide +kernel) rfl, by decide +kernel, by decide +kernel, by decide +kernel⟩
theorem mv_X8_allow : MV yX8_allow := ⟨wU_at 658 (by decide +kernel) rfl, wU_at 659 (by decide +kernel) rfl⟩
theorem m_X0_init : MW yX0_init cX0_init 4 none 3 := ⟨wU_at 666 (by decide +kernel) rfl, wU_at 40 (by decide +kernel) rfl, by decide +kernel, by decide +kernel, by decide +kernel⟩
theorem mi_X0_init : Cond.instanceMethod yX0_init ∈ wU := wU_at 665 (by decide +kernel) rfl
theorem m_X4_placeOf : MW yX4_placeOf cX4_placeOf 3 (some .int) 1 := ⟨wU_at 681 (by decide +kernel) rfl, wU_at 27 (by decide +kernel) rfl, by decide +kernel, by decide +kernel, by decide +kernel⟩
theorem mv_X4_placeOf : MV yX4_placeOf := ⟨wU_at 679 (by decide +kernel) rfl, wU_at 680 (by decide +kernel) rfl⟩
theorem m_X0_isLike : MW yX0_isLike cX0_isLike 2 (some .boolean) 1 := ⟨wU_at 685 (by decide +kernel) rfl, wU_at 40 (by decide +kernel) rfl, by decide +kernel, by decide +kernel, by decide +kernel⟩
theorem mv_X0_isLike : MV yX0_isLike := ⟨wU_at 683 (by decide +kernel) rfl, wU_at 684 (by decide +kernel) rfl⟩
theorem m_X4_takeOut : MW yX4_takeOut cX4_takeOut 2 none 1 := ⟨wU_at 689 (by decide +kernel) rfl, wU_at 27 (by decide +kernel) rfl, by decide +kernel, by decide +kernel, by decide +kernel⟩
theorem mv_X4_takeOut : MV yX4_takeOut := ⟨wU_at 687 (by decide +kernel) rfl, wU_at 688 (by decide +kernel) rfl⟩
theorem m_X4_isFull : MW yX4_isFull cX4_isFull 1 (some .boolean) 0 := ⟨wU_at 693 (by decide +kernel) rfl, wU_at 27 (by decide +kernel) rfl, by decide +kernel, by decide +kernel, by decide +kernel⟩
theorem mv_X4_isFull : MV yX4_isFull := ⟨wU_at 691 (by decide +kernel) rfl, wU_at 692 (by decide +kernel) rfl⟩
theorem m_X4_add : MW yX4_add cX4_add 2 none 1 := ⟨wU_at 698 (by decide +kernel) rfl, wU_at 27 (by decide +kernel) rfl, by decide +kernel, by decide +kernel, by decide +kernel⟩
theorem mv_X4_add : MV yX4_add := ⟨wU_at 696 (by decide +kernel) rfl, wU_at 697 (by decide +kernel) rfl⟩
theorem m_X8_verdict : MW yX8_verdict cX8_verdict 4 (some .int) 3 := ⟨wU_at 706 (by decide +kernel) rfl, wU_at 23 (by decide +kernel) rfl, by decide +kernel, by decide +kernel, by decide +kernel⟩
theorem mv_X8_verdict : MV yX8_verdict := ⟨wU_at 704 (by decide +kernel) rfl, wU_at 705 (by decide +kernel) rfl⟩
theorem m_X4_judge : MW yX4_judge cX4_judge 4 (some .int) 1 := ⟨wU_at 710 (by decide +kernel) rfl, wU_at 27 (by decide +kernel) rfl, by decide +kernel, by decide +kernel, by decide +kernel⟩
theorem mv_X4_judge : MV yX4_judge := ⟨wU_at 708 (by decide +kernel) rfl, wU_at 709 (by decide +kernel) rfl⟩
theorem m_X0_permits : MW yX0_permits cX0_permits 2 (some .boolean) 1 := ⟨wU_at 714 (by decide +kernel) rfl, wU_at 40 (by decide +kernel) rfl, by decide +kernel, by decide +kernel, by decide +kernel⟩
theorem mv_X0_permits : MV yX0_permits := ⟨wU_at 712 (by decide +kernel) rfl, wU_at 713 (by decide +kernel) rfl⟩
theorem m_X0_concerns : MW yX0_concerns cX0_concerns 2 (some .boolean) 1 := ⟨wU_at 718 (by decide +kernel) rfl, wU_at 40 (by decide +kernel) rfl, by decide +kernel, by decide +kernel, by decide +kernel⟩
theorem mv_X0_concerns : MV yX0_concerns := ⟨wU_at 716 (by decide +kernel) rfl, wU_at 717 (by decide +kernel) rfl⟩
theorem m_X3_covers : MW yX3_covers cX3_covers 2 (some .boolean) 1 := ⟨wU_at 722 (by decide +kernel) rfl, wU_at 36 (by decide +kernel) rfl, by decide +kernel, by decide +kernel, by decide +kernel⟩
theorem mv_X3_covers : MV yX3_covers := ⟨wU_at 720 (by decide +kernel) rfl, wU_at 721 (by decide +kernel) rfl⟩
theorem m_X8_relate : MW yX8_relate cX8_relate 5 (some .int) 3 := ⟨wU_at 731 (by decide +kernel) rfl, wU_at 23 (by decide +kernel) rfl, by decide +kernel, by decide +kernel, by decide +kernel⟩
theorem mv_X8_relate : MV yX8_relate := ⟨wU_at 729 (by decide +kernel) rfl, wU_at 730 (by decide +kernel) rfl⟩
theorem m_X5_between : MW yX5_between cX5_between 3 (some .int) 2 := ⟨wU_at 737 (by decide +kernel) rfl, wU_at 28 (by decide +kernel) rfl, by decide +kernel, by decide +kernel, by decide +kernel⟩
theorem mv_X5_between : MV yX5_between := ⟨wU_at 735 (by decide +kernel) rfl, wU_at 736 (by decide +kernel) rfl⟩
theorem m_X5_put : MW yX5_put cX5_put 4 none 3 := ⟨wU_at 742 (by decide +kernel) rfl, wU_at 28 (by decide +kernel) rfl, by decide +kernel, by decide +kernel, by decide +kernel⟩
theorem mv_X5_put : MV yX5_put := ⟨wU_at 740 (by decide +kernel) rfl, wU_at 741 (by decide +kernel) rfl⟩
theorem m_X8_reverseOf : MW yX8_reverseOf cX8_reverseOf 1 (some .int) 1 := ⟨wU_at 745 (by decide +kernel) rfl, wU_at 23 (by decide +kernel) rfl, by decide +kernel, by decide +kernel, by decide +kernel⟩
theorem ms_X8_reverseOf : Cond.static yX8_reverseOf ∈ wU := wU_at 744 (by decide +kernel) rfl
theorem m_X8_valley : MW yX8_valley cX8_valley 4 (some .int) 3 := ⟨wU_at 752 (by decide +kernel) rfl, wU_at 23 (by decide +kernel) rfl, by decide +kernel, by decide +kernel, by decide +kernel⟩
theorem mv_X8_valley : MV yX8_valley := ⟨wU_at 750 (by decide +kernel) rfl, wU_at 751 (by decide +kernel) rfl⟩
theorem m_X5_shapeOf : MW yX5_shapeOf cX5_shapeOf 8 (some .int) 1 := ⟨wU_at 756 (by decide +kernel) rfl, wU_at 28 (by decide +kernel) rfl, by decide +kernel, by decide +kernel, by decide +kernel⟩
theorem mv_X5_shapeOf : MV yX5_shapeOf := ⟨wU_at 754 (by decide +kernel) rfl, wU_at 755 (by decide +kernel) rfl⟩
theorem m_X8_lookUpAt : MW yX8_lookUpAt cX8_lookUpAt 3 (some .int) 2 := ⟨wU_at 766 (by decide +kernel) rfl, wU_at 23 (by decide +kernel) rfl, by decide +kernel, by decide +kernel, by decide +kernel⟩
theorem mv_X8_lookUpAt : MV yX8_lookUpAt := ⟨wU_at 764 (by decide +kernel) rfl, wU_at 765 (by decide +kernel) rfl⟩
theorem m_X8_originAt : MW yX8_originAt cX8_originAt 4 (some .int) 2 := ⟨wU_at 773 (by decide +kernel) rfl, wU_at 23 (by decide +kernel) rfl, by decide +kernel, by decide +kernel, by decide +kernel⟩
theorem mv_X8_originAt : MV yX8_originAt := ⟨wU_at 771 (by decide +kernel) rfl, wU_at 772 (by decide +kernel) rfl⟩
theorem m_X9_init : MW yX9_init cX9_init 1 none 0 := ⟨wU_at 778 (by decide +kernel) rfl, wU_at 29 (by decide +kernel) rfl, by decide +kernel, by decide +kernel, by decide +kernel⟩
theorem mi_X9_init : Cond.instanceMethod yX9_init ∈ wU := wU_at 777 (by decide +kernel) rfl
theorem m_X9_thrown : MW yX9_thrown cX9_thrown 1 (some .int) 0 := ⟨wU_at 836 (by decide +kernel) rfl, wU_at 29 (by decide +kernel) rfl, by decide +kernel, by decide +kernel, by decide +kernel⟩
theorem mv_X9_thrown : MV yX9_thrown := ⟨wU_at 834 (by decide +kernel) rfl, wU_at 835 (by decide +kernel) rfl⟩
theorem m_X9_pass : MW yX9_pass cX9_pass 2 (some .int) 1 := ⟨wU_at 840 (by decide +kernel) rfl, wU_at 29 (by decide +kernel) rfl, by decide +kernel, by decide +kernel, by decide +kernel⟩
theorem mv_X9_pass : MV yX9_pass := ⟨wU_at 838 (by decide +kernel) rfl, wU_at 839 (by decide +kernel) rfl⟩
theorem m_X9_in : MW yX9_in cX9_in 3 (some .boolean) 3 := ⟨wU_at 843 (by decide +kernel) rfl, wU_at 29 (by decide +kernel) rfl, by decide +kernel, by decide +kernel, by decide +kernel⟩
theorem ms_X9_in : Cond.static yX9_in ∈ wU := wU_at 842 (by decide +kernel) rfl
theorem m_X9_now : MW yX9_now cX9_now 1 (some .int) 0 := ⟨wU_at 848 (by decide +kernel) rfl, wU_at 29 (by decide +kernel) rfl, by decide +kernel, by decide +kernel, by decide +kernel⟩
theorem mv_X9_now : MV yX9_now := ⟨wU_at 846 (by decide +kernel) rfl, wU_at 847 (by decide +kernel) rfl⟩
theorem m_X9_hop : MW yX9_hop cX9_hop 3 (some .int) 1 := ⟨wU_at 852 (by decide +kernel) rfl, wU_at 29 (by decide +kernel) rfl, by decide +kernel, by decide +kernel, by decide +kernel⟩
theorem mv_X9_hop : MV yX9_hop := ⟨wU_at 850 (by decide +kernel) rfl, wU_at 851 (by decide +kernel) rfl⟩
theorem m_X9_clearPath : MW yX9_clearPath cX9_clearPath 2 (some .int) 0 := ⟨wU_at 856 (by decide +kernel) rfl, wU_at 29 (by decide +kernel) rfl, by decide +kernel, by decide +kernel, by decide +kernel⟩
theorem mv_X9_clearPath : MV yX9_clearPath := ⟨wU_at 854 (by decide +kernel) rfl, wU_at 855 (by decide +kernel) rfl⟩
theorem m_X9_announce : MW yX9_announce cX9_announce 6 (some .boolean) 3 := ⟨wU_at 860 (by decide +kernel) rfl, wU_at 29 (by decide +kernel) rfl, by decide +kernel, by decide +kernel, by decide +kernel⟩
theorem mv_X9_announce : MV yX9_announce := ⟨wU_at 858 (by decide +kernel) rfl, wU_at 859 (by decide +kernel) rfl⟩
theorem m_X9_isPeer : MW yX9_isPeer cX9_isPeer 1 (some .boolean) 1 := ⟨wU_at 863 (by decide +kernel) rfl, wU_at 29 (by decide +kernel) rfl, by decide +kernel, by decide +kernel, by decide +kernel⟩
theorem ms_X9_isPeer : Cond.static yX9_isPeer ∈ wU := wU_at 862 (by decide +kernel) rfl
theorem m_X9_isPrefix : MW yX9_isPrefix cX9_isPrefix 2 (some .boolean) 2 := ⟨wU_at 866 (by decide +kernel) rfl, wU_at 29 (by decide +kernel) rfl, by decide +kernel, by decide +kernel, by decide +kernel⟩
theorem ms_X9_isPrefix : Cond.static yX9_isPrefix ∈ wU := wU_at 865 (by decide +kernel) rfl
theorem m_X9_prefixOf : MW yX9_prefixOf cX9_prefixOf 2 (some .int) 2 := ⟨wU_at 869 (by decide +kernel) rfl, wU_at 29 (by decide +kernel) rfl, by decide +kernel, by decide +kernel, by decide +kernel⟩
theorem ms_X9_prefixOf : Cond.static yX9_prefixOf ∈ wU := wU_at 868 (by decide +kernel) rfl
theorem m_X9_placeOf : MW yX9_placeOf cX9_placeOf 3 (some .int) 3 := ⟨wU_at 872 (by decide +kernel) rfl, wU_at 29 (by decide +kernel) rfl, by decide +kernel, by decide +kernel, by decide +kernel⟩
theorem ms_X9_placeOf : Cond.static yX9_placeOf ∈ wU := wU_at 871 (by decide +kernel) rfl
theorem m_X9_withdraw : MW yX9_withdraw cX9_withdraw 5 (some .int) 3 := ⟨wU_at 884 (by decide +kernel) rfl, wU_at 29 (by decide +kernel) rfl, by decide +kernel, by decide +kernel, by decide +kernel⟩
theorem mv_X9_withdraw : MV yX9_withdraw := ⟨wU_at 882 (by decide +kernel) rfl, wU_at 883 (by decide +kernel) rfl⟩
theorem m_X9_drop : MW yX9_drop cX9_drop 3 (some .int) 1 := ⟨wU_at 896 (by decide +kernel) rfl, wU_at 29 (by decide +kernel) rfl, by decide +kernel, by decide +kernel, by decide +kernel⟩
theorem mv_X9_drop : MV yX9_drop := ⟨wU_at 894 (by decide +kernel) rfl, wU_at 895 (by decide +kernel) rfl⟩
theorem m_X9_updates : MW yX9_updates cX9_updates 1 (some .int) 0 := ⟨wU_at 900 (by decide +kernel) rfl, wU_at 29 (by decide +kernel) rfl, by decide +kernel, by decide +kernel, by decide +kernel⟩
theorem mv_X9_updates : MV yX9_updates := ⟨wU_at 898 (by decide +kernel) rfl, wU_at 899 (by decide +kernel) rfl⟩
theorem m_X9_routes : MW yX9_routes cX9_routes 2 (some .int) 1 := ⟨wU_at 904 (by decide +kernel) rfl, wU_at 29 (by decide +kernel) rfl, by decide +kernel, by decide +kernel, by decide +kernel⟩
theorem mv_X9_routes : MV yX9_routes := ⟨wU_at 902 (by decide +kernel) rfl, wU_at 903 (by decide +kernel) rfl⟩
theorem m_X9_prefixes : MW yX9_prefixes cX9_prefixes 3 (some .int) 0 := ⟨wU_at 908 (by decide +kernel) rfl, wU_at 29 (by decide +kernel) rfl, by decide +kernel, by decide +kernel, by decide +kernel⟩
theorem mv_X9_prefixes : MV yX9_prefixes := ⟨wU_at 906 (by decide +kernel) rfl, wU_at 907 (by decide +kernel) rfl⟩
theorem m_X9_pathAt : MW yX9_pathAt cX9_pathAt 6 (some .int) 4 := ⟨wU_at 916 (by decide +kernel) rfl, wU_at 29 (by decide +kernel) rfl, by decide +kernel, by decide +kernel, by decide +kernel⟩
theorem mv_X9_pathAt : MV yX9_pathAt := ⟨wU_at 914 (by decide +kernel) rfl, wU_at 915 (by decide +kernel) rfl⟩
theorem m_X9_bestPeer : MW yX9_bestPeer cX9_bestPeer 4 (some .int) 2 := ⟨wU_at 920 (by decide +kernel) rfl, wU_at 29 (by decide +kernel) rfl, by decide +kernel, by decide +kernel, by decide +kernel⟩
theorem mv_X9_bestPeer : MV yX9_bestPeer := ⟨wU_at 918 (by decide +kernel) rfl, wU_at 919 (by decide +kernel) rfl⟩
theorem m_X9_lookUp : MW yX9_lookUp cX9_lookUp 2 (some .int) 1 := ⟨wU_at 924 (by decide +kernel) rfl, wU_at 29 (by decide +kernel) rfl, by decide +kernel, by decide +kernel, by decide +kernel⟩
theorem mv_X9_lookUp : MV yX9_lookUp := ⟨wU_at 922 (by decide +kernel) rfl, wU_at 923 (by decide +kernel) rfl⟩
theorem m_X9_lengthOf : MW yX9_lengthOf cX9_lengthOf 2 (some .int) 1 := ⟨wU_at 935 (by decide +kernel) rfl, wU_at 29 (by decide +kernel) rfl, by decide +kernel, by decide +kernel, by decide +kernel⟩
theorem ms_X9_lengthOf : Cond.static yX9_lengthOf ∈ wU := wU_at 934 (by decide +kernel) rfl
theorem m_X9_lookUpByScan : MW yX9_lookUpByScan cX9_lookUpByScan 2 (some .int) 1 := ⟨wU_at 939 (by decide +kernel) rfl, wU_at 29 (by decide +kernel) rfl, by decide +kernel, by decide +kernel, by decide +kernel⟩
theorem mv_X9_lookUpByScan : MV yX9_lookUpByScan := ⟨wU_at 937 (by decide +kernel) rfl, wU_at 938 (by decide +kernel) rfl⟩
theorem m_X9_origins : MW yX9_origins cX9_origins 3 (some .int) 2 := ⟨wU_at 944 (by decide +kernel) rfl, wU_at 29 (by decide +kernel) rfl, by decide +kernel, by decide +kernel, by decide +kernel⟩
theorem mv_X9_origins : MV yX9_origins := ⟨wU_at 942 (by decide +kernel) rfl, wU_at 943 (by decide +kernel) rfl⟩
theorem m_X9_contested : MW yX9_contested cX9_contested 3 (some .int) 0 := ⟨wU_at 956 (by decide +kernel) rfl, wU_at 29 (by decide +kernel) rfl, by decide +kernel, by decide +kernel, by decide +kernel⟩
theorem mv_X9_contested : MV yX9_contested := ⟨wU_at 954 (by decide +kernel) rfl, wU_at 955 (by decide +kernel) rfl⟩
theorem m_X9_isHijack : MW yX9_isHijack cX9_isHijack 9 (some .boolean) 3 := ⟨wU_at 960 (by decide +kernel) rfl, wU_at 29 (by decide +kernel) rfl, by decide +kernel, by decide +kernel, by decide +kernel⟩
theorem mv_X9_isHijack : MV yX9_isHijack := ⟨wU_at 958 (by decide +kernel) rfl, wU_at 959 (by decide +kernel) rfl⟩
theorem m_X9_allow : MW yX9_allow cX9_allow 7 (some .boolean) 4 := ⟨wU_at 964 (by decide +kernel) rfl, wU_at 29 (by decide +kernel) rfl, by decide +kernel, by decide +kernel, by decide +kernel⟩
theorem mv_X9_allow : MV yX9_allow := ⟨wU_at 962 (by decide +kernel) rfl, wU_at 963 (by decide +kernel) rfl⟩
theorem m_X9_verdict : MW yX9_verdict cX9_verdict 8 (some .int) 3 := ⟨wU_at 968 (by decide +kernel) rfl, wU_at 29 (by decide +kernel) rfl, by decide +kernel, by decide +kernel, by decide +kernel⟩
theorem mv_X9_verdict : MV yX9_verdict := ⟨wU_at 966 (by decide +kernel) rfl, wU_at 967 (by decide +kernel) rfl⟩
theorem m_X9_covers : MW yX9_covers cX9_covers 3 (some .boolean) 2 := ⟨wU_at 971 (by decide +kernel) rfl, wU_at 29 (by decide +kernel) rfl, by decide +kernel, by decide +kernel, by decide +kernel⟩
theorem ms_X9_covers : Cond.static yX9_covers ∈ wU := wU_at 970 (by decide +kernel) rfl
theorem m_X9_relate : MW yX9_relate cX9_relate 5 (some .int) 3 := ⟨wU_at 975 (by decide +kernel) rfl, wU_at 29 (by decide +kernel) rfl, by decide +kernel, by decide +kernel, by decide +kernel⟩
theorem mv_X9_relate : MV yX9_relate := ⟨wU_at 973 (by decide +kernel) rfl, wU_at 974 (by decide +kernel) rfl⟩
theorem m_X9_valley : MW yX9_valley cX9_valley 12 (some .int) 3 := ⟨wU_at 979 (by decide +kernel) rfl, wU_at 29 (by decide +kernel) rfl, by decide +kernel, by decide +kernel, by decide +kernel⟩
theorem mv_X9_valley : MV yX9_valley := ⟨wU_at 977 (by decide +kernel) rfl, wU_at 978 (by decide +kernel) rfl⟩
theorem m_X9_lookUpAt : MW yX9_lookUpAt cX9_lookUpAt 3 (some .int) 2 := ⟨wU_at 983 (by decide +kernel) rfl, wU_at 29 (by decide +kernel) rfl, by decide +kernel, by decide +kernel, by decide +kernel⟩
theorem mv_X9_lookUpAt : MV yX9_lookUpAt := ⟨wU_at 981 (by decide +kernel) rfl, wU_at 982 (by decide +kernel) rfl⟩
theorem m_X9_originAt : MW yX9_originAt cX9_originAt 4 (some .int) 2 := ⟨wU_at 991 (by decide +kernel) rfl, wU_at 29 (by decide +kernel) rfl, by decide +kernel, by decide +kernel, by decide +kernel⟩
theorem mv_X9_originAt : MV yX9_originAt := ⟨wU_at 989 (by decide +kernel) rfl, wU_at 990 (by decide +kernel) rfl⟩
theorem m_X9_changes : MW yX9_changes cX9_changes 5 (some .int) 2 := ⟨wU_at 995 (by decide +kernel) rfl, wU_at 29 (by decide +kernel) rfl, by decide +kernel, by decide +kernel, by decide +kernel⟩
theorem mv_X9_changes : MV yX9_changes := ⟨wU_at 993 (by decide +kernel) rfl, wU_at 994 (by decide +kernel) rfl⟩
theorem lk_L_7 : Cond.methodLink RL 7 yX8_pass ∈ wU := wU_at 270 (by decide +kernel) rfl
theorem lk_L_17 : Cond.methodLink RL 17 yX8_hop ∈ wU := wU_at 363 (by decide +kernel) rfl
theorem lk_L_20 : Cond.methodLink RL 20 yX8_announce ∈ wU := wU_at 391 (by decide +kernel) rfl
theorem lk_L_26 : Cond.methodLink RL 26 yX8_withdraw ∈ wU := wU_at 529 (by decide +kernel) rfl
theorem lk_L_32 : Cond.methodLink RL 32 yX8_drop ∈ wU := wU_at 560 (by decide +kernel) rfl
theorem lk_L_35 : Cond.methodLink RL 35 yX8_routes ∈ wU := wU_at 567 (by decide +kernel) rfl
theorem lk_L_38 : Cond.methodLink RL 38 yX8_pathAt ∈ wU := wU_at 574 (by decide +kernel) rfl
theorem lk_L_42 : Cond.methodLink RL 42 yX8_bestPeer ∈ wU := wU_at 582 (by decide +kernel) rfl
theorem lk_L_46 : Cond.methodLink RL 46 yX8_lookUp ∈ wU := wU_at 594 (by decide +kernel) rfl
theorem lk_L_49 : Cond.methodLink RL 49 yX8_lookUpByScan ∈ wU := wU_at 611 (by decide +kernel) rfl
theorem lk_L_52 : Cond.methodLink RL 52 yX8_origins ∈ wU := wU_at 634 (by decide +kernel) rfl
theorem lk_L_55 : Cond.methodLink RL 55 yX8_isHijack ∈ wU := wU_at 641 (by decide +kernel) rfl
theorem lk_L_58 : Cond.methodLink RL 58 yX8_allow ∈ wU := wU_at 657 (by decide +kernel) rfl
theorem lk_L_62 : Cond.methodLink RL 62 yX8_verdict ∈ wU := wU_at 703 (by decide +kernel) rfl
theorem lk_L_65 : Cond.methodLink RL 65 yX8_relate ∈ wU := wU_at 728 (by decide +kernel) rfl
theorem lk_L_68 : Cond.methodLink RL 68 yX8_valley ∈ wU := wU_at 749 (by decide +kernel) rfl
theorem lk_L_71 : Cond.methodLink RL 71 yX8_lookUpAt ∈ wU := wU_at 763 (by decide +kernel) rfl
theorem lk_L_74 : Cond.methodLink RL 74 yX8_originAt ∈ wU := wU_at 770 (by decide +kernel) rfl
theorem lk_L_77 : Cond.methodLink RL 77 yX8_init ∈ wU := wU_at 43 (by decide +kernel) rfl
theorem lk_L_80 : Cond.methodLink RL 80 yX9_init ∈ wU := wU_at 776 (by decide +kernel) rfl
theorem lk_L_81 : Cond.methodLink RL 81 yL_pass ∈ wU := wU_at 265 (by decide +kernel) rfl
theorem lk_L_86 : Cond.methodLink RL 86 yX9_pass ∈ wU := wU_at 837 (by decide +kernel) rfl
theorem lk_L_87 : Cond.methodLink RL 87 yX9_thrown ∈ wU := wU_at 833 (by decide +kernel) rfl
theorem lk_L_91 : Cond.methodLink RL 91 yX8_now ∈ wU := wU_at 153 (by decide +kernel) rfl
theorem lk_L_94 : Cond.methodLink RL 94 yX9_now ∈ wU := wU_at 845 (by decide +kernel) rfl
theorem lk_L_95 : Cond.methodLink RL 95 yL_hop ∈ wU := wU_at 360 (by decide +kernel) rfl
theorem lk_L_97 : Cond.methodLink RL 97 yX9_hop ∈ wU := wU_at 849 (by decide +kernel) rfl
theorem lk_L_98 : Cond.methodLink RL 98 yX8_clearPath ∈ wU := wU_at 157 (by decide +kernel) rfl
theorem lk_L_101 : Cond.methodLink RL 101 yX9_clearPath ∈ wU := wU_at 853 (by decide +kernel) rfl
theorem lk_L_102 : Cond.methodLink RL 102 yL_announce ∈ wU := wU_at 387 (by decide +kernel) rfl
theorem lk_L_105 : Cond.methodLink RL 105 yX9_announce ∈ wU := wU_at 857 (by decide +kernel) rfl
theorem lk_L_106 : Cond.methodLink RL 106 yL_withdraw ∈ wU := wU_at 525 (by decide +kernel) rfl
theorem lk_L_108 : Cond.methodLink RL 108 yX9_withdraw ∈ wU := wU_at 881 (by decide +kernel) rfl
theorem lk_L_109 : Cond.methodLink RL 109 yL_drop ∈ wU := wU_at 557 (by decide +kernel) rfl
theorem lk_L_111 : Cond.methodLink RL 111 yX9_drop ∈ wU := wU_at 893 (by decide +kernel) rfl
theorem lk_L_112 : Cond.methodLink RL 112 yX8_updates ∈ wU := wU_at 169 (by decide +kernel) rfl
theorem lk_L_115 : Cond.methodLink RL 115 yX9_updates ∈ wU := wU_at 897 (by decide +kernel) rfl
theorem lk_L_116 : Cond.methodLink RL 116 yL_routes ∈ wU := wU_at 564 (by decide +kernel) rfl
theorem lk_L_118 : Cond.methodLink RL 118 yX9_routes ∈ wU := wU_at 901 (by decide +kernel) rfl
theorem lk_L_119 : Cond.methodLink RL 119 yX8_prefixes ∈ wU := wU_at 177 (by decide +kernel) rfl
theorem lk_L_122 : Cond.methodLink RL 122 yX9_prefixes ∈ wU := wU_at 905 (by decide +kernel) rfl
theorem lk_L_123 : Cond.methodLink RL 123 yL_pathAt ∈ wU := wU_at 571 (by decide +kernel) rfl
theorem lk_L_126 : Cond.methodLink RL 126 yX9_pathAt ∈ wU := wU_at 913 (by decide +kernel) rfl
theorem lk_L_127 : Cond.methodLink RL 127 yL_bestPeer ∈ wU := wU_at 579 (by decide +kernel) rfl
theorem lk_L_130 : Cond.methodLink RL 130 yX9_bestPeer ∈ wU := wU_at 917 (by decide +kernel) rfl
theorem lk_L_131 : Cond.methodLink RL 131 yL_lookUp ∈ wU := wU_at 591 (by decide +kernel) rfl
theorem lk_L_133 : Cond.methodLink RL 133 yX9_lookUp ∈ wU := wU_at 921 (by decide +kernel) rfl
theorem lk_L_134 : Cond.methodLink RL 134 yL_lookUpByScan ∈ wU := wU_at 608 (by decide +kernel) rfl
theorem lk_L_136 : Cond.methodLink RL 136 yX9_lookUpByScan ∈ wU := wU_at 936 (by decide +kernel) rfl
theorem lk_L_137 : Cond.methodLink RL 137 yL_origins ∈ wU := wU_at 631 (by decide +kernel) rfl
theorem lk_L_139 : Cond.methodLink RL 139 yX9_origins ∈ wU := wU_at 941 (by decide +kernel) rfl
theorem lk_L_140 : Cond.methodLink RL 140 yX8_contested ∈ wU := wU_at 192 (by decide +kernel) rfl
theorem lk_L_143 : Cond.methodLink RL 143 yX9_contested ∈ wU := wU_at 953 (by decide +kernel) rfl
theorem lk_L_144 : Cond.methodLink RL 144 yL_isHijack ∈ wU := wU_at 638 (by decide +kernel) rfl
theorem lk_L_146 : Cond.methodLink RL 146 yX9_isHijack ∈ wU := wU_at 957 (by decide +kernel) rfl
theorem lk_L_147 : Cond.methodLink RL 147 yL_allow ∈ wU := wU_at 654 (by decide +kernel) rfl
theorem lk_L_149 : Cond.methodLink RL 149 yX9_allow ∈ wU := wU_at 961 (by decide +kernel) rfl
theorem lk_L_150 : Cond.methodLink RL 150 yL_verdict ∈ wU := wU_at 700 (by decide +kernel) rfl
theorem lk_L_152 : Cond.methodLink RL 152 yX9_verdict ∈ wU := wU_at 965 (by decide +kernel) rfl
theorem lk_L_153 : Cond.methodLink RL 153 yL_relate ∈ wU := wU_at 725 (by decide +kernel) rfl
theorem lk_L_155 : Cond.methodLink RL 155 yX9_relate ∈ wU := wU_at 972 (by decide +kernel) rfl
theorem lk_L_156 : Cond.methodLink RL 156 yL_valley ∈ wU := wU_at 746 (by decide +kernel) rfl
theorem lk_L_158 : Cond.methodLink RL 158 yX9_valley ∈ wU := wU_at 976 (by decide +kernel) rfl
theorem lk_L_159 : Cond.methodLink RL 159 yL_lookUpAt ∈ wU := wU_at 760 (by decide +kernel) rfl
theorem lk_L_161 : Cond.methodLink RL 161 yX9_lookUpAt ∈ wU := wU_at 980 (by decide +kernel) rfl
theorem lk_L_162 : Cond.methodLink RL 162 yL_originAt ∈ wU := wU_at 767 (by decide +kernel) rfl
theorem lk_L_164 : Cond.methodLink RL 164 yX9_originAt ∈ wU := wU_at 988 (by decide +kernel) rfl
theorem lk_L_165 : Cond.methodLink RL 165 yX8_changes ∈ wU := wU_at 228 (by decide +kernel) rfl
theorem lk_L_168 : Cond.methodLink RL 168 yX9_changes ∈ wU := wU_at 992 (by decide +kernel) rfl
theorem lk_X0_1 : Cond.methodLink RX0 1 objectInit ∈ wU := wU_at 667 (by decide +kernel) rfl
theorem lk_X0_28 : Cond.methodLink RX0 28 yX3_covers ∈ wU := wU_at 719 (by decide +kernel) rfl
theorem lk_X0_32 : Cond.methodLink RX0 32 yX0_concerns ∈ wU := wU_at 715 (by decide +kernel) rfl
theorem lk_X0_40 : Cond.methodLink RX0 40 yX2_origin ∈ wU := wU_at 723 (by decide +kernel) rfl
theorem lk_X1_3 : Cond.methodLink RX1 3 objectInit ∈ wU := wU_at 86 (by decide +kernel) rfl
theorem lk_X1_34 : Cond.methodLink RX1 34 yX1_isFull ∈ wU := wU_at 524 (by decide +kernel) rfl
theorem lk_X1_38 : Cond.methodLink RX1 38 yX6_standsAfter ∈ wU := wU_at 244 (by decide +kernel) rfl
theorem lk_X1_46 : Cond.methodLink RX1 46 yX3_has ∈ wU := wU_at 619 (by decide +kernel) rfl
theorem lk_X1_51 : Cond.methodLink RX1 51 yX6_isFoundBefore ∈ wU := wU_at 623 (by decide +kernel) rfl
theorem lk_X1_55 : Cond.methodLink RX1 55 yX1_fillBest ∈ wU := wU_at 240 (by decide +kernel) rfl
theorem lk_X1_59 : Cond.methodLink RX1 59 yX1_areUnlike ∈ wU := wU_at 254 (by decide +kernel) rfl
theorem lk_X1_69 : Cond.methodLink RX1 69 yX6_isBetterThan ∈ wU := wU_at 249 (by decide +kernel) rfl
theorem lk_X1_72 : Cond.methodLink RX1 72 yX6_isLike ∈ wU := wU_at 257 (by decide +kernel) rfl
theorem lk_X2_3 : Cond.methodLink RX2 3 objectInit ∈ wU := wU_at 54 (by decide +kernel) rfl
theorem lk_X2_19 : Cond.methodLink RX2 19 yX2_networkAt ∈ wU := wU_at 218 (by decide +kernel) rfl
theorem lk_X2_23 : Cond.methodLink RX2 23 yX2_origin ∈ wU := wU_at 380 (by decide +kernel) rfl
theorem lk_X2_27 : Cond.methodLink RX2 27 yX2_isFull ∈ wU := wU_at 386 (by decide +kernel) rfl
theorem lk_X2_31 : Cond.methodLink RX2 31 yX2_init ∈ wU := wU_at 480 (by decide +kernel) rfl
theorem lk_X2_32 : Cond.methodLink RX2 32 yX2_add ∈ wU := wU_at 481 (by decide +kernel) rfl
theorem lk_X3_1 : Cond.methodLink RX3 1 objectInit ∈ wU := wU_at 432 (by decide +kernel) rfl
theorem lk_X4_3 : Cond.methodLink RX4 3 objectInit ∈ wU := wU_at 112 (by decide +kernel) rfl
theorem lk_X4_21 : Cond.methodLink RX4 21 yX0_isLike ∈ wU := wU_at 682 (by decide +kernel) rfl
theorem lk_X4_25 : Cond.methodLink RX4 25 yX4_isFull ∈ wU := wU_at 699 (by decide +kernel) rfl
theorem lk_X4_29 : Cond.methodLink RX4 29 yX0_permits ∈ wU := wU_at 711 (by decide +kernel) rfl
theorem lk_X4_33 : Cond.methodLink RX4 33 yX0_concerns ∈ wU := wU_at 724 (by decide +kernel) rfl
theorem lk_X5_3 : Cond.methodLink RX5 3 objectInit ∈ wU := wU_at 127 (by decide +kernel) rfl
theorem lk_X5_20 : Cond.methodLink RX5 20 yX2_size ∈ wU := wU_at 757 (by decide +kernel) rfl
theorem lk_X5_26 : Cond.methodLink RX5 26 yX2_networkAt ∈ wU := wU_at 758 (by decide +kernel) rfl
theorem lk_X5_30 : Cond.methodLink RX5 30 yX5_between ∈ wU := wU_at 759 (by decide +kernel) rfl
theorem lk_X6_3 : Cond.methodLink RX6 3 objectInit ∈ wU := wU_at 485 (by decide +kernel) rfl
theorem lk_X6_29 : Cond.methodLink RX6 29 yX2_size ∈ wU := wU_at 253 (by decide +kernel) rfl
theorem lk_X6_40 : Cond.methodLink RX6 40 yX6_isBetterThan ∈ wU := wU_at 627 (by decide +kernel) rfl
theorem lk_X6_44 : Cond.methodLink RX6 44 yX2_isLike ∈ wU := wU_at 261 (by decide +kernel) rfl
theorem lk_X7_3 : Cond.methodLink RX7 3 objectInit ∈ wU := wU_at 68 (by decide +kernel) rfl
theorem lk_X7_24 : Cond.methodLink RX7 24 yX7_cellOf ∈ wU := wU_at 208 (by decide +kernel) rfl
theorem lk_X7_45 : Cond.methodLink RX7 45 yX7_isThere ∈ wU := wU_at 185 (by decide +kernel) rfl
theorem lk_X7_48 : Cond.methodLink RX7 48 yX7_routeOf ∈ wU := wU_at 204 (by decide +kernel) rfl
theorem lk_X7_52 : Cond.methodLink RX7 52 yX6_isBetterThan ∈ wU := wU_at 590 (by decide +kernel) rfl
theorem lk_X7_59 : Cond.methodLink RX7 59 yX7_originBits ∈ wU := wU_at 200 (by decide +kernel) rfl
theorem lk_X7_63 : Cond.methodLink RX7 63 yJ6_bitCount_0f7a4 ∈ wU := wU_at 222 (by decide +kernel) rfl
theorem lk_X7_72 : Cond.methodLink RX7 72 yX2_origin ∈ wU := wU_at 214 (by decide +kernel) rfl
theorem lk_X8_3 : Cond.methodLink RX8 3 objectInit ∈ wU := wU_at 46 (by decide +kernel) rfl
theorem lk_X8_61 : Cond.methodLink RX8 61 yX8_isNetwork ∈ wU := wU_at 367 (by decide +kernel) rfl
theorem lk_X8_67 : Cond.methodLink RX8 67 yX2_isFull ∈ wU := wU_at 371 (by decide +kernel) rfl
theorem lk_X8_73 : Cond.methodLink RX8 73 yX2_hasLeft ∈ wU := wU_at 376 (by decide +kernel) rfl
theorem lk_X8_78 : Cond.methodLink RX8 78 yX2_add ∈ wU := wU_at 382 (by decide +kernel) rfl
theorem lk_X8_82 : Cond.methodLink RX8 82 yX2_size ∈ wU := wU_at 161 (by decide +kernel) rfl
theorem lk_X8_86 : Cond.methodLink RX8 86 yX2_clear ∈ wU := wU_at 165 (by decide +kernel) rfl
theorem lk_X8_89 : Cond.methodLink RX8 89 yX8_needPeer ∈ wU := wU_at 395 (by decide +kernel) rfl
theorem lk_X8_92 : Cond.methodLink RX8 92 yX8_needPrefix ∈ wU := wU_at 416 (by decide +kernel) rfl
theorem lk_X8_96 : Cond.methodLink RX8 96 yX2_networkAt ∈ wU := wU_at 450 (by decide +kernel) rfl
theorem lk_X8_100 : Cond.methodLink RX8 100 yX8_networkOf ∈ wU := wU_at 451 (by decide +kernel) rfl
theorem lk_X8_105 : Cond.methodLink RX8 105 yX8_needRoomForUpdate ∈ wU := wU_at 455 (by decide +kernel) rfl
theorem lk_X8_113 : Cond.methodLink RX8 113 yX7_routeOf ∈ wU := wU_at 464 (by decide +kernel) rfl
theorem lk_X8_117 : Cond.methodLink RX8 117 yX8_endRoute ∈ wU := wU_at 465 (by decide +kernel) rfl
theorem lk_X8_123 : Cond.methodLink RX8 123 yX2_copy ∈ wU := wU_at 475 (by decide +kernel) rfl
theorem lk_X8_127 : Cond.methodLink RX8 127 yX1_size ∈ wU := wU_at 173 (by decide +kernel) rfl
theorem lk_X8_128 : Cond.methodLink RX8 128 yX6_init ∈ wU := wU_at 482 (by decide +kernel) rfl
theorem lk_X8_131 : Cond.methodLink RX8 131 yX7_put ∈ wU := wU_at 512 (by decide +kernel) rfl
theorem lk_X8_134 : Cond.methodLink RX8 134 yX1_keep ∈ wU := wU_at 516 (by decide +kernel) rfl
theorem lk_X8_137 : Cond.methodLink RX8 137 yX1_noteUpdate ∈ wU := wU_at 520 (by decide +kernel) rfl
theorem lk_X8_140 : Cond.methodLink RX8 140 yX8_needRoute ∈ wU := wU_at 533 (by decide +kernel) rfl
theorem lk_X8_144 : Cond.methodLink RX8 144 yX7_countOfPeer ∈ wU := wU_at 553 (by decide +kernel) rfl
theorem lk_X8_147 : Cond.methodLink RX8 147 yX7_countPrefixes ∈ wU := wU_at 181 (by decide +kernel) rfl
theorem lk_X8_158 : Cond.methodLink RX8 158 yX7_bestOf ∈ wU := wU_at 586 (by decide +kernel) rfl
theorem lk_X8_165 : Cond.methodLink RX8 165 yX8_needAddress ∈ wU := wU_at 598 (by decide +kernel) rfl
theorem lk_X8_168 : Cond.methodLink RX8 168 yX7_longestLengthFor ∈ wU := wU_at 603 (by decide +kernel) rfl
theorem lk_X8_171 : Cond.methodLink RX8 171 yX1_routeFor ∈ wU := wU_at 615 (by decide +kernel) rfl
theorem lk_X8_174 : Cond.methodLink RX8 174 yX8_lengthOf ∈ wU := wU_at 628 (by decide +kernel) rfl
theorem lk_X8_178 : Cond.methodLink RX8 178 yX7_countOrigins ∈ wU := wU_at 196 (by decide +kernel) rfl
theorem lk_X8_185 : Cond.methodLink RX8 185 yX7_nearestAbove ∈ wU := wU_at 645 (by decide +kernel) rfl
theorem lk_X8_188 : Cond.methodLink RX8 188 yX2_origin ∈ wU := wU_at 649 (by decide +kernel) rfl
theorem lk_X8_191 : Cond.methodLink RX8 191 yX7_hasOrigin ∈ wU := wU_at 650 (by decide +kernel) rfl
theorem lk_X8_199 : Cond.methodLink RX8 199 yX0_init ∈ wU := wU_at 664 (by decide +kernel) rfl
theorem lk_X8_202 : Cond.methodLink RX8 202 yX4_placeOf ∈ wU := wU_at 678 (by decide +kernel) rfl
theorem lk_X8_206 : Cond.methodLink RX8 206 yX4_takeOut ∈ wU := wU_at 686 (by decide +kernel) rfl
theorem lk_X8_209 : Cond.methodLink RX8 209 yX4_isFull ∈ wU := wU_at 690 (by decide +kernel) rfl
theorem lk_X8_212 : Cond.methodLink RX8 212 yX4_add ∈ wU := wU_at 695 (by decide +kernel) rfl
theorem lk_X8_215 : Cond.methodLink RX8 215 yX4_judge ∈ wU := wU_at 707 (by decide +kernel) rfl
theorem lk_X8_222 : Cond.methodLink RX8 222 yX5_between ∈ wU := wU_at 734 (by decide +kernel) rfl
theorem lk_X8_226 : Cond.methodLink RX8 226 yX5_put ∈ wU := wU_at 739 (by decide +kernel) rfl
theorem lk_X8_229 : Cond.methodLink RX8 229 yX8_reverseOf ∈ wU := wU_at 743 (by decide +kernel) rfl
theorem lk_X8_232 : Cond.methodLink RX8 232 yX5_shapeOf ∈ wU := wU_at 753 (by decide +kernel) rfl
theorem lk_X8_236 : Cond.methodLink RX8 236 yX1_sizeAt ∈ wU := wU_at 232 (by decide +kernel) rfl
theorem lk_X8_239 : Cond.methodLink RX8 239 yX1_countUnlike ∈ wU := wU_at 236 (by decide +kernel) rfl
theorem lk_X8_242 : Cond.methodLink RX8 242 yX8_isPeer ∈ wU := wU_at 399 (by decide +kernel) rfl
theorem lk_X8_247 : Cond.methodLink RX8 247 yX8_isAddress ∈ wU := wU_at 423 (by decide +kernel) rfl
theorem lk_X8_252 : Cond.methodLink RX8 252 yX8_isPrefix ∈ wU := wU_at 420 (by decide +kernel) rfl
theorem lk_X8_257 : Cond.methodLink RX8 257 yX3_init ∈ wU := wU_at 429 (by decide +kernel) rfl
theorem lk_X8_265 : Cond.methodLink RX8 265 yX1_isFull ∈ wU := wU_at 459 (by decide +kernel) rfl
theorem lk_X8_271 : Cond.methodLink RX8 271 yX7_remove ∈ wU := wU_at 469 (by decide +kernel) rfl
theorem lk_X9_1 : Cond.methodLink RX9 1 objectInit ∈ wU := wU_at 779 (by decide +kernel) rfl
theorem lk_X9_43 : Cond.methodLink RX9 43 yX9_clearTable ∈ wU := wU_at 780 (by decide +kernel) rfl
theorem lk_X9_51 : Cond.methodLink RX9 51 yX9_in ∈ wU := wU_at 841 (by decide +kernel) rfl
theorem lk_X9_55 : Cond.methodLink RX9 55 yX9_placeOf ∈ wU := wU_at 870 (by decide +kernel) rfl
theorem lk_X9_62 : Cond.methodLink RX9 62 yX9_apply ∈ wU := wU_at 877 (by decide +kernel) rfl
theorem lk_X9_66 : Cond.methodLink RX9 66 yX9_prefixOf ∈ wU := wU_at 867 (by decide +kernel) rfl
theorem lk_X9_70 : Cond.methodLink RX9 70 yX9_best ∈ wU := wU_at 909 (by decide +kernel) rfl
theorem lk_X9_80 : Cond.methodLink RX9 80 yX9_isPeer ∈ wU := wU_at 861 (by decide +kernel) rfl
theorem lk_X9_84 : Cond.methodLink RX9 84 yX9_isPrefix ∈ wU := wU_at 864 (by decide +kernel) rfl
theorem lk_X9_88 : Cond.methodLink RX9 88 yX9_update ∈ wU := wU_at 873 (by decide +kernel) rfl
theorem lk_X9_92 : Cond.methodLink RX9 92 yX9_route ∈ wU := wU_at 885 (by decide +kernel) rfl
theorem lk_X9_95 : Cond.methodLink RX9 95 yX9_routesOf ∈ wU := wU_at 889 (by decide +kernel) rfl
theorem lk_X9_99 : Cond.methodLink RX9 99 yX9_found ∈ wU := wU_at 929 (by decide +kernel) rfl
theorem lk_X9_102 : Cond.methodLink RX9 102 yX9_lengthOf ∈ wU := wU_at 933 (by decide +kernel) rfl
theorem lk_X9_105 : Cond.methodLink RX9 105 yX9_lengthFound ∈ wU := wU_at 925 (by decide +kernel) rfl
theorem lk_X9_108 : Cond.methodLink RX9 108 yX9_lookUp ∈ wU := wU_at 940 (by decide +kernel) rfl
theorem lk_X9_111 : Cond.methodLink RX9 111 yX9_origin ∈ wU := wU_at 949 (by decide +kernel) rfl
theorem lk_X9_114 : Cond.methodLink RX9 114 yX9_originsOf ∈ wU := wU_at 945 (by decide +kernel) rfl
theorem lk_X9_120 : Cond.methodLink RX9 120 yX9_covers ∈ wU := wU_at 969 (by decide +kernel) rfl
theorem lk_X9_123 : Cond.methodLink RX9 123 yX9_replay ∈ wU := wU_at 984 (by decide +kernel) rfl
theorem lk_X9_126 : Cond.methodLink RX9 126 yX9_areAlike ∈ wU := wU_at 996 (by decide +kernel) rfl
/-- a field that may be read: class number and place -/
def GW (own : String) (index ci k : Nat) : Prop := ∃ (C : String) (T : u_T) (N : Nat), vwCl[ci]? = some (C, T, N) ∧ (∀ w ∈ u_ws C T N, w ∈ wU) ∧ k < N ∧ Cond.fieldLink own index (T k).1 (T k).2.1 (T k).2.2.1 ∈ wU
/-- one that may be written -/
def PW (own : String) (index ci k : Nat) (ty : FieldType) (fin : Bool) : Prop := ∃ (C : String) (T : u_T) (N : Nat) (ty0 : Nat → FieldType), vwCl[ci]? = some (C, T, N) ∧ (∀ w ∈ u_ws C T N, w ∈ wU) ∧ k < N ∧ Cond.fieldLink own index (T k).1 (T k).2.1 (T k).2.2.1 ∈ wU ∧ (∀ k, k < N → parseFieldDescriptor (T k).2.2.1 = some (ty0 k)) ∧ (∀ a, a < N → ∀ b, b < N → a ≠ b → (T a).2.1 ≠ (T b).2.1) ∧ (T k).2.2.2 = fin ∧ (T k).1 = C ∧ parseFieldDescriptor (T k).2.2.1 = some ty
theorem fl_X0_7 : Cond.fieldLink RX0 7 (TX0 0).1 (TX0 0).2.1 (TX0 0).2.2.1 ∈ wU := wU_at 668 (by decide +kernel) rfl
theorem fg_X0_7 : GW RX0 7 0 0 := ⟨RX0, TX0, 3, rfl, fw_X0, by decide, fl_X0_7⟩
theorem fp_X0_7 : PW RX0 7 0 0 (.object "Bgpreplay$Prefix") true := ⟨RX0, TX0, 3, tyX0, rfl, fw_X0, by decide, fl_X0_7, tyX0_ok, nmX0, rfl, rfl, by decide +kernel⟩
theorem fl_X0_13 : Cond.fieldLink RX0 13 (TX0 1).1 (TX0 1).2.1 (TX0 1).2.2.1 ∈ wU := wU_at 669 (by decide +kernel) rfl
theorem fg_X0_13 : GW RX0 13 0 1 := ⟨RX0, TX0, 3, rfl, fw_X0, by decide, fl_X0_13⟩
theorem fp_X0_13 : PW RX0 13 0 1 (.int) true := ⟨RX0, TX0, 3, tyX0, rfl, fw_X0, by decide, fl_X0_13, tyX0_ok, nmX0, rfl, rfl, by decide +kernel⟩
theorem fl_X0_17 : Cond.fieldLink RX0 17 (TX0 2).1 (TX0 2).2.1 (TX0 2).2.2.1 ∈ wU := wU_at 670 (by decide +kernel) rfl
theorem fg_X0_17 : GW RX0 17 0 2 := ⟨RX0, TX0, 3, rfl, fw_X0, by decide, fl_X0_17⟩
theorem fp_X0_17 : PW RX0 17 0 2 (.int) true := ⟨RX0, TX0, 3, tyX0, rfl, fw_X0, by decide, fl_X0_17, tyX0_ok, nmX0, rfl, rfl, by decide +kernel⟩
theorem fl_X1_9 : Cond.fieldLink RX1 9 (TX1 0).1 (TX1 0).2.1 (TX1 0).2.2.1 ∈ wU := wU_at 88 (by decide +kernel) rfl
theorem fg_X1_9 : GW RX1 9 1 0 := ⟨RX1, TX1, 6, rfl, fw_X1, by decide, fl_X1_9⟩
theorem fp_X1_9 : PW RX1 9 1 0 (.array .int) true := ⟨RX1, TX1, 6, tyX1, rfl, fw_X1, by decide, fl_X1_9, tyX1_ok, nmX1, rfl, rfl, by decide +kernel⟩
theorem fl_X1_15 : Cond.fieldLink RX1 15 (TX1 1).1 (TX1 1).2.1 (TX1 1).2.2.1 ∈ wU := wU_at 89 (by decide +kernel) rfl
theorem fg_X1_15 : GW RX1 15 1 1 := ⟨RX1, TX1, 6, rfl, fw_X1, by decide, fl_X1_15⟩
theorem fp_X1_15 : PW RX1 15 1 1 (.int) false := ⟨RX1, TX1, 6, tyX1, rfl, fw_X1, by decide, fl_X1_15, tyX1_ok, nmX1, rfl, rfl, by decide +kernel⟩
theorem fl_X1_21 : Cond.fieldLink RX1 21 (TX1 2).1 (TX1 2).2.1 (TX1 2).2.2.1 ∈ wU := wU_at 90 (by decide +kernel) rfl
theorem fg_X1_21 : GW RX1 21 1 2 := ⟨RX1, TX1, 6, rfl, fw_X1, by decide, fl_X1_21⟩
theorem fp_X1_21 : PW RX1 21 1 2 (.array (.object "Bgpreplay$Route")) true := ⟨RX1, TX1, 6, tyX1, rfl, fw_X1, by decide, fl_X1_21, tyX1_ok, nmX1, rfl, rfl, by decide +kernel⟩
theorem fl_X1_25 : Cond.fieldLink RX1 25 (TX1 3).1 (TX1 3).2.1 (TX1 3).2.2.1 ∈ wU := wU_at 91 (by decide +kernel) rfl
theorem fg_X1_25 : GW RX1 25 1 3 := ⟨RX1, TX1, 6, rfl, fw_X1, by decide, fl_X1_25⟩
theorem fp_X1_25 : PW RX1 25 1 3 (.int) false := ⟨RX1, TX1, 6, tyX1, rfl, fw_X1, by decide, fl_X1_25, tyX1_ok, nmX1, rfl, rfl, by decide +kernel⟩
theorem fl_X1_28 : Cond.fieldLink RX1 28 (TX1 4).1 (TX1 4).2.1 (TX1 4).2.2.1 ∈ wU := wU_at 92 (by decide +kernel) rfl
theorem fg_X1_28 : GW RX1 28 1 4 := ⟨RX1, TX1, 6, rfl, fw_X1, by decide, fl_X1_28⟩
theorem fp_X1_28 : PW RX1 28 1 4 (.array (.object "Bgpreplay$Route")) true := ⟨RX1, TX1, 6, tyX1, rfl, fw_X1, by decide, fl_X1_28, tyX1_ok, nmX1, rfl, rfl, by decide +kernel⟩
theorem fl_X1_31 : Cond.fieldLink RX1 31 (TX1 5).1 (TX1 5).2.1 (TX1 5).2.2.1 ∈ wU := wU_at 93 (by decide +kernel) rfl
theorem fg_X1_31 : GW RX1 31 1 5 := ⟨RX1, TX1, 6, rfl, fw_X1, by decide, fl_X1_31⟩
theorem fp_X1_31 : PW RX1 31 1 5 (.array (.object "Bgpreplay$Route")) true := ⟨RX1, TX1, 6, tyX1, rfl, fw_X1, by decide, fl_X1_31, tyX1_ok, nmX1, rfl, rfl, by decide +kernel⟩
theorem fl_X2_9 : Cond.fieldLink RX2 9 (TX2 0).1 (TX2 0).2.1 (TX2 0).2.2.1 ∈ wU := wU_at 55 (by decide +kernel) rfl
theorem fg_X2_9 : GW RX2 9 2 0 := ⟨RX2, TX2, 2, rfl, fw_X2, by decide, fl_X2_9⟩
theorem fp_X2_9 : PW RX2 9 2 0 (.array .int) true := ⟨RX2, TX2, 2, tyX2, rfl, fw_X2, by decide, fl_X2_9, tyX2_ok, nmX2, rfl, rfl, by decide +kernel⟩
theorem fl_X2_15 : Cond.fieldLink RX2 15 (TX2 1).1 (TX2 1).2.1 (TX2 1).2.2.1 ∈ wU := wU_at 56 (by decide +kernel) rfl
theorem fg_X2_15 : GW RX2 15 2 1 := ⟨RX2, TX2, 2, rfl, fw_X2, by decide, fl_X2_15⟩
theorem fp_X2_15 : PW RX2 15 2 1 (.int) false := ⟨RX2, TX2, 2, tyX2, rfl, fw_X2, by decide, fl_X2_15, tyX2_ok, nmX2, rfl, rfl, by decide +kernel⟩
theorem fl_X3_13 : Cond.fieldLink RX3 13 (TX3 0).1 (TX3 0).2.1 (TX3 0).2.2.1 ∈ wU := wU_at 436 (by decide +kernel) rfl
theorem fg_X3_13 : GW RX3 13 3 0 := ⟨RX3, TX3, 2, rfl, fw_X3, by decide, fl_X3_13⟩
theorem fp_X3_13 : PW RX3 13 3 0 (.int) true := ⟨RX3, TX3, 2, tyX3, rfl, fw_X3, by decide, fl_X3_13, tyX3_ok, nmX3, rfl, rfl, by decide +kernel⟩
theorem fl_X3_19 : Cond.fieldLink RX3 19 (TX3 1).1 (TX3 1).2.1 (TX3 1).2.2.1 ∈ wU := wU_at 441 (by decide +kernel) rfl
theorem fg_X3_19 : GW RX3 19 3 1 := ⟨RX3, TX3, 2, rfl, fw_X3, by decide, fl_X3_19⟩
theorem fp_X3_19 : PW RX3 19 3 1 (.int) true := ⟨RX3, TX3, 2, tyX3, rfl, fw_X3, by decide, fl_X3_19, tyX3_ok, nmX3, rfl, rfl, by decide +kernel⟩
theorem fl_X4_11 : Cond.fieldLink RX4 11 (TX4 0).1 (TX4 0).2.1 (TX4 0).2.2.1 ∈ wU := wU_at 115 (by decide +kernel) rfl
theorem fg_X4_11 : GW RX4 11 4 0 := ⟨RX4, TX4, 2, rfl, fw_X4, by decide, fl_X4_11⟩
theorem fp_X4_11 : PW RX4 11 4 0 (.array (.object "Bgpreplay$Entry")) true := ⟨RX4, TX4, 2, tyX4, rfl, fw_X4, by decide, fl_X4_11, tyX4_ok, nmX4, rfl, rfl, by decide +kernel⟩
theorem fl_X4_17 : Cond.fieldLink RX4 17 (TX4 1).1 (TX4 1).2.1 (TX4 1).2.2.1 ∈ wU := wU_at 116 (by decide +kernel) rfl
theorem fg_X4_17 : GW RX4 17 4 1 := ⟨RX4, TX4, 2, rfl, fw_X4, by decide, fl_X4_17⟩
theorem fp_X4_17 : PW RX4 17 4 1 (.int) false := ⟨RX4, TX4, 2, tyX4, rfl, fw_X4, by decide, fl_X4_17, tyX4_ok, nmX4, rfl, rfl, by decide +kernel⟩
theorem fl_X5_11 : Cond.fieldLink RX5 11 (TX5 0).1 (TX5 0).2.1 (TX5 0).2.2.1 ∈ wU := wU_at 130 (by decide +kernel) rfl
theorem fg_X5_11 : GW RX5 11 5 0 := ⟨RX5, TX5, 1, rfl, fw_X5, by decide, fl_X5_11⟩
theorem fp_X5_11 : PW RX5 11 5 0 (.array (.array .int)) true := ⟨RX5, TX5, 1, tyX5, rfl, fw_X5, by decide, fl_X5_11, tyX5_ok, nmX5, rfl, rfl, by decide +kernel⟩
theorem fl_X6_9 : Cond.fieldLink RX6 9 (TX6 4).1 (TX6 4).2.1 (TX6 4).2.2.1 ∈ wU := wU_at 499 (by decide +kernel) rfl
theorem fg_X6_9 : GW RX6 9 6 4 := ⟨RX6, TX6, 5, rfl, fw_X6, by decide, fl_X6_9⟩
theorem fp_X6_9 : PW RX6 9 6 4 (.int) false := ⟨RX6, TX6, 5, tyX6, rfl, fw_X6, by decide, fl_X6_9, tyX6_ok, nmX6, rfl, rfl, by decide +kernel⟩
theorem fl_X6_15 : Cond.fieldLink RX6 15 (TX6 0).1 (TX6 0).2.1 (TX6 0).2.2.1 ∈ wU := wU_at 486 (by decide +kernel) rfl
theorem fg_X6_15 : GW RX6 15 6 0 := ⟨RX6, TX6, 5, rfl, fw_X6, by decide, fl_X6_15⟩
theorem fp_X6_15 : PW RX6 15 6 0 (.int) true := ⟨RX6, TX6, 5, tyX6, rfl, fw_X6, by decide, fl_X6_15, tyX6_ok, nmX6, rfl, rfl, by decide +kernel⟩
theorem fl_X6_18 : Cond.fieldLink RX6 18 (TX6 1).1 (TX6 1).2.1 (TX6 1).2.2.1 ∈ wU := wU_at 489 (by decide +kernel) rfl
theorem fg_X6_18 : GW RX6 18 6 1 := ⟨RX6, TX6, 5, rfl, fw_X6, by decide, fl_X6_18⟩
theorem fp_X6_18 : PW RX6 18 6 1 (.object "Bgpreplay$Prefix") true := ⟨RX6, TX6, 5, tyX6, rfl, fw_X6, by decide, fl_X6_18, tyX6_ok, nmX6, rfl, rfl, by decide +kernel⟩
theorem fl_X6_22 : Cond.fieldLink RX6 22 (TX6 2).1 (TX6 2).2.1 (TX6 2).2.2.1 ∈ wU := wU_at 494 (by decide +kernel) rfl
theorem fg_X6_22 : GW RX6 22 6 2 := ⟨RX6, TX6, 5, rfl, fw_X6, by decide, fl_X6_22⟩
theorem fp_X6_22 : PW RX6 22 6 2 (.object "Bgpreplay$Path") true := ⟨RX6, TX6, 5, tyX6, rfl, fw_X6, by decide, fl_X6_22, tyX6_ok, nmX6, rfl, rfl, by decide +kernel⟩
theorem fl_X6_26 : Cond.fieldLink RX6 26 (TX6 3).1 (TX6 3).2.1 (TX6 3).2.2.1 ∈ wU := wU_at 498 (by decide +kernel) rfl
theorem fg_X6_26 : GW RX6 26 6 3 := ⟨RX6, TX6, 5, rfl, fw_X6, by decide, fl_X6_26⟩
theorem fp_X6_26 : PW RX6 26 6 3 (.int) true := ⟨RX6, TX6, 5, tyX6, rfl, fw_X6, by decide, fl_X6_26, tyX6_ok, nmX6, rfl, rfl, by decide +kernel⟩
theorem fl_X7_11 : Cond.fieldLink RX7 11 (TX7 0).1 (TX7 0).2.1 (TX7 0).2.2.1 ∈ wU := wU_at 71 (by decide +kernel) rfl
theorem fg_X7_11 : GW RX7 11 7 0 := ⟨RX7, TX7, 3, rfl, fw_X7, by decide, fl_X7_11⟩
theorem fp_X7_11 : PW RX7 11 7 0 (.array (.object "Bgpreplay$Route")) true := ⟨RX7, TX7, 3, tyX7, rfl, fw_X7, by decide, fl_X7_11, tyX7_ok, nmX7, rfl, rfl, by decide +kernel⟩
theorem fl_X7_17 : Cond.fieldLink RX7 17 (TX7 1).1 (TX7 1).2.1 (TX7 1).2.2.1 ∈ wU := wU_at 72 (by decide +kernel) rfl
theorem fg_X7_17 : GW RX7 17 7 1 := ⟨RX7, TX7, 3, rfl, fw_X7, by decide, fl_X7_17⟩
theorem fp_X7_17 : PW RX7 17 7 1 (.array .int) true := ⟨RX7, TX7, 3, tyX7, rfl, fw_X7, by decide, fl_X7_17, tyX7_ok, nmX7, rfl, rfl, by decide +kernel⟩
theorem fl_X7_21 : Cond.fieldLink RX7 21 (TX7 2).1 (TX7 2).2.1 (TX7 2).2.2.1 ∈ wU := wU_at 73 (by decide +kernel) rfl
theorem fg_X7_21 : GW RX7 21 7 2 := ⟨RX7, TX7, 3, rfl, fw_X7, by decide, fl_X7_21⟩
theorem fp_X7_21 : PW RX7 21 7 2 (.array .int) true := ⟨RX7, TX7, 3, tyX7, rfl, fw_X7, by decide, fl_X7_21, tyX7_ok, nmX7, rfl, rfl, by decide +kernel⟩
theorem fl_X8_12 : Cond.fieldLink RX8 12 (TX8 0).1 (TX8 0).2.1 (TX8 0).2.2.1 ∈ wU := wU_at 134 (by decide +kernel) rfl
theorem fg_X8_12 : GW RX8 12 8 0 := ⟨RX8, TX8, 6, rfl, fw_X8, by decide, fl_X8_12⟩
theorem fp_X8_12 : PW RX8 12 8 0 (.object "Bgpreplay$Path") true := ⟨RX8, TX8, 6, tyX8, rfl, fw_X8, by decide, fl_X8_12, tyX8_ok, nmX8, rfl, rfl, by decide +kernel⟩
theorem fl_X8_19 : Cond.fieldLink RX8 19 (TX8 1).1 (TX8 1).2.1 (TX8 1).2.2.1 ∈ wU := wU_at 135 (by decide +kernel) rfl
theorem fg_X8_19 : GW RX8 19 8 1 := ⟨RX8, TX8, 6, rfl, fw_X8, by decide, fl_X8_19⟩
theorem fp_X8_19 : PW RX8 19 8 1 (.object "Bgpreplay$Tree") true := ⟨RX8, TX8, 6, tyX8, rfl, fw_X8, by decide, fl_X8_19, tyX8_ok, nmX8, rfl, rfl, by decide +kernel⟩
theorem fl_X8_26 : Cond.fieldLink RX8 26 (TX8 2).1 (TX8 2).2.1 (TX8 2).2.2.1 ∈ wU := wU_at 136 (by decide +kernel) rfl
theorem fg_X8_26 : GW RX8 26 8 2 := ⟨RX8, TX8, 6, rfl, fw_X8, by decide, fl_X8_26⟩
theorem fp_X8_26 : PW RX8 26 8 2 (.object "Bgpreplay$History") true := ⟨RX8, TX8, 6, tyX8, rfl, fw_X8, by decide, fl_X8_26, tyX8_ok, nmX8, rfl, rfl, by decide +kernel⟩
theorem fl_X8_33 : Cond.fieldLink RX8 33 (TX8 3).1 (TX8 3).2.1 (TX8 3).2.2.1 ∈ wU := wU_at 137 (by decide +kernel) rfl
theorem fg_X8_33 : GW RX8 33 8 3 := ⟨RX8, TX8, 6, rfl, fw_X8, by decide, fl_X8_33⟩
theorem fp_X8_33 : PW RX8 33 8 3 (.object "Bgpreplay$Registry") true := ⟨RX8, TX8, 6, tyX8, rfl, fw_X8, by decide, fl_X8_33, tyX8_ok, nmX8, rfl, rfl, by decide +kernel⟩
theorem fl_X8_40 : Cond.fieldLink RX8 40 (TX8 4).1 (TX8 4).2.1 (TX8 4).2.2.1 ∈ wU := wU_at 138 (by decide +kernel) rfl
theorem fg_X8_40 : GW RX8 40 8 4 := ⟨RX8, TX8, 6, rfl, fw_X8, by decide, fl_X8_40⟩
theorem fp_X8_40 : PW RX8 40 8 4 (.object "Bgpreplay$Relations") true := ⟨RX8, TX8, 6, tyX8, rfl, fw_X8, by decide, fl_X8_40, tyX8_ok, nmX8, rfl, rfl, by decide +kernel⟩
theorem fl_X8_44 : Cond.fieldLink RX8 44 (TX8 5).1 (TX8 5).2.1 (TX8 5).2.2.1 ∈ wU := wU_at 139 (by decide +kernel) rfl
theorem fg_X8_44 : GW RX8 44 8 5 := ⟨RX8, TX8, 6, rfl, fw_X8, by decide, fl_X8_44⟩
theorem fp_X8_44 : PW RX8 44 8 5 (.int) false := ⟨RX8, TX8, 6, tyX8, rfl, fw_X8, by decide, fl_X8_44, tyX8_ok, nmX8, rfl, rfl, by decide +kernel⟩
theorem fl_X9_7 : Cond.fieldLink RX9 7 (TX9 1).1 (TX9 1).2.1 (TX9 1).2.2.1 ∈ wU := wU_at 785 (by decide +kernel) rfl
theorem fg_X9_7 : GW RX9 7 9 1 := ⟨RX9, TX9, 16, rfl, fw_X9, by decide, fl_X9_7⟩
theorem fp_X9_7 : PW RX9 7 9 1 (.array .int) true := ⟨RX9, TX9, 16, tyX9, rfl, fw_X9, by decide, fl_X9_7, tyX9_ok, nmX9, rfl, rfl, by decide +kernel⟩
theorem fl_X9_13 : Cond.fieldLink RX9 13 (TX9 4).1 (TX9 4).2.1 (TX9 4).2.2.1 ∈ wU := wU_at 788 (by decide +kernel) rfl
theorem fg_X9_13 : GW RX9 13 9 4 := ⟨RX9, TX9, 16, rfl, fw_X9, by decide, fl_X9_13⟩
theorem fp_X9_13 : PW RX9 13 9 4 (.array .int) true := ⟨RX9, TX9, 16, tyX9, rfl, fw_X9, by decide, fl_X9_13, tyX9_ok, nmX9, rfl, rfl, by decide +kernel⟩
theorem fl_X9_16 : Cond.fieldLink RX9 16 (TX9 5).1 (TX9 5).2.1 (TX9 5).2.2.1 ∈ wU := wU_at 789 (by decide +kernel) rfl
theorem fg_X9_16 : GW RX9 16 9 5 := ⟨RX9, TX9, 16, rfl, fw_X9, by decide, fl_X9_16⟩
theorem fp_X9_16 : PW RX9 16 9 5 (.array .int) true := ⟨RX9, TX9, 16, tyX9, rfl, fw_X9, by decide, fl_X9_16, tyX9_ok, nmX9, rfl, rfl, by decide +kernel⟩
theorem fl_X9_19 : Cond.fieldLink RX9 19 (TX9 6).1 (TX9 6).2.1 (TX9 6).2.2.1 ∈ wU := wU_at 790 (by decide +kernel) rfl
theorem fg_X9_19 : GW RX9 19 9 6 := ⟨RX9, TX9, 16, rfl, fw_X9, by decide, fl_X9_19⟩
theorem fp_X9_19 : PW RX9 19 9 6 (.array .int) true := ⟨RX9, TX9, 16, tyX9, rfl, fw_X9, by decide, fl_X9_19, tyX9_ok, nmX9, rfl, rfl, by decide +kernel⟩
theorem fl_X9_22 : Cond.fieldLink RX9 22 (TX9 7).1 (TX9 7).2.1 (TX9 7).2.2.1 ∈ wU := wU_at 791 (by decide +kernel) rfl
theorem fg_X9_22 : GW RX9 22 9 7 := ⟨RX9, TX9, 16, rfl, fw_X9, by decide, fl_X9_22⟩
theorem fp_X9_22 : PW RX9 22 9 7 (.array .int) true := ⟨RX9, TX9, 16, tyX9, rfl, fw_X9, by decide, fl_X9_22, tyX9_ok, nmX9, rfl, rfl, by decide +kernel⟩
theorem fl_X9_25 : Cond.fieldLink RX9 25 (TX9 8).1 (TX9 8).2.1 (TX9 8).2.2.1 ∈ wU := wU_at 792 (by decide +kernel) rfl
theorem fg_X9_25 : GW RX9 25 9 8 := ⟨RX9, TX9, 16, rfl, fw_X9, by decide, fl_X9_25⟩
theorem fp_X9_25 : PW RX9 25 9 8 (.array .int) true := ⟨RX9, TX9, 16, tyX9, rfl, fw_X9, by decide, fl_X9_25, tyX9_ok, nmX9, rfl, rfl, by decide +kernel⟩
theorem fl_X9_28 : Cond.fieldLink RX9 28 (TX9 9).1 (TX9 9).2.1 (TX9 9).2.2.1 ∈ wU := wU_at 793 (by decide +kernel) rfl
theorem fg_X9_28 : GW RX9 28 9 9 := ⟨RX9, TX9, 16, rfl, fw_X9, by decide, fl_X9_28⟩
theorem fp_X9_28 : PW RX9 28 9 9 (.array .int) true := ⟨RX9, TX9, 16, tyX9, rfl, fw_X9, by decide, fl_X9_28, tyX9_ok, nmX9, rfl, rfl, by decide +kernel⟩
theorem fl_X9_31 : Cond.fieldLink RX9 31 (TX9 11).1 (TX9 11).2.1 (TX9 11).2.2.1 ∈ wU := wU_at 795 (by decide +kernel) rfl
theorem fg_X9_31 : GW RX9 31 9 11 := ⟨RX9, TX9, 16, rfl, fw_X9, by decide, fl_X9_31⟩
theorem fp_X9_31 : PW RX9 31 9 11 (.array .int) true := ⟨RX9, TX9, 16, tyX9, rfl, fw_X9, by decide, fl_X9_31, tyX9_ok, nmX9, rfl, rfl, by decide +kernel⟩
theorem fl_X9_34 : Cond.fieldLink RX9 34 (TX9 12).1 (TX9 12).2.1 (TX9 12).2.2.1 ∈ wU := wU_at 796 (by decide +kernel) rfl
theorem fg_X9_34 : GW RX9 34 9 12 := ⟨RX9, TX9, 16, rfl, fw_X9, by decide, fl_X9_34⟩
theorem fp_X9_34 : PW RX9 34 9 12 (.array .int) true := ⟨RX9, TX9, 16, tyX9, rfl, fw_X9, by decide, fl_X9_34, tyX9_ok, nmX9, rfl, rfl, by decide +kernel⟩
theorem fl_X9_37 : Cond.fieldLink RX9 37 (TX9 13).1 (TX9 13).2.1 (TX9 13).2.2.1 ∈ wU := wU_at 797 (by decide +kernel) rfl
theorem fg_X9_37 : GW RX9 37 9 13 := ⟨RX9, TX9, 16, rfl, fw_X9, by decide, fl_X9_37⟩
theorem fp_X9_37 : PW RX9 37 9 13 (.array .int) true := ⟨RX9, TX9, 16, tyX9, rfl, fw_X9, by decide, fl_X9_37, tyX9_ok, nmX9, rfl, rfl, by decide +kernel⟩
theorem fl_X9_40 : Cond.fieldLink RX9 40 (TX9 14).1 (TX9 14).2.1 (TX9 14).2.2.1 ∈ wU := wU_at 798 (by decide +kernel) rfl
theorem fg_X9_40 : GW RX9 40 9 14 := ⟨RX9, TX9, 16, rfl, fw_X9, by decide, fl_X9_40⟩
theorem fp_X9_40 : PW RX9 40 9 14 (.array .int) true := ⟨RX9, TX9, 16, tyX9, rfl, fw_X9, by decide, fl_X9_40, tyX9_ok, nmX9, rfl, rfl, by decide +kernel⟩
theorem fl_X9_47 : Cond.fieldLink RX9 47 (TX9 15).1 (TX9 15).2.1 (TX9 15).2.2.1 ∈ wU := wU_at 799 (by decide +kernel) rfl
theorem fg_X9_47 : GW RX9 47 9 15 := ⟨RX9, TX9, 16, rfl, fw_X9, by decide, fl_X9_47⟩
theorem fp_X9_47 : PW RX9 47 9 15 (.int) false := ⟨RX9, TX9, 16, tyX9, rfl, fw_X9, by decide, fl_X9_47, tyX9_ok, nmX9, rfl, rfl, by decide +kernel⟩
theorem fl_X9_59 : Cond.fieldLink RX9 59 (TX9 3).1 (TX9 3).2.1 (TX9 3).2.2.1 ∈ wU := wU_at 787 (by decide +kernel) rfl
theorem fg_X9_59 : GW RX9 59 9 3 := ⟨RX9, TX9, 16, rfl, fw_X9, by decide, fl_X9_59⟩
theorem fp_X9_59 : PW RX9 59 9 3 (.int) false := ⟨RX9, TX9, 16, tyX9, rfl, fw_X9, by decide, fl_X9_59, tyX9_ok, nmX9, rfl, rfl, by decide +kernel⟩
theorem fl_X9_73 : Cond.fieldLink RX9 73 (TX9 0).1 (TX9 0).2.1 (TX9 0).2.2.1 ∈ wU := wU_at 784 (by decide +kernel) rfl
theorem fg_X9_73 : GW RX9 73 9 0 := ⟨RX9, TX9, 16, rfl, fw_X9, by decide, fl_X9_73⟩
theorem fp_X9_73 : PW RX9 73 9 0 (.int) false := ⟨RX9, TX9, 16, tyX9, rfl, fw_X9, by decide, fl_X9_73, tyX9_ok, nmX9, rfl, rfl, by decide +kernel⟩
theorem fl_X9_77 : Cond.fieldLink RX9 77 (TX9 2).1 (TX9 2).2.1 (TX9 2).2.2.1 ∈ wU := wU_at 786 (by decide +kernel) rfl
theorem fg_X9_77 : GW RX9 77 9 2 := ⟨RX9, TX9, 16, rfl, fw_X9, by decide, fl_X9_77⟩
theorem fp_X9_77 : PW RX9 77 9 2 (.int) false := ⟨RX9, TX9, 16, tyX9, rfl, fw_X9, by decide, fl_X9_77, tyX9_ok, nmX9, rfl, rfl, by decide +kernel⟩
theorem fl_X9_117 : Cond.fieldLink RX9 117 (TX9 10).1 (TX9 10).2.1 (TX9 10).2.2.1 ∈ wU := wU_at 794 (by decide +kernel) rfl
theorem fg_X9_117 : GW RX9 117 9 10 := ⟨RX9, TX9, 16, rfl, fw_X9, by decide, fl_X9_117⟩
theorem fp_X9_117 : PW RX9 117 9 10 (.int) false := ⟨RX9, TX9, 16, tyX9, rfl, fw_X9, by decide, fl_X9_117, tyX9_ok, nmX9, rfl, rfl, by decide +kernel⟩
theorem lc_L_8 : Cond.classLink RL 8 RX8 ∈ wU := wU_at 41 (by decide +kernel) rfl
theorem lc_L_13 : Cond.classLink RL 13 "java/lang/IllegalArgumentException" ∈ wU := wU_at 268 (by decide +kernel) rfl
theorem lc_L_15 : Cond.classLink RL 15 "java/lang/IllegalStateException" ∈ wU := wU_at 269 (by decide +kernel) rfl
theorem lc_L_24 : Cond.classLink RL 24 "java/lang/IndexOutOfBoundsException" ∈ wU := wU_at 390 (by decide +kernel) rfl
theorem lc_L_30 : Cond.classLink RL 30 "java/util/NoSuchElementException" ∈ wU := wU_at 528 (by decide +kernel) rfl
theorem lc_L_78 : Cond.classLink RL 78 RX9 ∈ wU := wU_at 774 (by decide +kernel) rfl
theorem lc_X1_19 : Cond.classLink RX1 19 RX6 ∈ wU := wU_at 87 (by decide +kernel) rfl
theorem lc_X2_10 : Cond.classLink RX2 10 RX2 ∈ wU := wU_at 479 (by decide +kernel) rfl
theorem lc_X4_9 : Cond.classLink RX4 9 RX0 ∈ wU := wU_at 113 (by decide +kernel) rfl
theorem lc_X5_9 : Cond.classLink RX5 9 "[[I" ∈ wU := wU_at 128 (by decide +kernel) rfl
theorem lc_X7_9 : Cond.classLink RX7 9 RX6 ∈ wU := wU_at 69 (by decide +kernel) rfl
theorem lc_X8_9 : Cond.classLink RX8 9 RX2 ∈ wU := wU_at 49 (by decide +kernel) rfl
theorem lc_X8_16 : Cond.classLink RX8 16 RX7 ∈ wU := wU_at 63 (by decide +kernel) rfl
theorem lc_X8_23 : Cond.classLink RX8 23 RX1 ∈ wU := wU_at 81 (by decide +kernel) rfl
theorem lc_X8_30 : Cond.classLink RX8 30 RX4 ∈ wU := wU_at 107 (by decide +kernel) rfl
theorem lc_X8_37 : Cond.classLink RX8 37 RX5 ∈ wU := wU_at 122 (by decide +kernel) rfl
theorem lc_X8_48 : Cond.classLink RX8 48 "java/lang/IllegalArgumentException" ∈ wU := wU_at 274 (by decide +kernel) rfl
theorem lc_X8_56 : Cond.classLink RX8 56 "java/lang/IllegalStateException" ∈ wU := wU_at 344 (by decide +kernel) rfl
theorem lc_X8_109 : Cond.classLink RX8 109 RX3 ∈ wU := wU_at 427 (by decide +kernel) rfl
theorem lc_X8_121 : Cond.classLink RX8 121 RX6 ∈ wU := wU_at 473 (by decide +kernel) rfl
theorem lc_X8_150 : Cond.classLink RX8 150 "java/lang/IndexOutOfBoundsException" ∈ wU := wU_at 400 (by decide +kernel) rfl
theorem lc_X8_197 : Cond.classLink RX8 197 RX0 ∈ wU := wU_at 662 (by decide +kernel) rfl
theorem lc_X8_260 : Cond.classLink RX8 260 "java/util/NoSuchElementException" ∈ wU := wU_at 537 (by decide +kernel) rfl
theorem iw_X0 : Cond.instantiable RX0 3 ∈ wU := wU_at 663 (by decide +kernel) rfl
theorem nw_X0 : Cond.initialized RX0 ∈ wU := wU_at 40 (by decide +kernel) rfl
theorem iw_X1 : Cond.instantiable RX1 6 ∈ wU := wU_at 82 (by decide +kernel) rfl
theorem nw_X1 : Cond.initialized RX1 ∈ wU := wU_at 26 (by decide +kernel) rfl
theorem iw_X2 : Cond.instantiable RX2 2 ∈ wU := wU_at 50 (by decide +kernel) rfl
theorem nw_X2 : Cond.initialized RX2 ∈ wU := wU_at 24 (by decide +kernel) rfl
theorem iw_X3 : Cond.instantiable RX3 2 ∈ wU := wU_at 428 (by decide +kernel) rfl
theorem nw_X3 : Cond.initialized RX3 ∈ wU := wU_at 36 (by decide +kernel) rfl
theorem iw_X4 : Cond.instantiable RX4 2 ∈ wU := wU_at 108 (by decide +kernel) rfl
theorem nw_X4 : Cond.initialized RX4 ∈ wU := wU_at 27 (by decide +kernel) rfl
theorem iw_X5 : Cond.instantiable RX5 1 ∈ wU := wU_at 123 (by decide +kernel) rfl
theorem nw_X5 : Cond.initialized RX5 ∈ wU := wU_at 28 (by decide +kernel) rfl
theorem iw_X6 : Cond.instantiable RX6 5 ∈ wU := wU_at 474 (by decide +kernel) rfl
theorem nw_X6 : Cond.initialized RX6 ∈ wU := wU_at 37 (by decide +kernel) rfl
theorem iw_X7 : Cond.instantiable RX7 3 ∈ wU := wU_at 64 (by decide +kernel) rfl
theorem nw_X7 : Cond.initialized RX7 ∈ wU := wU_at 25 (by decide +kernel) rfl
theorem iw_X8 : Cond.instantiable RX8 6 ∈ wU := wU_at 42 (by decide +kernel) rfl
theorem nw_X8 : Cond.initialized RX8 ∈ wU := wU_at 23 (by decide +kernel) rfl
theorem iw_X9 : Cond.instantiable RX9 16 ∈ wU := wU_at 775 (by decide +kernel) rfl
theorem nw_X9 : Cond.initialized RX9 ∈ wU := wU_at 29 (by decide +kernel) rfl
theorem cw_J6_265 : Cond.constant RJ6 265 (1431655765) ∈ wU := wU_at 225 (by decide +kernel) rfl
theorem cw_J6_266 : Cond.constant RJ6 266 (858993459) ∈ wU := wU_at 226 (by decide +kernel) rfl
theorem cw_J6_267 : Cond.constant RJ6 267 (252645135) ∈ wU := wU_at 227 (by decide +kernel) rfl
theorem cw_X8_55 : Cond.constant RX8 55 (1000000) ∈ wU := wU_at 343 (by decide +kernel) rfl
theorem cw_X9_76 : Cond.constant RX9 76 (1000000) ∈ wU := wU_at 844 (by decide +kernel) rfl
theorem aw_int : Cond.arrayClass .int ∈ wU := wU_at 62 (by decide +kernel) rfl
theorem aw_byte : Cond.arrayClass .byte ∈ wU := wU_at 342 (by decide +kernel) rfl
theorem aw_long : Cond.arrayClass .long ∈ wU := wU_at 1000 (by decide +kernel) rfl
theorem oi_inst : Cond.instanceMethod objectInit ∈ wU := wU_at 47 (by decide +kernel) rfl
theorem oi_code : Cond.code objectInit ⟨#[0xb1]⟩ 1 none ∈ wU := wU_at 48 (by decide +kernel) rfl
/-- the words that are no good ones: links between nest mates, casts, declarations -/
def eBad : List Cond := [(Cond.methodLinkNest "Bgpreplay" (11) ⟨"Bgpreplay$Path", "<init>", "()V"⟩ "Bgpreplay"), (Cond.methodLinkNest "Bgpreplay" (18) ⟨"Bgpreplay$Tree", "<init>", "()V"⟩ "Bgpreplay"), (Cond.methodLinkNest "Bgpreplay" (25) ⟨"Bgpreplay$History", "<init>", "()V"⟩ "Bgpreplay"), (Cond.methodLinkNest "Bgpreplay" (32) ⟨"Bgpreplay$Registry", "<init>", "()V"⟩ "Bgpreplay"), (Cond.methodLinkNest "Bgpreplay" (39) ⟨"Bgpreplay$Relations", "<init>", "()V"⟩ "Bgpreplay"), (Cond.methodLinkNest "Bgpreplay$Tree" (78) ⟨"Bgpreplay", "isPrefixNumber", "(I)Z"⟩ "Bgpreplay"), (Cond.methodLinkNest "Bgpreplay$Tree" (41) ⟨"Bgpreplay", "isPeer", "(I)Z"⟩ "Bgpreplay"), (Cond.methodLinkNest "Bgpreplay$History" (66) ⟨"Bgpreplay", "isPrefixNumber", "(I)Z"⟩ "Bgpreplay"), (Cond.castable "java/lang/IllegalArgumentException" "java/lang/IllegalArgumentException"), (Cond.declares ⟨"java/lang/RuntimeException", "<init>", "()V"⟩), (Cond.declares ⟨"java/lang/RuntimeException", "<init>", "(Ljava/lang/String;)V"⟩), (Cond.declares ⟨"java/lang/Exception", "<init>", "()V"⟩), (Cond.declares ⟨"java/lang/Exception", "<init>", "(Ljava/lang/String;)V"⟩), (Cond.declares ⟨"java/lang/Throwable", "<init>", "()V"⟩), (Cond.declares ⟨"java/lang/Throwable", "<init>", "(Ljava/lang/String;)V"⟩), (Cond.castable "java/lang/IllegalStateException" "java/lang/IllegalStateException"), (Cond.castable "java/lang/IndexOutOfBoundsException" "java/lang/IndexOutOfBoundsException"), (Cond.methodLinkNest "Bgpreplay$Prefix" (7) ⟨"Bgpreplay", "prefixNumber", "(II)I"⟩ "Bgpreplay"), (Cond.fieldLinkNest "Bgpreplay$Entry" (20) "Bgpreplay$Prefix" "number" "I" "Bgpreplay"), (Cond.fieldLinkNest "Bgpreplay$Tree" (32) "Bgpreplay$Prefix" "number" "I" "Bgpreplay"), (Cond.fieldLinkNest "Bgpreplay" (108) "Bgpreplay$Prefix" "number" "I" "Bgpreplay"), (Cond.fieldLinkNest "Bgpreplay$History" (63) "Bgpreplay$Prefix" "number" "I" "Bgpreplay"), (Cond.fieldLinkNest "Bgpreplay$Route" (35) "Bgpreplay$Prefix" "length" "I" "Bgpreplay"), (Cond.fieldLinkNest "Bgpreplay$Entry" (45) "Bgpreplay$Prefix" "length" "I" "Bgpreplay"), (Cond.fieldLinkNest "Bgpreplay" (274) "Bgpreplay$Prefix" "length" "I" "Bgpreplay"), (Cond.fieldLinkNest "Bgpreplay$Tree" (38) "Bgpreplay$Route" "peer" "I" "Bgpreplay"), (Cond.fieldLinkNest "Bgpreplay" (162) "Bgpreplay$Route" "peer" "I" "Bgpreplay"), (Cond.fieldLinkNest "Bgpreplay$Tree" (28) "Bgpreplay$Route" "prefix" "LBgpreplay$Prefix;" "Bgpreplay"), (Cond.fieldLinkNest "Bgpreplay$Entry" (25) "Bgpreplay$Route" "prefix" "LBgpreplay$Prefix;" "Bgpreplay"), (Cond.fieldLinkNest "Bgpreplay$History" (42) "Bgpreplay$Route" "prefix" "LBgpreplay$Prefix;" "Bgpreplay"), (Cond.fieldLinkNest "Bgpreplay" (181) "Bgpreplay$Route" "prefix" "LBgpreplay$Prefix;" "Bgpreplay"), (Cond.fieldLinkNest "Bgpreplay$Entry" (36) "Bgpreplay$Route" "path" "LBgpreplay$Path;" "Bgpreplay"), (Cond.fieldLinkNest "Bgpreplay" (155) "Bgpreplay$Route" "path" "LBgpreplay$Path;" "Bgpreplay"), (Cond.fieldLinkNest "Bgpreplay$Tree" (68) "Bgpreplay$Route" "path" "LBgpreplay$Path;" "Bgpreplay"), (Cond.fieldLinkNest "Bgpreplay" (268) "Bgpreplay$Route" "end" "I" "Bgpreplay"), (Cond.castable "java/util/NoSuchElementException" "java/util/NoSuchElementException"), (Cond.methodLinkNest "Bgpreplay$Tree" (56) ⟨"Bgpreplay", "prefixNumber", "(II)I"⟩ "Bgpreplay"), (Cond.methodLinkNest "Bgpreplay$Relations" (16) ⟨"Bgpreplay", "isNetwork", "(I)Z"⟩ "Bgpreplay"), (Cond.castable "Bgpreplay" "java/lang/Object"), (Cond.castable "Bgpreplay$Path" "java/lang/Object"), (Cond.castable "Bgpreplay$Tree" "java/lang/Object"), (Cond.castable "Bgpreplay$History" "java/lang/Object"), (Cond.castable "Bgpreplay$Registry" "java/lang/Object"), (Cond.castable "Bgpreplay$Relations" "java/lang/Object"), (Cond.castable "BgpreplayModel" "java/lang/Object"), (Cond.castable "java/lang/IllegalArgumentException" "java/lang/Object"), (Cond.castable "java/lang/IllegalStateException" "java/lang/Object"), (Cond.castable "java/lang/IndexOutOfBoundsException" "java/lang/Object"), (Cond.castable "Bgpreplay$Prefix" "java/lang/Object"), (Cond.castable "Bgpreplay$Route" "java/lang/Object"), (Cond.castable "java/util/NoSuchElementException" "java/lang/Object"), (Cond.castable "Bgpreplay$Entry" "java/lang/Object"), (Cond.castable "java/lang/Throwable" "java/lang/Object"), (Cond.castable "java/lang/String" "java/lang/Object")]
theorem ln_X8_11 : (Cond.methodLinkNest RX8 11 yX2_init "Bgpreplay") ∈ eBad := List.mem_of_getElem? (i := 0) rfl
theorem ln_X8_18 : (Cond.methodLinkNest RX8 18 yX7_init "Bgpreplay") ∈ eBad := List.mem_of_getElem? (i := 1) rfl
theorem ln_X8_25 : (Cond.methodLinkNest RX8 25 yX1_init "Bgpreplay") ∈ eBad := List.mem_of_getElem? (i := 2) rfl
theorem ln_X8_32 : (Cond.methodLinkNest RX8 32 yX4_init "Bgpreplay") ∈ eBad := List.mem_of_getElem? (i := 3) rfl
theorem ln_X8_39 : (Cond.methodLinkNest RX8 39 yX5_init "Bgpreplay") ∈ eBad := List.mem_of_getElem? (i := 4) rfl
theorem ln_X7_78 : (Cond.methodLinkNest RX7 78 yX8_isPrefixNumber "Bgpreplay") ∈ eBad := List.mem_of_getElem? (i := 5) rfl
theorem ln_X7_41 : (Cond.methodLinkNest RX7 41 yX8_isPeer "Bgpreplay") ∈ eBad := List.mem_of_getElem? (i := 6) rfl
theorem ln_X1_66 : (Cond.methodLinkNest RX1 66 yX8_isPrefixNumber "Bgpreplay") ∈ eBad := List.mem_of_getElem? (i := 7) rfl
theorem cs_8 : (Cond.castable "java/lang/IllegalArgumentException" "java/lang/IllegalArgumentException") ∈ eBad := List.mem_of_getElem? (i := 8) rfl
theorem cs_15 : (Cond.castable "java/lang/IllegalStateException" "java/lang/IllegalStateException") ∈ eBad := List.mem_of_getElem? (i := 15) rfl
theorem cs_16 : (Cond.castable "java/lang/IndexOutOfBoundsException" "java/lang/IndexOutOfBoundsException") ∈ eBad := List.mem_of_getElem? (i := 16) rfl
theorem ln_X3_7 : (Cond.methodLinkNest RX3 7 yX8_prefixNumber "Bgpreplay") ∈ eBad := List.mem_of_getElem? (i := 17) rfl
theorem cs_35 : (Cond.castable "java/util/NoSuchElementException" "java/util/NoSuchElementException") ∈ eBad := List.mem_of_getElem? (i := 35) rfl
theorem ln_X7_56 : (Cond.methodLinkNest RX7 56 yX8_prefixNumber "Bgpreplay") ∈ eBad := List.mem_of_getElem? (i := 36) rfl
theorem ln_X5_16 : (Cond.methodLinkNest RX5 16 yX8_isNetwork "Bgpreplay") ∈ eBad := List.mem_of_getElem? (i := 37) rfl
theorem cs_38 : (Cond.castable "Bgpreplay" "java/lang/Object") ∈ eBad := List.mem_of_getElem? (i := 38) rfl
theorem cs_39 : (Cond.castable "Bgpreplay$Path" "java/lang/Object") ∈ eBad := List.mem_of_getElem? (i := 39) rfl
theorem cs_40 : (Cond.castable "Bgpreplay$Tree" "java/lang/Object") ∈ eBad := List.mem_of_getElem? (i := 40) rfl
theorem cs_41 : (Cond.castable "Bgpreplay$History" "java/lang/Object") ∈ eBad := List.mem_of_getElem? (i := 41) rfl
theorem cs_42 : (Cond.castable "Bgpreplay$Registry" "java/lang/Object") ∈ eBad := List.mem_of_getElem? (i := 42) rfl
theorem cs_43 : (Cond.castable "Bgpreplay$Relations" "java/lang/Object") ∈ eBad := List.mem_of_getElem? (i := 43) rfl
theorem cs_44 : (Cond.castable "BgpreplayModel" "java/lang/Object") ∈ eBad := List.mem_of_getElem? (i := 44) rfl
theorem cs_45 : (Cond.castable "java/lang/IllegalArgumentException" "java/lang/Object") ∈ eBad := List.mem_of_getElem? (i := 45) rfl
theorem cs_46 : (Cond.castable "java/lang/IllegalStateException" "java/lang/Object") ∈ eBad := List.mem_of_getElem? (i := 46) rfl
theorem cs_47 : (Cond.castable "java/lang/IndexOutOfBoundsException" "java/lang/Object") ∈ eBad := List.mem_of_getElem? (i := 47) rfl
theorem cs_48 : (Cond.castable "Bgpreplay$Prefix" "java/lang/Object") ∈ eBad := List.mem_of_getElem? (i := 48) rfl
theorem cs_49 : (Cond.castable "Bgpreplay$Route" "java/lang/Object") ∈ eBad := List.mem_of_getElem? (i := 49) rfl
theorem cs_50 : (Cond.castable "java/util/NoSuchElementException" "java/lang/Object") ∈ eBad := List.mem_of_getElem? (i := 50) rfl
theorem cs_51 : (Cond.castable "Bgpreplay$Entry" "java/lang/Object") ∈ eBad := List.mem_of_getElem? (i := 51) rfl
theorem cs_52 : (Cond.castable "java/lang/Throwable" "java/lang/Object") ∈ eBad := List.mem_of_getElem? (i := 52) rfl
theorem cs_53 : (Cond.castable "java/lang/String" "java/lang/Object") ∈ eBad := List.mem_of_getElem? (i := 53) rfl
def GN (own : String) (index ci k : Nat) : Prop := ∃ (C : String) (T : u_T) (N : Nat), vwCl[ci]? = some (C, T, N) ∧ (∀ w ∈ u_ws C T N, w ∈ wU) ∧ k < N ∧ Cond.fieldLinkNest own index (T k).1 (T k).2.1 (T k).2.2.1 "Bgpreplay" ∈ eBad
def PN (own : String) (index ci k : Nat) (ty : FieldType) : Prop := ∃ (C : String) (T : u_T) (N : Nat) (ty0 : Nat → FieldType), vwCl[ci]? = some (C, T, N) ∧ (∀ w ∈ u_ws C T N, w ∈ wU) ∧ k < N ∧ Cond.fieldLinkNest own index (T k).1 (T k).2.1 (T k).2.2.1 "Bgpreplay" ∈ eBad ∧ (∀ k, k < N → parseFieldDescriptor (T k).2.2.1 = some (ty0 k)) ∧ (∀ a, a < N → ∀ b, b < N → a ≠ b → (T a).2.1 ≠ (T b).2.1) ∧ (T k).2.2.2 = false ∧ parseFieldDescriptor (T k).2.2.1 = some ty
theorem fn_X0_20 : GN RX0 20 3 0 := ⟨RX3, TX3, 2, rfl, fw_X3, by decide, List.mem_of_getElem? (i := 18) (by decide +kernel)⟩
theorem fn_X0_25 : GN RX0 25 6 1 := ⟨RX6, TX6, 5, rfl, fw_X6, by decide, List.mem_of_getElem? (i := 28) (by decide +kernel)⟩
theorem fn_X0_36 : GN RX0 36 6 2 := ⟨RX6, TX6, 5, rfl, fw_X6, by decide, List.mem_of_getElem? (i := 31) (by decide +kernel)⟩
theorem fn_X0_45 : GN RX0 45 3 1 := ⟨RX3, TX3, 2, rfl, fw_X3, by decide, List.mem_of_getElem? (i := 23) (by decide +kernel)⟩
theorem fn_X1_42 : GN RX1 42 6 1 := ⟨RX6, TX6, 5, rfl, fw_X6, by decide, List.mem_of_getElem? (i := 29) (by decide +kernel)⟩
theorem fn_X1_63 : GN RX1 63 3 0 := ⟨RX3, TX3, 2, rfl, fw_X3, by decide, List.mem_of_getElem? (i := 21) (by decide +kernel)⟩
theorem fn_X6_35 : GN RX6 35 3 1 := ⟨RX3, TX3, 2, rfl, fw_X3, by decide, List.mem_of_getElem? (i := 22) (by decide +kernel)⟩
theorem fn_X7_28 : GN RX7 28 6 1 := ⟨RX6, TX6, 5, rfl, fw_X6, by decide, List.mem_of_getElem? (i := 27) (by decide +kernel)⟩
theorem fn_X7_32 : GN RX7 32 3 0 := ⟨RX3, TX3, 2, rfl, fw_X3, by decide, List.mem_of_getElem? (i := 19) (by decide +kernel)⟩
theorem fn_X7_38 : GN RX7 38 6 0 := ⟨RX6, TX6, 5, rfl, fw_X6, by decide, List.mem_of_getElem? (i := 25) (by decide +kernel)⟩
theorem fn_X7_68 : GN RX7 68 6 2 := ⟨RX6, TX6, 5, rfl, fw_X6, by decide, List.mem_of_getElem? (i := 33) (by decide +kernel)⟩
theorem fn_X8_108 : GN RX8 108 3 0 := ⟨RX3, TX3, 2, rfl, fw_X3, by decide, List.mem_of_getElem? (i := 20) (by decide +kernel)⟩
theorem fn_X8_155 : GN RX8 155 6 2 := ⟨RX6, TX6, 5, rfl, fw_X6, by decide, List.mem_of_getElem? (i := 32) (by decide +kernel)⟩
theorem fn_X8_162 : GN RX8 162 6 0 := ⟨RX6, TX6, 5, rfl, fw_X6, by decide, List.mem_of_getElem? (i := 26) (by decide +kernel)⟩
theorem fn_X8_181 : GN RX8 181 6 1 := ⟨RX6, TX6, 5, rfl, fw_X6, by decide, List.mem_of_getElem? (i := 30) (by decide +kernel)⟩
theorem fn_X8_268 : GN RX8 268 6 4 := ⟨RX6, TX6, 5, rfl, fw_X6, by decide, List.mem_of_getElem? (i := 34) (by decide +kernel)⟩
theorem fq_X8_268 : PN RX8 268 6 4 (.int) := ⟨RX6, TX6, 5, tyX6, rfl, fw_X6, by decide, List.mem_of_getElem? (i := 34) (by decide +kernel), tyX6_ok, nmX6, rfl, by decide +kernel⟩
theorem fn_X8_274 : GN RX8 274 3 1 := ⟨RX3, TX3, 2, rfl, fw_X3, by decide, List.mem_of_getElem? (i := 24) (by decide +kernel)⟩
def eStr : List (String × Nat × String) := [(RX8, 50, "ticks is out of range"), (RX8, 58, "the time would be above 1000000"), (RX8, 65, "no such network"), (RX8, 71, "the path has 8 networks"), (RX8, 76, "the path has this network and another one behind it"), (RX8, 245, "no such peer"), (RX8, 255, "no such prefix"), (RX8, 103, "the path does not begin with the network of the peer"), (RX8, 266, "there are 300 updates"), (RX8, 262, "the peer has no route for the prefix"), (RX8, 152, "place is below 0"), (RX8, 250, "no such address"), (RX8, 195, "longest is out of range"), (RX8, 210, "there are 20 entries"), (RX8, 218, "no such two networks"), (RX8, 220, "no such relation")]
theorem es_50 : (RX8, 50, "ticks is out of range") ∈ eStr := List.mem_of_getElem? (i := 0) rfl
theorem es_58 : (RX8, 58, "the time would be above 1000000") ∈ eStr := List.mem_of_getElem? (i := 1) rfl
theorem es_65 : (RX8, 65, "no such network") ∈ eStr := List.mem_of_getElem? (i := 2) rfl
theorem es_71 : (RX8, 71, "the path has 8 networks") ∈ eStr := List.mem_of_getElem? (i := 3) rfl
theorem es_76 : (RX8, 76, "the path has this network and another one behind it") ∈ eStr := List.mem_of_getElem? (i := 4) rfl
theorem es_245 : (RX8, 245, "no such peer") ∈ eStr := List.mem_of_getElem? (i := 5) rfl
theorem es_255 : (RX8, 255, "no such prefix") ∈ eStr := List.mem_of_getElem? (i := 6) rfl
theorem es_103 : (RX8, 103, "the path does not begin with the network of the peer") ∈ eStr := List.mem_of_getElem? (i := 7) rfl
theorem es_266 : (RX8, 266, "there are 300 updates") ∈ eStr := List.mem_of_getElem? (i := 8) rfl
theorem es_262 : (RX8, 262, "the peer has no route for the prefix") ∈ eStr := List.mem_of_getElem? (i := 9) rfl
theorem es_152 : (RX8, 152, "place is below 0") ∈ eStr := List.mem_of_getElem? (i := 10) rfl
theorem es_250 : (RX8, 250, "no such address") ∈ eStr := List.mem_of_getElem? (i := 11) rfl
theorem es_195 : (RX8, 195, "longest is out of range") ∈ eStr := List.mem_of_getElem? (i := 12) rfl
theorem es_210 : (RX8, 210, "there are 20 entries") ∈ eStr := List.mem_of_getElem? (i := 13) rfl
theorem es_218 : (RX8, 218, "no such two networks") ∈ eStr := List.mem_of_getElem? (i := 14) rfl
theorem es_220 : (RX8, 220, "no such relation") ∈ eStr := List.mem_of_getElem? (i := 15) rfl
end
section
/-! ===== a layer of our own: the heap as a partial function of addresses, and a judgement J over it ===== -/
abbrev HF : Type := Nat → Option va_E
def hUp (h : HF) (a : Nat) (e : va_E) : HF := fun q => if q = a then some e else h q
theorem hUp_s {h : HF} {a : Nat} {e : va_E} : hUp h a e a = some e := if_pos rfl
theorem hUp_n {h : HF} {a b : Nat} {e : va_E} (n : b ≠ a) : hUp h a e b = h b := if_neg n
/-- the classes' numbers, the slots; the array classes: int[], Route[], Entry[], int[][], long[] -/
abbrev GG : Type := va_G × (ClassId × ClassId × ClassId × ClassId × ClassId)
def gT (g : GG) : List (ClassId × FieldType) := [(g.2.1, .int), (g.2.2.1, .object RX6), (g.2.2.2.1, .object RX0), (g.2.2.2.2.1, .array .int), (g.2.2.2.2.2, .long)]
abbrev aI (g : GG) (n : Nat) (f : Nat → Int32) : va_E := .inl (g.2.1, n, .inl f)
abbrev aR (g : GG) (n : Nat) (f : Nat → Option Nat) : va_E := .inl (g.2.2.1, n, .inr (.inr (.inr (.inr f))))
abbrev aE (g : GG) (n : Nat) (f : Nat → Option Nat) : va_E := .inl (g.2.2.2.1, n, .inr (.inr (.inr (.inr f))))
abbrev aII (g : GG) (n : Nat) (f : Nat → Option Nat) : va_E := .inl (g.2.2.2.2.1, n, .inr (.inr (.inr (.inr f))))
abbrev aJ (g : GG) (n : Nat) (f : Nat → Int64) : va_E := .inl (g.2.2.2.2.2, n, .inr (.inl f))
def HX (g : GG) (h : HF) (A : Nat → Prop) (H : Heap) : Prop := ∀ (a : Nat) (e : va_E), h a = some e → va_at g.1 vwCl (a, e) H ∧ A a
/-- what the world outside holds: words that are no good ones, texts, the statics of Throwable, classes of arrays -/
def EV (A : Nat → Prop) (U : State) (H : Heap) : Prop := (∀ w ∈ eBad, va_Nw w U) ∧ (∀ x ∈ eStr, ∃ a, vk_R x.1 x.2.1 x.2.2 a U) ∧ va_AO RX6 U ∧ va_AO RX0 U ∧ va_AOA .int U ∧ vx_Zq Bundle.tN "UNASSIGNED_STACK" Bundle.steD A U H ∧ vx_Zq Bundle.tN "SUPPRESSED_SENTINEL" Bundle.listD A U H
def wkBad : Cond → Bool
  | .fieldLinkNest .. | .methodLinkNest .. | .castable .. | .declares _ => true
  | _ => false
theorem wkBad_warm {w : Cond} (h : wkBad w = true) {s U : State} (hW : s.WarmedH U.vm) (hZ : va_Nw w s) : va_Nw w U := by
  cases w <;> first
    | exact va_Nw.warmF hW hZ
    | exact va_Nw.warmM hW hZ
    | exact va_Nw.warmC hW hZ
    | exact va_Nw.warmD hW hZ
    | (simp [wkBad] at h; done)
theorem eBad_ok : ∀ w ∈ eBad, wkBad w = true := by
  intro w hw
  exact List.all_eq_true.mp (show eBad.all wkBad = true by rfl) w hw
theorem va_AOA.moved {ty : FieldType} {u U : State} (hvm : u.vm.Alike U.vm) (h : va_AOA ty u) : va_AOA ty U := arrayOver_alikeB hvm h
theorem EV.mv {A : Nat → Prop} {s U : State} {H H1 : Heap} (h : EV A s H) (hW : s.WarmedH U.vm) (hk : ∀ q, q < H.size → ¬ A q → H1[q]? = H[q]?) : EV A U H1 := by
  obtain ⟨h1, h2, h3, h4, h5, h6, h7⟩ := h
  refine ⟨fun w hw => wkBad_warm (eBad_ok w hw) hW (h1 w hw), fun x hx => ?_, va_AO.moved hW.alike h3, va_AO.moved hW.alike h4, va_AOA.moved hW.alike h5, vx_Zq.moved hW.alike (h6.kept hk), vx_Zq.moved hW.alike (h7.kept hk)⟩
  obtain ⟨a, ha⟩ := h2 x hx
  exact ⟨a, vk_R.warm hW ha⟩
theorem EV.sm {A : Nat → Prop} {s U : State} {H : Heap} (h : EV A s H) (hv : U.vm = s.vm) : EV A U H := EV.mv h (hv ▸ State.WarmedH.refl s) (fun _ _ _ => rfl)
theorem EV.nw {A B : Nat → Prop} {s : State} {H : Heap} (h : EV A s H) (hAB : ∀ q, B q → A q) : EV B s H := by
  obtain ⟨h1, h2, h3, h4, h5, h6, h7⟩ := h
  exact ⟨h1, h2, h3, h4, h5, h6.narrow hAB, h7.narrow hAB⟩
def PR (g : GG) (h : HF) (A : Nat → Prop) (U : State) : Prop := HX g h A U.heap ∧ (∀ q, U.heap.size ≤ q → A q) ∧ va_K g.1 vwCl (gT g) U ∧ EV A U U.heap
def BQ (g : GG) (A : Nat → Prop) (h : HF) (t : State) : Prop := HX g h A t.heap
def BX (g : GG) (A : Nat → Prop) (E : String) (u : HF × String) (t : State) : Prop := u.2 = E ∧ HX g u.1 A t.heap
abbrev rmF (f mc ms : Nat) : Room := { frames := f, cells := mc, slots := ms, locals := 35 * f }
/-- contracts: a method of int (void, reference) that returns; and one that may throw -/
abbrev MI (l : Launch) (g : GG) (A : Nat → Prop) (h : HF) (y : MethodName) (c : ByteArray) (nL : Nat) (ret : Option FieldType) (f mc ms : Nat) (av : List Value) (post : Int32 → HF → Prop) : Prop := Met l y (.code y c nL ret :: wU) (rmF f mc ms) (va_Pc av (PR g h A)) (va_Qi post (BQ g A) A) mc ms A
abbrev MVo (l : Launch) (g : GG) (A : Nat → Prop) (h : HF) (y : MethodName) (c : ByteArray) (nL : Nat) (f mc ms : Nat) (av : List Value) (post : HF → Prop) : Prop := Met l y (.code y c nL none :: wU) (rmF f mc ms) (va_Pc av (PR g h A)) (va_Qv post (BQ g A) A) mc ms A
abbrev MQo (l : Launch) (g : GG) (A : Nat → Prop) (h : HF) (y : MethodName) (c : ByteArray) (nL : Nat) (ret : Option FieldType) (f mc ms : Nat) (av : List Value) (post : Option Nat → HF → Prop) : Prop := Met l y (.code y c nL ret :: wU) (rmF f mc ms) (va_Pc av (PR g h A)) (va_Qq post (BQ g A) A) mc ms A
abbrev XI (l : Launch) (g : GG) (A : Nat → Prop) (h : HF) (y : MethodName) (c : ByteArray) (nL : Nat) (ret : Option FieldType) (f mc ms : Nat) (av : List Value) (post : Int32 → HF → Prop) (px : HF × String → Prop) : Prop := vx_Met l y (.code y c nL ret :: wU) (rmF f mc ms) (va_Pc av (PR g h A)) (va_Qi post (BQ g A) A) (vx_X px (BX g A) A) mc ms A
abbrev XV (l : Launch) (g : GG) (A : Nat → Prop) (h : HF) (y : MethodName) (c : ByteArray) (nL : Nat) (f mc ms : Nat) (av : List Value) (post : HF → Prop) (px : HF × String → Prop) : Prop := vx_Met l y (.code y c nL none :: wU) (rmF f mc ms) (va_Pc av (PR g h A)) (va_Qv post (BQ g A) A) (vx_X px (BX g A) A) mc ms A
abbrev XQ (l : Launch) (g : GG) (A : Nat → Prop) (h : HF) (y : MethodName) (c : ByteArray) (nL : Nat) (ret : Option FieldType) (f mc ms : Nat) (av : List Value) (post : Option Nat → HF → Prop) (px : HF × String → Prop) : Prop := vx_Met l y (.code y c nL ret :: wU) (rmF f mc ms) (va_Pc av (PR g h A)) (va_Qq post (BQ g A) A) (vx_X px (BX g A) A) mc ms A
/-- the fixed things of a walk -/
abbrev Cx : Type := Program × Env × Room × State × MethodId × Array Value × List Frame × Method × Code × (State → Prop)
abbrev xP (X : Cx) : Program := X.1
abbrev xE (X : Cx) : Env := X.2.1
abbrev xR (X : Cx) : Room := X.2.2.1
abbrev xS (X : Cx) : State := X.2.2.2.1
abbrev xM (X : Cx) : MethodId := X.2.2.2.2.1
abbrev xA (X : Cx) : Array Value := X.2.2.2.2.2.1
abbrev xB (X : Cx) : List Frame := X.2.2.2.2.2.2.1
abbrev xN (X : Cx) : Method := X.2.2.2.2.2.2.2.1
abbrev xC (X : Cx) : Code := X.2.2.2.2.2.2.2.2.1
abbrev xQ (X : Cx) : State → Prop := X.2.2.2.2.2.2.2.2.2
def lvh (ls : Array Slot) (nL : Nat) (lv : List (Nat × Value)) : Prop := lv_has ls nL lv ∧ ∀ q ∈ lv, q.2.category = 1
theorem lvh_args : ∀ (av : List Value) (i : Nat), (∀ v ∈ av, v.category = 1) → ∀ q ∈ lv_args i av, q.2.category = 1
  | [], _, _, q, hq => by cases hq
  | v :: t, i, h, q, hq => by
    unfold lv_args at hq
    rcases List.mem_cons.mp hq with e | hq
    · rw [e]; exact h v List.mem_cons_self
    · exact lvh_args t _ (fun w hw => h w (List.mem_cons_of_mem _ hw)) q hq
def acat : List Value → Bool
  | [] => true
  | v :: t => (match v with | .int _ => true | .ref _ => true | .null => true | _ => false) && acat t
theorem acat_ok : ∀ {av : List Value}, acat av = true → ∀ v ∈ av, v.category = 1
  | [], _, v, hv => by cases hv
  | w :: t, h, v, hv => by
    unfold acat at h
    rw [Bool.and_eq_true] at h
    rcases List.mem_cons.mp hv with e | hv
    · subst e
      have h1 := h.1
      cases v <;> first | rfl | (simp at h1)
    · exact acat_ok h.2 v hv
def J (l : Launch) (X : Cx) (g : GG) (A : Nat → Prop) (nL k n : Nat) (h : HF) (pc : Nat) (lv : List (Nat × Value)) (st : List Value) : Prop :=
  ∀ (H : Heap) (locs : List Loc) (ls : Array Slot), HX g h A H → va_S A (xS X).heap H locs → lvh ls nL lv → W (xP X) l (xE X) (xR X) (xS X) (xM X) (xA X) (xB X) (xN X) (xC X) H locs k n (xQ X) (F0 (xM X) pc ls st)
/-- the facts of a walk: the machine, the code, the words, the classes, the room -/
def Fx (l : Launch) (X : Cx) (g : GG) (A : Nat → Prop) (own : String) (cc : ByteArray) (nL : Nat) (ret : Option FieldType) (f mc ms : Nat) : Prop :=
  (xP X).tables.exec = Jvm.exec ∧ (xC X).code = cc ∧ (xC X).maxLocals = nL ∧ (xS X).vm.findClass own = some (xM X).cls ∧ (∀ w ∈ wU, w.before (xA X) (xS X) = true) ∧ va_K g.1 vwCl (gT g) (xS X) ∧ (∀ q, (xS X).heap.size ≤ q → A q) ∧ EV A (xS X) (xS X).heap ∧ (xN X).locks = false ∧ (xN X).sig.returnType = ret ∧ f ≤ (xR X).frames ∧ 35 * f ≤ (xR X).locals ∧ (xR X).cells = mc ∧ (xR X).slots = ms
theorem j_met {l : Launch} {g : GG} {A : Nat → Prop} {h : HF} {y : MethodName} {cc : ByteArray} {nL : Nat} {ret : Option FieldType} {f mc ms : Nat} {av : List Value} {Qc : Array Value → State → Outcome → State → Prop} (hy : plainName y.cls = true) (hn : (lg_sl av).length ≤ nL)
    (body : ∀ X : Cx, Fx l X g A y.cls cc nL ret f mc ms → ((xN X).name = y.name) → xQ X = MQ (xB X) Qc (xA X) (xS X) mc ms A → J l X g A nL 0 0 h 0 (lv_args 0 av) []) (hac : acat av = true := by rfl) : Met l y (.code y cc nL ret :: wU) (rmF f mc ms) (va_Pc av (PR g h A)) Qc mc ms A := by
  refine Met.ofW (cc := cc) (maxL := nL) (ret := ret) hy rfl ?_
  intro p e s m args below meth c s₁ B hml hv
  obtain ⟨rfl, hP, hA, hK, hE⟩ := hv
  have hts := atoms_spec (ws := Cond.code y cc nL ret :: wU) B.pre
  have hin : meth.name = y.name := (name_of_methodNamed B.named B.method).1
  have hl := lv_entry av (n := nL) hn
  rw [lg_entry_eq]
  exact body (p, e, rmF f mc ms, s, m, av.toArray, below, meth, c, _) ⟨B.exec, B.bytes, hml, findClass_of_methodNamed B.named, fun w hw => hts w (List.mem_cons_of_mem _ hw), hK, hA, hE, B.notSynchronized, B.returns, Nat.le_refl _, Nat.le_refl _, rfl, rfl⟩ hin rfl s.heap [] _ hP va_S.rf ⟨hl, lvh_args av 0 (acat_ok hac)⟩
section JR
variable {l : Launch} {X : Cx} {g : GG} {A : Nat → Prop} {own : String} {cc : ByteArray} {nL : Nat} {ret : Option FieldType} {f mc ms : Nat} {k n : Nat} {h : HF} {pc : Nat} {lv : List (Nat × Value)} {st : List Value}
def lget : List (Nat × Value) → Nat → Option Value
  | [], _ => none
  | (j, v) :: t, i => cond (Nat.beq j i) (some v) (lget t i)
def lset (lv : List (Nat × Value)) (i : Nat) (v : Value) : List (Nat × Value) := (i, v) :: lv.filter (fun q => !(Nat.beq q.1 i))
theorem lset_ok {ls : Array Slot} {i : Nat} {v : Value} (hc : ∀ q ∈ lv, q.2.category = 1) (hv : v.category = 1) (h : lv_has ls nL ((i, v) :: lv.filter (fun q => !(q.1 == i) && !(q.1 + 1 == i && q.2.category == 2)))) : lvh ls nL (lset lv i v) := by
  have e : lv.filter (fun q => !(q.1 == i) && !(q.1 + 1 == i && q.2.category == 2)) = lv.filter (fun q => !(Nat.beq q.1 i)) := by
    apply List.filter_congr
    intro q hq
    rw [hc q hq]
    cases e : Nat.beq q.1 i with
    | true => simp [Nat.eq_of_beq_eq_true e]
    | false => simp [Nat.ne_of_beq_eq_false e]
  rw [e] at h
  refine ⟨h, fun q hq => ?_⟩
  rcases List.mem_cons.mp hq with e | hq
  · rw [e]; exact hv
  · exact hc q (List.mem_filter.mp hq).1
theorem lget_mem {i : Nat} {v : Value} : ∀ {lv : List (Nat × Value)}, lget lv i = some v → (i, v) ∈ lv
  | [], h => by cases h
  | (j, w) :: t, h => by
    unfold lget at h
    cases hb : Nat.beq j i with
    | true =>
      rw [hb] at h
      have e := Nat.eq_of_beq_eq_true hb
      cases h
      subst e
      exact List.mem_cons_self
    | false =>
      rw [hb] at h
      exact List.mem_cons_of_mem _ (lget_mem h)
theorem lget_at {ls : Array Slot} {i : Nat} {v : Value} (h : lvh ls nL lv) (e : lget lv i = some v) : ls[i]? = some (.val v) := h.1.2.2 (i, v) (lget_mem e)
/-- fewer locals -/
def lall (lv : List (Nat × Value)) : List (Nat × Value) → Prop
  | [] => True
  | (i, v) :: t => lget lv i = some v ∧ lall lv t
theorem lall_mem {lv : List (Nat × Value)} : ∀ {lv' : List (Nat × Value)}, lall lv lv' → ∀ q ∈ lv', lget lv q.1 = some q.2
  | [], _, q, hq => by cases hq
  | (i, v) :: t, h, q, hq => by
    rcases List.mem_cons.mp hq with e | hq
    · subst e; exact h.1
    · exact lall_mem h.2 q hq
theorem lv_all {ls : Array Slot} {lv' : List (Nat × Value)} (h : lvh ls nL lv) (e : lall lv lv') : lvh ls nL lv' := ⟨⟨h.1.1, h.1.2.1, fun q hq => lget_at h (lall_mem e q hq)⟩, fun q hq => h.2 _ (lget_mem (lall_mem e q hq))⟩
theorem j_lv (lv' : List (Nat × Value)) (e : lall lv lv') (kk : J l X g A nL k n h pc lv' st) : J l X g A nL k n h pc lv st := fun H locs ls h1 h2 h3 => kk H locs ls h1 h2 (lv_all h3 e)
theorem j_forget (h' : HF) (e : ∀ a x, h' a = some x → h a = some x) (kk : J l X g A nL k n h' pc lv st) : J l X g A nL k n h pc lv st := fun H locs ls h1 h2 h3 => kk H locs ls (fun a x q => h1 a x (e a x q)) h2 h3
theorem j_widen {k' n' : Nat} (hk : k ≤ k') (hn : n ≤ n') (kk : J l X g A nL k' n' h pc lv st) : J l X g A nL k n h pc lv st := fun H locs ls h1 h2 h3 => W.widen hk hn (kk H locs ls h1 h2 h3)
theorem Fx.xfix (F : Fx l X g A own cc nL ret f mc ms) : CallFix (xP X) (xM X) (xC X) cc nL (xS X) (xA X) wU own := ⟨F.1, F.2.1, F.2.2.1, F.2.2.2.1, F.2.2.2.2.1⟩
theorem Fx.ow (F : Fx l X g A own cc nL ret f mc ms) : (xS X).vm.findClass own = some (xM X).cls := F.2.2.2.1
theorem Fx.w (F : Fx l X g A own cc nL ret f mc ms) {w : Cond} (h : w ∈ wU) : w.before (xA X) (xS X) = true := F.2.2.2.2.1 w h
theorem Fx.K (F : Fx l X g A own cc nL ret f mc ms) : va_K g.1 vwCl (gT g) (xS X) := F.2.2.2.2.2.1
theorem Fx.ar (F : Fx l X g A own cc nL ret f mc ms) : ∀ q, (xS X).heap.size ≤ q → A q := F.2.2.2.2.2.2.1
theorem Fx.E (F : Fx l X g A own cc nL ret f mc ms) : EV A (xS X) (xS X).heap := F.2.2.2.2.2.2.2.1
theorem Fx.lk (F : Fx l X g A own cc nL ret f mc ms) : (xN X).locks = false := F.2.2.2.2.2.2.2.2.1
theorem Fx.rt (F : Fx l X g A own cc nL ret f mc ms) : (xN X).sig.returnType = ret := F.2.2.2.2.2.2.2.2.2.1
theorem Fx.fr (F : Fx l X g A own cc nL ret f mc ms) : f ≤ (xR X).frames := F.2.2.2.2.2.2.2.2.2.2.1
theorem Fx.lo (F : Fx l X g A own cc nL ret f mc ms) : 35 * f ≤ (xR X).locals := F.2.2.2.2.2.2.2.2.2.2.2.1
theorem Fx.ce (F : Fx l X g A own cc nL ret f mc ms) : (xR X).cells = mc := F.2.2.2.2.2.2.2.2.2.2.2.2.1
theorem Fx.sl (F : Fx l X g A own cc nL ret f mc ms) : (xR X).slots = ms := F.2.2.2.2.2.2.2.2.2.2.2.2.2
theorem HX.p1 {H : Heap} (h1 : HX g h A H) {a : Nat} {e : va_E} (ha : h a = some e) : va_P g.1 vwCl [(a, e)] H := fun i q hq => by
  cases i with
  | zero => cases hq; exact (h1 a e ha).1
  | succ i => simp at hq
theorem HX.up {H H1 : Heap} (h1 : HX g h A H) {a : Nat} {e : va_E} (hA : A a) (he : va_at g.1 vwCl (a, e) H1) (ho : ∀ q : Nat, q ≠ a → H1[q]? = H[q]?) : HX g (hUp h a e) A H1 := fun b x hb => by
  by_cases hba : b = a
  · subst hba
    rw [hUp_s] at hb
    cases hb
    exact ⟨he, hA⟩
  · rw [hUp_n hba] at hb
    obtain ⟨q1, q2⟩ := h1 b x hb
    exact ⟨q1.kept (ho b hba), q2⟩
/-- a new cell -/
theorem HX.nw {H H1 : Heap} (h1 : HX g h A H) {e : va_E} (hA : A H.size) (he : va_at g.1 vwCl (H.size, e) H1) (ho : ∀ q : Nat, q < H.size → H1[q]? = H[q]?) : HX g (hUp h H.size e) A H1 := fun b x hb => by
  by_cases hba : b = H.size
  · subst hba
    rw [hUp_s] at hb
    cases hb
    exact ⟨he, hA⟩
  · rw [hUp_n hba] at hb
    obtain ⟨q1, q2⟩ := h1 b x hb
    exact ⟨q1.kept (ho b q1.lt), q2⟩
theorem HX.fresh {H : Heap} (h1 : HX g h A H) : h H.size = none := by
  cases e : h H.size with
  | none => rfl
  | some x => exact absurd (h1 _ x e).1.lt (Nat.lt_irrefl _)

theorem j_iconst (F : Fx l X g A own cc nL ret f mc ms) {z : Int} {v : Int32} (hdg : decode cc pc = .ok (.iconst z, 1)) (hv : Int32.ofInt z = v) (kk : J l X g A nL k n h (pc + 1) lv (.int v :: st)) : J l X g A nL k n h pc lv st := fun H locs ls h1 h2 h3 => lv_iconst F.1 F.2.1 hdg hv (kk H locs ls h1 h2 h3)
theorem j_bipush (F : Fx l X g A own cc nL ret f mc ms) {z : Int} {v : Int32} (hdg : decode cc pc = .ok (.bipush z, 2)) (hv : (Int8.ofInt z).toInt32 = v) (kk : J l X g A nL k n h (pc + 2) lv (.int v :: st)) : J l X g A nL k n h pc lv st := fun H locs ls h1 h2 h3 => lv_bipush F.1 F.2.1 hdg hv (kk H locs ls h1 h2 h3)
theorem j_sipush (F : Fx l X g A own cc nL ret f mc ms) {z : Int} {v : Int32} (hdg : decode cc pc = .ok (.sipush z, 3)) (hv : (Int16.ofInt z).toInt32 = v) (kk : J l X g A nL k n h (pc + 3) lv (.int v :: st)) : J l X g A nL k n h pc lv st := fun H locs ls h1 h2 h3 => lv_sipush F.1 F.2.1 hdg hv (kk H locs ls h1 h2 h3)
theorem j_lconst (F : Fx l X g A own cc nL ret f mc ms) {z : Fin 2} {v : Int64} (hdg : decode cc pc = .ok (.lconst z, 1)) (hv : Int64.ofNat (z : Nat) = v) (kk : J l X g A nL k n h (pc + 1) lv (.long v :: st)) : J l X g A nL k n h pc lv st := fun H locs ls h1 h2 h3 => lv_lconst F.1 F.2.1 hdg hv (kk H locs ls h1 h2 h3)
theorem j_iload_n (F : Fx l X g A own cc nL ret f mc ms) {i : Fin 4} {x : Int32} (hdg : decode cc pc = .ok (.iload_n i, 1)) (hl : lget lv (i : Nat) = some (.int x)) (kk : J l X g A nL k n h (pc + 1) lv (.int x :: st)) : J l X g A nL k n h pc lv st := fun H locs ls h1 h2 h3 => lv_iload_n F.1 F.2.1 hdg rfl (lget_at h3 hl) (kk H locs ls h1 h2 h3)
theorem j_iload (F : Fx l X g A own cc nL ret f mc ms) {i : Nat} {x : Int32} (hdg : decode cc pc = .ok (.iload i, 2)) (hl : lget lv i = some (.int x)) (kk : J l X g A nL k n h (pc + 2) lv (.int x :: st)) : J l X g A nL k n h pc lv st := fun H locs ls h1 h2 h3 => lv_iload F.1 F.2.1 hdg (lget_at h3 hl) (kk H locs ls h1 h2 h3)
theorem j_aload_n (F : Fx l X g A own cc nL ret f mc ms) {i : Fin 4} {x : Nat} (hdg : decode cc pc = .ok (.aload_n i, 1)) (hl : lget lv (i : Nat) = some (.ref x)) (kk : J l X g A nL k n h (pc + 1) lv (.ref x :: st)) : J l X g A nL k n h pc lv st := fun H locs ls h1 h2 h3 => lv_aload_n F.1 F.2.1 hdg rfl (lget_at h3 hl) (kk H locs ls h1 h2 h3)
theorem j_aload (F : Fx l X g A own cc nL ret f mc ms) {i : Nat} {x : Nat} (hdg : decode cc pc = .ok (.aload i, 2)) (hl : lget lv i = some (.ref x)) (kk : J l X g A nL k n h (pc + 2) lv (.ref x :: st)) : J l X g A nL k n h pc lv st := fun H locs ls h1 h2 h3 => lv_aload F.1 F.2.1 hdg (lget_at h3 hl) (kk H locs ls h1 h2 h3)
theorem j_aload_nN (F : Fx l X g A own cc nL ret f mc ms) {i : Fin 4} (hdg : decode cc pc = .ok (.aload_n i, 1)) (hl : lget lv (i : Nat) = some .null) (kk : J l X g A nL k n h (pc + 1) lv (.null :: st)) : J l X g A nL k n h pc lv st := fun H locs ls h1 h2 h3 => lv_aload_nN F.1 F.2.1 hdg rfl (lget_at h3 hl) (kk H locs ls h1 h2 h3)
theorem j_aloadN (F : Fx l X g A own cc nL ret f mc ms) {i : Nat} (hdg : decode cc pc = .ok (.aload i, 2)) (hl : lget lv i = some .null) (kk : J l X g A nL k n h (pc + 2) lv (.null :: st)) : J l X g A nL k n h pc lv st := fun H locs ls h1 h2 h3 => lv_aloadN F.1 F.2.1 hdg (lget_at h3 hl) (kk H locs ls h1 h2 h3)
theorem j_aload_nq (F : Fx l X g A own cc nL ret f mc ms) {i : Fin 4} {x : Option Nat} (hdg : decode cc pc = .ok (.aload_n i, 1)) (hl : lget lv (i : Nat) = some (va_rf x)) (kk : J l X g A nL k n h (pc + 1) lv (va_rf x :: st)) : J l X g A nL k n h pc lv st := by
  cases x with
  | none => exact j_aload_nN F hdg hl kk
  | some a => exact j_aload_n F hdg hl kk
theorem j_aloadq (F : Fx l X g A own cc nL ret f mc ms) {i : Nat} {x : Option Nat} (hdg : decode cc pc = .ok (.aload i, 2)) (hl : lget lv i = some (va_rf x)) (kk : J l X g A nL k n h (pc + 2) lv (va_rf x :: st)) : J l X g A nL k n h pc lv st := by
  cases x with
  | none => exact j_aloadN F hdg hl kk
  | some a => exact j_aload F hdg hl kk
theorem j_istore_n (F : Fx l X g A own cc nL ret f mc ms) {i : Fin 4} {x : Int32} (hdg : decode cc pc = .ok (.istore_n i, 1)) (hi : (i : Nat) < nL) (kk : J l X g A nL k n h (pc + 1) (lset lv (i : Nat) (.int x)) st) : J l X g A nL k n h pc lv (.int x :: st) := fun H locs ls h1 h2 h3 => lv_istore_n F.1 F.2.1 hdg rfl h3.1 hi rfl (fun ls h4 => kk H locs ls h1 h2 (lset_ok h3.2 rfl h4))
theorem j_istore (F : Fx l X g A own cc nL ret f mc ms) {i : Nat} {x : Int32} (hdg : decode cc pc = .ok (.istore i, 2)) (hi : i < nL) (kk : J l X g A nL k n h (pc + 2) (lset lv i (.int x)) st) : J l X g A nL k n h pc lv (.int x :: st) := fun H locs ls h1 h2 h3 => lv_istore F.1 F.2.1 hdg h3.1 hi rfl (fun ls h4 => kk H locs ls h1 h2 (lset_ok h3.2 rfl h4))
theorem j_astore_n (F : Fx l X g A own cc nL ret f mc ms) {i : Fin 4} {x : Nat} (hdg : decode cc pc = .ok (.astore_n i, 1)) (hi : (i : Nat) < nL) (kk : J l X g A nL k n h (pc + 1) (lset lv (i : Nat) (.ref x)) st) : J l X g A nL k n h pc lv (.ref x :: st) := fun H locs ls h1 h2 h3 => lv_astore_n F.1 F.2.1 hdg rfl h3.1 hi rfl (fun ls h4 => kk H locs ls h1 h2 (lset_ok h3.2 rfl h4))
theorem j_astore (F : Fx l X g A own cc nL ret f mc ms) {i : Nat} {x : Nat} (hdg : decode cc pc = .ok (.astore i, 2)) (hi : i < nL) (kk : J l X g A nL k n h (pc + 2) (lset lv i (.ref x)) st) : J l X g A nL k n h pc lv (.ref x :: st) := fun H locs ls h1 h2 h3 => lv_astore F.1 F.2.1 hdg h3.1 hi rfl (fun ls h4 => kk H locs ls h1 h2 (lset_ok h3.2 rfl h4))
theorem j_astore_nN (F : Fx l X g A own cc nL ret f mc ms) {i : Fin 4}  (hdg : decode cc pc = .ok (.astore_n i, 1)) (hi : (i : Nat) < nL) (kk : J l X g A nL k n h (pc + 1) (lset lv (i : Nat) (.null)) st) : J l X g A nL k n h pc lv (.null :: st) := fun H locs ls h1 h2 h3 => lv_astore_nN F.1 F.2.1 hdg rfl h3.1 hi rfl (fun ls h4 => kk H locs ls h1 h2 (lset_ok h3.2 rfl h4))
theorem j_astoreN (F : Fx l X g A own cc nL ret f mc ms) {i : Nat}  (hdg : decode cc pc = .ok (.astore i, 2)) (hi : i < nL) (kk : J l X g A nL k n h (pc + 2) (lset lv i (.null)) st) : J l X g A nL k n h pc lv (.null :: st) := fun H locs ls h1 h2 h3 => lv_astoreN F.1 F.2.1 hdg h3.1 hi rfl (fun ls h4 => kk H locs ls h1 h2 (lset_ok h3.2 rfl h4))
theorem j_astore_nq (F : Fx l X g A own cc nL ret f mc ms) {i : Fin 4} {x : Option Nat} (hdg : decode cc pc = .ok (.astore_n i, 1)) (hi : (i : Nat) < nL) (kk : J l X g A nL k n h (pc + 1) (lset lv (i : Nat) (va_rf x)) st) : J l X g A nL k n h pc lv (va_rf x :: st) := by
  cases x with
  | none => exact j_astore_nN F hdg hi kk
  | some a => exact j_astore_n F hdg hi kk
theorem j_astoreq (F : Fx l X g A own cc nL ret f mc ms) {i : Nat} {x : Option Nat} (hdg : decode cc pc = .ok (.astore i, 2)) (hi : i < nL) (kk : J l X g A nL k n h (pc + 2) (lset lv i (va_rf x)) st) : J l X g A nL k n h pc lv (va_rf x :: st) := by
  cases x with
  | none => exact j_astoreN F hdg hi kk
  | some a => exact j_astore F hdg hi kk
theorem j_iinc (F : Fx l X g A own cc nL ret f mc ms) {i : Nat} {z : Int} {x v : Int32} (hdg : decode cc pc = .ok (.iinc i z, 3)) (hl : lget lv i = some (.int x)) (hv : x + Int32.ofInt z = v) (hi : i < nL) (kk : J l X g A nL k n h (pc + 3) (lset lv i (.int v)) st) : J l X g A nL k n h pc lv st := fun H locs ls h1 h2 h3 => by
  obtain ⟨j, hj⟩ := List.getElem?_of_mem (lget_mem hl)
  exact lv_iinc F.1 F.2.1 hdg h3.1 hj hv hi rfl (fun ls h4 => kk H locs ls h1 h2 (lset_ok h3.2 rfl h4))
theorem j_iadd (F : Fx l X g A own cc nL ret f mc ms) {x y : Int32} (hdg : decode cc pc = .ok (.iadd, 1)) (kk : J l X g A nL k n h (pc + 1) lv (.int (x + y) :: st)) : J l X g A nL k n h pc lv (.int y :: .int x :: st) := fun H locs ls h1 h2 h3 => lv_iadd F.1 F.2.1 hdg (kk H locs ls h1 h2 h3)
theorem j_isub (F : Fx l X g A own cc nL ret f mc ms) {x y : Int32} (hdg : decode cc pc = .ok (.isub, 1)) (kk : J l X g A nL k n h (pc + 1) lv (.int (x - y) :: st)) : J l X g A nL k n h pc lv (.int y :: .int x :: st) := fun H locs ls h1 h2 h3 => lv_isub F.1 F.2.1 hdg (kk H locs ls h1 h2 h3)
theorem j_imul (F : Fx l X g A own cc nL ret f mc ms) {x y : Int32} (hdg : decode cc pc = .ok (.imul, 1)) (kk : J l X g A nL k n h (pc + 1) lv (.int (x * y) :: st)) : J l X g A nL k n h pc lv (.int y :: .int x :: st) := fun H locs ls h1 h2 h3 => lv_imul F.1 F.2.1 hdg (kk H locs ls h1 h2 h3)
theorem j_iand (F : Fx l X g A own cc nL ret f mc ms) {x y : Int32} (hdg : decode cc pc = .ok (.iand, 1)) (kk : J l X g A nL k n h (pc + 1) lv (.int (x &&& y) :: st)) : J l X g A nL k n h pc lv (.int y :: .int x :: st) := fun H locs ls h1 h2 h3 => lv_iand F.1 F.2.1 hdg (kk H locs ls h1 h2 h3)
theorem j_ior (F : Fx l X g A own cc nL ret f mc ms) {x y : Int32} (hdg : decode cc pc = .ok (.ior, 1)) (kk : J l X g A nL k n h (pc + 1) lv (.int (x ||| y) :: st)) : J l X g A nL k n h pc lv (.int y :: .int x :: st) := fun H locs ls h1 h2 h3 => lv_ior F.1 F.2.1 hdg (kk H locs ls h1 h2 h3)
theorem j_idiv (F : Fx l X g A own cc nL ret f mc ms) {x y : Int32} (hdg : decode cc pc = .ok (.idiv, 1)) (hne : ¬ y = 0) (kk : J l X g A nL k n h (pc + 1) lv (.int (x / y) :: st)) : J l X g A nL k n h pc lv (.int y :: .int x :: st) := fun H locs ls h1 h2 h3 => lv_idiv F.1 F.2.1 hdg hne (kk H locs ls h1 h2 h3)
theorem j_ishl (F : Fx l X g A own cc nL ret f mc ms) {x y : Int32} (hdg : decode cc pc = .ok (.ishl, 1)) (kk : J l X g A nL k n h (pc + 1) lv (.int (x <<< (y &&& 31)) :: st)) : J l X g A nL k n h pc lv (.int y :: .int x :: st) := fun H locs ls h1 h2 h3 => lv_ishl F.1 F.2.1 hdg (kk H locs ls h1 h2 h3)
theorem j_ishr (F : Fx l X g A own cc nL ret f mc ms) {x y : Int32} (hdg : decode cc pc = .ok (.ishr, 1)) (kk : J l X g A nL k n h (pc + 1) lv (.int (x >>> (y &&& 31)) :: st)) : J l X g A nL k n h pc lv (.int y :: .int x :: st) := fun H locs ls h1 h2 h3 => lv_ishr F.1 F.2.1 hdg (kk H locs ls h1 h2 h3)
theorem j_iushr (F : Fx l X g A own cc nL ret f mc ms) {x y v : Int32} (hdg : decode cc pc = .ok (.iushr, 1)) (hv : (x.toUInt32 >>> (y.toUInt32 &&& Int32.toUInt32 31)).toInt32 = v) (kk : J l X g A nL k n h (pc + 1) lv (.int v :: st)) : J l X g A nL k n h pc lv (.int y :: .int x :: st) := fun H locs ls h1 h2 h3 => lv_iushr F.1 F.2.1 hdg hv (kk H locs ls h1 h2 h3)
theorem j_i2l (F : Fx l X g A own cc nL ret f mc ms) {x : Int32} (hdg : decode cc pc = .ok (.i2l, 1)) (kk : J l X g A nL k n h (pc + 1) lv (.long x.toInt64 :: st)) : J l X g A nL k n h pc lv (.int x :: st) := fun H locs ls h1 h2 h3 => lv_i2l F.1 F.2.1 hdg rfl (kk H locs ls h1 h2 h3)
theorem j_dup (F : Fx l X g A own cc nL ret f mc ms) {va : Value} (hdg : decode cc pc = .ok (.dup, 1)) (hva : va.category = 1) (kk : J l X g A nL k n h (pc + 1) lv (va :: va :: st)) : J l X g A nL k n h pc lv (va :: st) := fun H locs ls h1 h2 h3 => lv_dup F.1 F.2.1 hdg hva (kk H locs ls h1 h2 h3)
theorem j_dup2_11 (F : Fx l X g A own cc nL ret f mc ms) {va vb : Value} (hdg : decode cc pc = .ok (.dup2, 1)) (hva : va.category = 1) (hvb : vb.category = 1) (kk : J l X g A nL k n h (pc + 1) lv (va :: vb :: va :: vb :: st)) : J l X g A nL k n h pc lv (va :: vb :: st) := fun H locs ls h1 h2 h3 => lv_dup2_11 F.1 F.2.1 hdg hva hvb (kk H locs ls h1 h2 h3)
theorem j_pop (F : Fx l X g A own cc nL ret f mc ms) {va : Value} (hdg : decode cc pc = .ok (.pop, 1)) (hva : va.category = 1) (kk : J l X g A nL k n h (pc + 1) lv st) : J l X g A nL k n h pc lv (va :: st) := fun H locs ls h1 h2 h3 => lv_pop F.1 F.2.1 hdg hva (kk H locs ls h1 h2 h3)
theorem j_lcmp (F : Fx l X g A own cc nL ret f mc ms) {x y : Int64} (hdg : decode cc pc = .ok (.lcmp, 1)) (kk : J l X g A nL k n h (pc + 1) lv (.int (lg_cmp x y) :: st)) : J l X g A nL k n h pc lv (.long y :: .long x :: st) := fun H locs ls h1 h2 h3 => W.lcmp F.1 F.2.1 hdg (kk H locs ls h1 h2 h3)
/-- a number gets another face -/
theorem j_int {x y : Int32} (e : x = y) (kk : J l X g A nL k n h pc lv (.int y :: st)) : J l X g A nL k n h pc lv (.int x :: st) := by rw [e]; exact kk
theorem j_goto (F : Fx l X g A own cc nL ret f mc ms) {off : Int} (tgt : Nat) (hdg : decode cc pc = .ok (.goto off, 3)) (ht : (pc : Int) + off = (tgt : Int)) (kk : J l X g A nL k n h tgt lv st) : J l X g A nL k n h pc lv st := fun H locs ls h1 h2 h3 => lv_goto F.1 F.2.1 hdg ht (kk H locs ls h1 h2 h3)
theorem j_if_eq (F : Fx l X g A own cc nL ret f mc ms) {x : Int32} {off : Int} (tgt : Nat) (hdg : decode cc pc = .ok (.ifCond .eq off, 3)) (ht : (pc : Int) + off = (tgt : Int)) (kt : x = 0 → J l X g A nL k n h tgt lv st) (kf : ¬ x = 0 → J l X g A nL k n h (pc + 3) lv st) : J l X g A nL k n h pc lv (.int x :: st) := fun H locs ls h1 h2 h3 => lv_if_eq F.1 F.2.1 hdg ht (fun c => kt c H locs ls h1 h2 h3) (fun c => kf c H locs ls h1 h2 h3)
theorem j_icmp_eq (F : Fx l X g A own cc nL ret f mc ms) {x y : Int32} {off : Int} (tgt : Nat) (hdg : decode cc pc = .ok (.if_icmp .eq off, 3)) (ht : (pc : Int) + off = (tgt : Int)) (kt : x = y → J l X g A nL k n h tgt lv st) (kf : ¬ x = y → J l X g A nL k n h (pc + 3) lv st) : J l X g A nL k n h pc lv (.int y :: .int x :: st) := fun H locs ls h1 h2 h3 => lv_icmp_eq F.1 F.2.1 hdg ht (fun c => kt c H locs ls h1 h2 h3) (fun c => kf c H locs ls h1 h2 h3)
theorem j_if_ne (F : Fx l X g A own cc nL ret f mc ms) {x : Int32} {off : Int} (tgt : Nat) (hdg : decode cc pc = .ok (.ifCond .ne off, 3)) (ht : (pc : Int) + off = (tgt : Int)) (kt : ¬ x = 0 → J l X g A nL k n h tgt lv st) (kf : x = 0 → J l X g A nL k n h (pc + 3) lv st) : J l X g A nL k n h pc lv (.int x :: st) := fun H locs ls h1 h2 h3 => lv_if_ne F.1 F.2.1 hdg ht (fun c => kt c H locs ls h1 h2 h3) (fun c => kf c H locs ls h1 h2 h3)
theorem j_icmp_ne (F : Fx l X g A own cc nL ret f mc ms) {x y : Int32} {off : Int} (tgt : Nat) (hdg : decode cc pc = .ok (.if_icmp .ne off, 3)) (ht : (pc : Int) + off = (tgt : Int)) (kt : ¬ x = y → J l X g A nL k n h tgt lv st) (kf : x = y → J l X g A nL k n h (pc + 3) lv st) : J l X g A nL k n h pc lv (.int y :: .int x :: st) := fun H locs ls h1 h2 h3 => lv_icmp_ne F.1 F.2.1 hdg ht (fun c => kt c H locs ls h1 h2 h3) (fun c => kf c H locs ls h1 h2 h3)
theorem j_if_lt (F : Fx l X g A own cc nL ret f mc ms) {x : Int32} {off : Int} (tgt : Nat) (hdg : decode cc pc = .ok (.ifCond .lt off, 3)) (ht : (pc : Int) + off = (tgt : Int)) (kt : x < 0 → J l X g A nL k n h tgt lv st) (kf : ¬ x < 0 → J l X g A nL k n h (pc + 3) lv st) : J l X g A nL k n h pc lv (.int x :: st) := fun H locs ls h1 h2 h3 => lv_if_lt F.1 F.2.1 hdg ht (fun c => kt c H locs ls h1 h2 h3) (fun c => kf c H locs ls h1 h2 h3)
theorem j_icmp_lt (F : Fx l X g A own cc nL ret f mc ms) {x y : Int32} {off : Int} (tgt : Nat) (hdg : decode cc pc = .ok (.if_icmp .lt off, 3)) (ht : (pc : Int) + off = (tgt : Int)) (kt : x < y → J l X g A nL k n h tgt lv st) (kf : ¬ x < y → J l X g A nL k n h (pc + 3) lv st) : J l X g A nL k n h pc lv (.int y :: .int x :: st) := fun H locs ls h1 h2 h3 => lv_icmp_lt F.1 F.2.1 hdg ht (fun c => kt c H locs ls h1 h2 h3) (fun c => kf c H locs ls h1 h2 h3)
theorem j_if_ge (F : Fx l X g A own cc nL ret f mc ms) {x : Int32} {off : Int} (tgt : Nat) (hdg : decode cc pc = .ok (.ifCond .ge off, 3)) (ht : (pc : Int) + off = (tgt : Int)) (kt : 0 ≤ x → J l X g A nL k n h tgt lv st) (kf : ¬ 0 ≤ x → J l X g A nL k n h (pc + 3) lv st) : J l X g A nL k n h pc lv (.int x :: st) := fun H locs ls h1 h2 h3 => lv_if_ge F.1 F.2.1 hdg ht (fun c => kt c H locs ls h1 h2 h3) (fun c => kf c H locs ls h1 h2 h3)
theorem j_icmp_ge (F : Fx l X g A own cc nL ret f mc ms) {x y : Int32} {off : Int} (tgt : Nat) (hdg : decode cc pc = .ok (.if_icmp .ge off, 3)) (ht : (pc : Int) + off = (tgt : Int)) (kt : y ≤ x → J l X g A nL k n h tgt lv st) (kf : ¬ y ≤ x → J l X g A nL k n h (pc + 3) lv st) : J l X g A nL k n h pc lv (.int y :: .int x :: st) := fun H locs ls h1 h2 h3 => lv_icmp_ge F.1 F.2.1 hdg ht (fun c => kt c H locs ls h1 h2 h3) (fun c => kf c H locs ls h1 h2 h3)
theorem j_if_gt (F : Fx l X g A own cc nL ret f mc ms) {x : Int32} {off : Int} (tgt : Nat) (hdg : decode cc pc = .ok (.ifCond .gt off, 3)) (ht : (pc : Int) + off = (tgt : Int)) (kt : 0 < x → J l X g A nL k n h tgt lv st) (kf : ¬ 0 < x → J l X g A nL k n h (pc + 3) lv st) : J l X g A nL k n h pc lv (.int x :: st) := fun H locs ls h1 h2 h3 => lv_if_gt F.1 F.2.1 hdg ht (fun c => kt c H locs ls h1 h2 h3) (fun c => kf c H locs ls h1 h2 h3)
theorem j_icmp_gt (F : Fx l X g A own cc nL ret f mc ms) {x y : Int32} {off : Int} (tgt : Nat) (hdg : decode cc pc = .ok (.if_icmp .gt off, 3)) (ht : (pc : Int) + off = (tgt : Int)) (kt : y < x → J l X g A nL k n h tgt lv st) (kf : ¬ y < x → J l X g A nL k n h (pc + 3) lv st) : J l X g A nL k n h pc lv (.int y :: .int x :: st) := fun H locs ls h1 h2 h3 => lv_icmp_gt F.1 F.2.1 hdg ht (fun c => kt c H locs ls h1 h2 h3) (fun c => kf c H locs ls h1 h2 h3)
theorem j_if_le (F : Fx l X g A own cc nL ret f mc ms) {x : Int32} {off : Int} (tgt : Nat) (hdg : decode cc pc = .ok (.ifCond .le off, 3)) (ht : (pc : Int) + off = (tgt : Int)) (kt : x ≤ 0 → J l X g A nL k n h tgt lv st) (kf : ¬ x ≤ 0 → J l X g A nL k n h (pc + 3) lv st) : J l X g A nL k n h pc lv (.int x :: st) := fun H locs ls h1 h2 h3 => lv_if_le F.1 F.2.1 hdg ht (fun c => kt c H locs ls h1 h2 h3) (fun c => kf c H locs ls h1 h2 h3)
theorem j_icmp_le (F : Fx l X g A own cc nL ret f mc ms) {x y : Int32} {off : Int} (tgt : Nat) (hdg : decode cc pc = .ok (.if_icmp .le off, 3)) (ht : (pc : Int) + off = (tgt : Int)) (kt : x ≤ y → J l X g A nL k n h tgt lv st) (kf : ¬ x ≤ y → J l X g A nL k n h (pc + 3) lv st) : J l X g A nL k n h pc lv (.int y :: .int x :: st) := fun H locs ls h1 h2 h3 => lv_icmp_le F.1 F.2.1 hdg ht (fun c => kt c H locs ls h1 h2 h3) (fun c => kf c H locs ls h1 h2 h3)
theorem j_ifnull (F : Fx l X g A own cc nL ret f mc ms) {x : Nat} {off : Int} (hdg : decode cc pc = .ok (.ifnull off, 3)) (kk : J l X g A nL k n h (pc + 3) lv st) : J l X g A nL k n h pc lv (.ref x :: st) := fun H locs ls h1 h2 h3 => lv_ifnull F.1 F.2.1 hdg (kk H locs ls h1 h2 h3)
theorem j_ifnonnull (F : Fx l X g A own cc nL ret f mc ms) {x : Nat} {off : Int} (tgt : Nat) (hdg : decode cc pc = .ok (.ifnonnull off, 3)) (ht : (pc : Int) + off = (tgt : Int)) (kk : J l X g A nL k n h tgt lv st) : J l X g A nL k n h pc lv (.ref x :: st) := fun H locs ls h1 h2 h3 => lv_ifnonnull F.1 F.2.1 hdg ht (kk H locs ls h1 h2 h3)
theorem j_ifnullN (F : Fx l X g A own cc nL ret f mc ms) {off : Int} (tgt : Nat) (hdg : decode cc pc = .ok (.ifnull off, 3)) (ht : (pc : Int) + off = (tgt : Int)) (kk : J l X g A nL k n h tgt lv st) : J l X g A nL k n h pc lv (.null :: st) := fun H locs ls h1 h2 h3 => lv_ifnullN F.1 F.2.1 hdg ht (kk H locs ls h1 h2 h3)
theorem j_ifnonnullN (F : Fx l X g A own cc nL ret f mc ms) {off : Int} (hdg : decode cc pc = .ok (.ifnonnull off, 3)) (kk : J l X g A nL k n h (pc + 3) lv st) : J l X g A nL k n h pc lv (.null :: st) := fun H locs ls h1 h2 h3 => lv_ifnonnullN F.1 F.2.1 hdg (kk H locs ls h1 h2 h3)
theorem j_acmp_eq (F : Fx l X g A own cc nL ret f mc ms) {rx ry : Option Nat} {off : Int} (tgt : Nat) (hdg : decode cc pc = .ok (.if_acmp .eq off, 3)) (ht : (pc : Int) + off = (tgt : Int)) (kt : rx = ry → J l X g A nL k n h tgt lv st) (kf : ¬ rx = ry → J l X g A nL k n h (pc + 3) lv st) : J l X g A nL k n h pc lv (va_rf ry :: va_rf rx :: st) := fun H locs ls h1 h2 h3 => lv_acmp_eq F.1 F.2.1 hdg ht (fun c => kt c H locs ls h1 h2 h3) (fun c => kf c H locs ls h1 h2 h3)
theorem j_acmp_ne (F : Fx l X g A own cc nL ret f mc ms) {rx ry : Option Nat} {off : Int} (tgt : Nat) (hdg : decode cc pc = .ok (.if_acmp .ne off, 3)) (ht : (pc : Int) + off = (tgt : Int)) (kt : ¬ rx = ry → J l X g A nL k n h tgt lv st) (kf : rx = ry → J l X g A nL k n h (pc + 3) lv st) : J l X g A nL k n h pc lv (va_rf ry :: va_rf rx :: st) := fun H locs ls h1 h2 h3 => lv_acmp_ne F.1 F.2.1 hdg ht (fun c => kt c H locs ls h1 h2 h3) (fun c => kf c H locs ls h1 h2 h3)
theorem j_null (F : Fx l X g A own cc nL ret f mc ms) (hdg : decode cc pc = .ok (.aconst_null, 1)) (kk : J l X g A nL k n h (pc + 1) lv (.null :: st)) : J l X g A nL k n h pc lv st := fun H locs ls h1 h2 h3 => lv_null F.1 F.2.1 hdg (kk H locs ls h1 h2 h3)
theorem j_ldc (F : Fx l X g A own cc nL ret f mc ms) {index : Nat} {v : Int32} (hw : Cond.constant own index v ∈ wU) (hdg : decode cc pc = .ok (.ldc index, 2)) (kk : J l X g A nL k n h (pc + 2) lv (.int v :: st)) : J l X g A nL k n h pc lv st := fun H locs ls h1 h2 h3 => lv_ldc F.1 F.2.1 F.ow (F.w hw) hdg (kk H locs ls h1 h2 h3)
theorem j_tableIn (F : Fx l X g A own cc nL ret f mc ms) {dflt lo hi : Int} {offs : Array Int} {len : Nat} {x : Int32} {off : Int} (tgt : Nat) (hdg : decode cc pc = .ok (.tableswitch dflt lo hi offs, len)) (q1 : ¬ x.toInt < lo) (q2 : ¬ hi < x.toInt) (ho : offs[(x.toInt - lo).toNat]? = some off) (ht : (pc : Int) + off = (tgt : Int)) (kk : J l X g A nL k n h tgt lv st) : J l X g A nL k n h pc lv (.int x :: st) := fun H locs ls h1 h2 h3 => lv_tableIn F.1 F.2.1 hdg q1 q2 ho ht (kk H locs ls h1 h2 h3)
theorem j_tableOut (F : Fx l X g A own cc nL ret f mc ms) {dflt lo hi : Int} {offs : Array Int} {len : Nat} {x : Int32} (tgt : Nat) (hdg : decode cc pc = .ok (.tableswitch dflt lo hi offs, len)) (hq : x.toInt < lo ∨ hi < x.toInt) (ht : (pc : Int) + dflt = (tgt : Int)) (kk : J l X g A nL k n h tgt lv st) : J l X g A nL k n h pc lv (.int x :: st) := fun H locs ls h1 h2 h3 => lv_tableOut F.1 F.2.1 hdg hq ht (kk H locs ls h1 h2 h3)
theorem j_lookup (F : Fx l X g A own cc nL ret f mc ms) {dflt : Int} {ps : Array (Int × Int)} {len : Nat} {x : Int32} {off : Int} (tgt : Nat) (hdg : decode cc pc = .ok (.lookupswitch dflt ps, len)) (hp : (ps.toList.zip (ps.toList.drop 1)).all (fun (a, next) => a.1 < next.1) = true) (ho : Op.lookupswitch.offset ps.toList dflt x.toInt = off) (ht : (pc : Int) + off = (tgt : Int)) (kk : J l X g A nL k n h tgt lv st) : J l X g A nL k n h pc lv (.int x :: st) := fun H locs ls h1 h2 h3 => lv_lookup F.1 F.2.1 hdg hp ho ht (kk H locs ls h1 h2 h3)
theorem j_objInit (F : Fx l X g A own cc nL ret f mc ms) {index : Nat} {a : Nat} (hf : 1 ≤ f) (hw : Cond.methodLink own index objectInit ∈ wU) (hr : (st.map fun v => v.category).sum ≤ 8) (hdg : decode cc pc = .ok (.invokespecial index, 3)) (kk : J l X g A nL k n h (pc + 3) lv st) : J l X g A nL k n h pc lv (.ref a :: st) := fun H locs ls h1 h2 h3 => by
  have q1 := F.fr
  have q2 := F.lo
  exact W.objInit F.1 F.2.1 F.ow (F.w hw) (F.w oi_inst) (F.w oi_code) rfl (h3.1.1.trans F.2.2.1.symm) rfl hdg (by omega) (by show 2 * 0 + _ + 12 ≤ _; omega) (kk H locs ls h1 h2 h3)
theorem j_get (F : Fx l X g A own cc nL ret f mc ms) {index ci i : Nat} {a : Nat} {fs : List Value} {v : Value} (hw : GW own index ci i) (ha : h a = some (.inr (ci, fs))) (hv : fs[i]? = some v) (hdg : decode cc pc = .ok (.getfield index, 3)) (kk : J l X g A nL k n h (pc + 3) lv (v :: st)) : J l X g A nL k n h pc lv (.ref a :: st) := fun H locs ls h1 h2 h3 => by
  obtain ⟨C, T, N, hc, hin, hk, hl⟩ := hw
  exact va_get F.1 F.2.1 F.2.2.2.2.1 hin F.ow F.K (h1.p1 ha) 0 rfl hc i hk (F.w hl) (fun _ q => q) hv hdg (kk H locs ls h1 h2 h3)
theorem j_getN (F : Fx l X g A own cc nL ret f mc ms) {index ci i : Nat} {a : Nat} {fs : List Value} {v : Value} (hw : GN own index ci i) (ha : h a = some (.inr (ci, fs))) (hv : fs[i]? = some v) (hdg : decode cc pc = .ok (.getfield index, 3)) (kk : J l X g A nL k n h (pc + 3) lv (v :: st)) : J l X g A nL k n h pc lv (.ref a :: st) := fun H locs ls h1 h2 h3 => by
  obtain ⟨C, T, N, hc, hin, hk, hl⟩ := hw
  exact va_getN F.1 F.2.1 F.2.2.2.2.1 hin F.ow F.K (h1.p1 ha) 0 rfl hc i hk (va_Nw.use (by rfl) (F.E.1 _ hl)) (fun _ q => q) hv hdg (kk H locs ls h1 h2 h3)
theorem j_put (F : Fx l X g A own cc nL ret f mc ms) {index ci i : Nat} {ty : FieldType} {a : Nat} {fs : List Value} {v : Value} (hw : PW own index ci i ty false) (ha : h a = some (.inr (ci, fs))) (hn : narrow ty v = v) (hfit : fits ty v = true) (hlen : i < fs.length) (hdg : decode cc pc = .ok (.putfield index, 3)) (kk : J l X g A nL k n (hUp h a (.inr (ci, fs.set i v))) (pc + 3) lv st) : J l X g A nL k n h pc lv (v :: .ref a :: st) := fun H locs ls h1 h2 h3 => by
  obtain ⟨C, T, N, ty0, hc, hin, hk, hl, hty, hnm, hfin, hC, hd⟩ := hw
  have hap := va_apart (own := own) F.2.2.2.2.1 hin ty0 hty hnm F.K hc
  obtain ⟨qa, qA⟩ := h1 a _ ha
  obtain ⟨r, e1, cell, q1, q2, q3, q4⟩ := qa
  have hr : r = (C, T, N) := Option.some.inj (e1.symm.trans hc)
  subst hr
  obtain ⟨hS, hfc, kC, hkC, hkind⟩ := F.K.1 ci _ hc
  obtain ⟨cf, kf, fi, fd, hi, hsl⟩ := hS i hk
  have hlay := F.2.2.2.2.1 _ (hin _ (u_in_lay hk))
  unfold u_lay at hlay
  rw [if_neg (by rw [hfin]; decide)] at hlay
  have hst := (u_facts hfc hkC (u_lays F.2.2.2.2.1 hin hk) hi).1
  have h6 := u_store hfc hkC hkind hlay hi hd hn hfit
  refine W.putK F.1 F.2.1 (f := fd) ⟨F.ow, F.w hl, ⟨_, _, _, hi⟩, hst⟩ (by rw [q2]; exact h6) q1 q3 (by rw [hsl]; exact k2_hasslot (q4 i hk)) rfl rfl hdg fun H' e1 e2 e3 => ?_
  rw [hsl] at e1 ⊢
  exact kk H' _ ls (h1.up qA ⟨_, hc, t_OB.to (V := updV (vp_V fs) i v) ⟨_, e1, q2, q3, t_set q4 hap hk v⟩ (fun j _ => vp_updV_set hlen v j)⟩ e3) (h2.put e2 e3 qA) h3
theorem j_putF (F : Fx l X g A own cc nL ret f mc ms) {index ci i : Nat} {ty : FieldType} {a : Nat} {fs : List Value} {v : Value} (hw : PW own index ci i ty true) {T : u_T} {N : Nat} (hin2 : (xN X).name = "<init>") (hci : vwCl[ci]? = some (own, T, N)) (ha : h a = some (.inr (ci, fs))) (hn : narrow ty v = v) (hfit : fits ty v = true) (hlen : i < fs.length) (hdg : decode cc pc = .ok (.putfield index, 3)) (kk : J l X g A nL k n (hUp h a (.inr (ci, fs.set i v))) (pc + 3) lv st) : J l X g A nL k n h pc lv (v :: .ref a :: st) := fun H locs ls h1 h2 h3 => by
  obtain ⟨C, T_, N_, ty0, hc, hin, hk, hl, hty, hnm, hfin, hC, hd⟩ := hw
  have hap := va_apart (own := own) F.2.2.2.2.1 hin ty0 hty hnm F.K hc
  obtain ⟨qa, qA⟩ := h1 a _ ha
  obtain ⟨r, e1, cell, q1, q2, q3, q4⟩ := qa
  have hr : r = (C, T_, N_) := Option.some.inj (e1.symm.trans hc)
  subst hr
  obtain ⟨hS, hfc, kC, hkC, hkind⟩ := F.K.1 ci _ hc
  obtain ⟨cf, kf, fi, fd, hi, hsl⟩ := hS i hk
  have hlay := F.2.2.2.2.1 _ (hin _ (u_in_lay hk))
  unfold u_lay at hlay
  rw [if_pos hfin] at hlay
  have hCo : C = own := by have := hc.symm.trans hci; simp at this; exact this.1
  have hst := (u_facts hfc hkC (u_lays F.2.2.2.2.1 hin hk) hi).1
  have hcf : (xM X).cls = cf := by
    obtain ⟨_, _, c', _, _, _, -, -, hf', -, -, -, hown2, -⟩ := Cond.laysFinal_spec hlay
    have e1 : c' = cf := by have := hi.symm.trans hf'; simp at this; exact this.1.symm
    rw [show (T_ i).1 = own by rw [hC]; exact hCo] at hown2
    rw [← e1]; exact Option.some.inj (F.ow.symm.trans hown2)
  have h6 := u_fits hfc hkC hkind (Or.inr hlay) hi hd hn hfit
  refine W.putFinK F.1 F.2.1 F.ow (F.w hl) hi hst hcf hin2 (by rw [q2]; exact h6) q1 q3 (by rw [hsl]; exact k2_hasslot (q4 i hk)) rfl rfl hdg fun H' e1 e2 e3 => ?_
  rw [hsl] at e1 ⊢
  exact kk H' _ ls (h1.up qA ⟨_, hc, t_OB.to (V := updV (vp_V fs) i v) ⟨_, e1, q2, q3, t_set q4 hap hk v⟩ (fun j _ => vp_updV_set hlen v j)⟩ e3) (h2.put e2 e3 qA) h3
theorem j_putN (F : Fx l X g A own cc nL ret f mc ms) {index ci i : Nat} {ty : FieldType} {a : Nat} {fs : List Value} {v : Value} (hw : PN own index ci i ty) (ha : h a = some (.inr (ci, fs))) (hn : narrow ty v = v) (hfit : fits ty v = true) (hlen : i < fs.length) (hdg : decode cc pc = .ok (.putfield index, 3)) (kk : J l X g A nL k n (hUp h a (.inr (ci, fs.set i v))) (pc + 3) lv st) : J l X g A nL k n h pc lv (v :: .ref a :: st) := fun H locs ls h1 h2 h3 => by
  obtain ⟨C, T, N, ty0, hc, hin, hk, hl, hty, hnm, hfin, hd⟩ := hw
  have hap := va_apart (own := own) F.2.2.2.2.1 hin ty0 hty hnm F.K hc
  obtain ⟨qa, qA⟩ := h1 a _ ha
  obtain ⟨r, e1, cell, q1, q2, q3, q4⟩ := qa
  have hr : r = (C, T, N) := Option.some.inj (e1.symm.trans hc)
  subst hr
  obtain ⟨hS, hfc, kC, hkC, hkind⟩ := F.K.1 ci _ hc
  obtain ⟨cf, kf, fi, fd, hi, hsl⟩ := hS i hk
  have hlay := F.2.2.2.2.1 _ (hin _ (u_in_lay hk))
  unfold u_lay at hlay
  rw [if_neg (by rw [hfin]; decide)] at hlay
  have hst := (u_facts hfc hkC (u_lays F.2.2.2.2.1 hin hk) hi).1
  have h6 := u_store hfc hkC hkind hlay hi hd hn hfit
  refine va_WputK F.1 F.2.1 (f := fd) F.ow (va_Nw.use (by rfl) (F.E.1 _ hl)) hi hst (by rw [q2]; exact h6) q1 q3 (by rw [hsl]; exact k2_hasslot (q4 i hk)) rfl rfl hdg fun H' e1 e2 e3 => ?_
  rw [hsl] at e1 ⊢
  exact kk H' _ ls (h1.up qA ⟨_, hc, t_OB.to (V := updV (vp_V fs) i v) ⟨_, e1, q2, q3, t_set q4 hap hk v⟩ (fun j _ => vp_updV_set hlen v j)⟩ e3) (h2.put e2 e3 qA) h3
theorem j_iald (F : Fx l X g A own cc nL ret f mc ms) {a N : Nat} {r : Nat → Int32} {i : Int32} (ha : h a = some (aI g N r)) (hin : vp_in i N) (hdg : decode cc pc = .ok (.iaload, 1)) (kk : J l X g A nL k n h (pc + 1) lv (.int (r i.toNatClampNeg) :: st)) : J l X g A nL k n h pc lv (.int i :: .ref a :: st) := fun H locs ls h1 h2 h3 => va_iald F.1 F.2.1 F.K (h1.p1 ha) 0 0 rfl rfl hin hdg (kk H locs ls h1 h2 h3)
theorem j_lald (F : Fx l X g A own cc nL ret f mc ms) {a N : Nat} {r : Nat → Int64} {i : Int32} (ha : h a = some (aJ g N r)) (hin : vp_in i N) (hdg : decode cc pc = .ok (.laload, 1)) (kk : J l X g A nL k n h (pc + 1) lv (.long (r i.toNatClampNeg) :: st)) : J l X g A nL k n h pc lv (.int i :: .ref a :: st) := fun H locs ls h1 h2 h3 => va_lald F.1 F.2.1 F.K (h1.p1 ha) 0 4 rfl rfl hin hdg (kk H locs ls h1 h2 h3)
theorem j_aldR (F : Fx l X g A own cc nL ret f mc ms) {a N : Nat} {r : Nat → Option Nat} {i : Int32} (ha : h a = some (aR g N r)) (hin : vp_in i N) (hdg : decode cc pc = .ok (.aaload, 1)) (kk : J l X g A nL k n h (pc + 1) lv (va_rf (r i.toNatClampNeg) :: st)) : J l X g A nL k n h pc lv (.int i :: .ref a :: st) := fun H locs ls h1 h2 h3 => va_aldq F.1 F.2.1 F.K (h1.p1 ha) 0 1 rfl rfl hin hdg (kk H locs ls h1 h2 h3)
theorem j_aldE (F : Fx l X g A own cc nL ret f mc ms) {a N : Nat} {r : Nat → Option Nat} {i : Int32} (ha : h a = some (aE g N r)) (hin : vp_in i N) (hdg : decode cc pc = .ok (.aaload, 1)) (kk : J l X g A nL k n h (pc + 1) lv (va_rf (r i.toNatClampNeg) :: st)) : J l X g A nL k n h pc lv (.int i :: .ref a :: st) := fun H locs ls h1 h2 h3 => va_aldq F.1 F.2.1 F.K (h1.p1 ha) 0 2 rfl rfl hin hdg (kk H locs ls h1 h2 h3)
theorem j_aldII (F : Fx l X g A own cc nL ret f mc ms) {a N : Nat} {r : Nat → Option Nat} {i : Int32} (ha : h a = some (aII g N r)) (hin : vp_in i N) (hdg : decode cc pc = .ok (.aaload, 1)) (kk : J l X g A nL k n h (pc + 1) lv (va_rf (r i.toNatClampNeg) :: st)) : J l X g A nL k n h pc lv (.int i :: .ref a :: st) := fun H locs ls h1 h2 h3 => by
  have hlt : i.toNatClampNeg < N := Nat.not_le.mp fun q => hin (Or.inr q)
  exact W.aald (v := va_rf (r i.toNatClampNeg)) (ty := .array .int) F.1 F.2.1 ((h1 a _ ha).1) ((F.K.2 3 _ rfl).1 N (fun j => va_rf (r j))) rfl (fun q => by cases q) (by show ¬ (i < 0 ∨ (arrV _ _ _).slots.size ≤ _); rw [arrV_size]; exact hin) (by show (arrV _ _ _).slots[_]? = _; rw [arrV_read _ _ hlt]) rfl rfl hdg (kk H locs ls h1 h2 h3)
theorem j_iast (F : Fx l X g A own cc nL ret f mc ms) {a N : Nat} {r : Nat → Int32} {i : Int32} {x : Int32} (ha : h a = some (aI g N r)) (hin : vp_in i N) (hdg : decode cc pc = .ok (.iastore, 1)) (kk : J l X g A nL k n (hUp h a (aI g N (upd r i.toNatClampNeg x))) (pc + 1) lv st) : J l X g A nL k n h pc lv (.int x :: .int i :: .ref a :: st) := fun H locs ls h1 h2 h3 => by
  obtain ⟨qa, qA⟩ := h1 a _ ha
  refine W.iast F.1 F.2.1 qa ((F.K.2 0 _ rfl).1 N (fun j => .int (r j))) (fun q => by cases q) (by show ¬ (i < 0 ∨ (arrV _ _ _).slots.size ≤ _); rw [arrV_size]; exact hin) rfl rfl hdg fun H1 e z oq => ?_
  refine kk H1 _ ls (h1.up qA ?_ oq) (h2.put z oq qA) h3
  show H1[a]? = some (vp_cell _ _)
  rw [e]
  rw [vp_cell_i, vp_cell_i, arrV_store]
  congr 2
  funext q
  by_cases hq : q = i.toNatClampNeg
  · subst hq
    simp [updV, upd]
  · simp [updV, upd, hq]
theorem j_last (F : Fx l X g A own cc nL ret f mc ms) {a N : Nat} {r : Nat → Int64} {i : Int32} {x : Int64} (ha : h a = some (aJ g N r)) (hin : vp_in i N) (hdg : decode cc pc = .ok (.lastore, 1)) (kk : J l X g A nL k n (hUp h a (aJ g N (vp_updL r i.toNatClampNeg x))) (pc + 1) lv st) : J l X g A nL k n h pc lv (.long x :: .int i :: .ref a :: st) := fun H locs ls h1 h2 h3 => by
  obtain ⟨qa, qA⟩ := h1 a _ ha
  refine W.last F.1 F.2.1 qa ((F.K.2 4 _ rfl).1 N (fun j => .long (r j))) (fun q => by cases q) (by show ¬ (i < 0 ∨ (arrV _ _ _).slots.size ≤ _); rw [arrV_size]; exact hin) rfl rfl hdg fun H1 e z oq => ?_
  refine kk H1 _ ls (h1.up qA ?_ oq) (h2.put z oq qA) h3
  show H1[a]? = some (vp_cell _ _)
  rw [e]
  rw [vp_cell_l, vp_cell_l, arrV_store]
  congr 2
  funext q
  by_cases hq : q = i.toNatClampNeg
  · subst hq
    simp [updV, vp_updL]
  · simp [updV, vp_updL, hq]
theorem j_astR (F : Fx l X g A own cc nL ret f mc ms) {a N v : Nat} {r : Nat → Option Nat} {i : Int32} {vs : List Value} (ha : h a = some (aR g N r)) (hv : h v = some (.inr (6, vs))) (hin : vp_in i N) (hdg : decode cc pc = .ok (.aastore, 1)) (kk : J l X g A nL k n (hUp h a (aR g N (va_up r i.toNatClampNeg (some v)))) (pc + 1) lv st) : J l X g A nL k n h pc lv (.ref v :: .int i :: .ref a :: st) := fun H locs ls h1 h2 h3 => by
  obtain ⟨qa, qA⟩ := h1 a _ ha
  have hlt : i.toNatClampNeg < N := Nat.not_le.mp fun q => hin (Or.inr q)
  have h0 : ¬ i < 0 := fun q => hin (Or.inl q)
  obtain ⟨⟨r', hr', cellV, g1, g2, g3, -⟩, -⟩ := h1 v _ hv
  have hcls := (F.K.1 6 _ rfl).2
  obtain ⟨kA, comp, k1, k2, k3, -⟩ := (F.K.2 1 _ rfl).2
  have hcomp : comp = g.1.1 6 := Option.some.inj (k3.symm.trans hcls.1)
  subst hcomp
  obtain ⟨kC, hkC, -⟩ := hcls.2
  refine W.aast F.1 F.2.1 qa (fun q h => by cases h) (fun h => by cases h) k1 k2 rfl hkC ⟨h0, by show _ < (arrV _ _ _).slots.size; rw [arrV_size]; exact hlt⟩ g1 (fun q h => by rw [g3] at h; cases h) (by rw [g2]; exact hkC) (by rw [g2]; exact va_assign hcls) rfl rfl hdg fun H1 e z oq => ?_
  refine kk H1 _ ls (h1.up qA ?_ oq) (h2.put z oq qA) h3
  show H1[a]? = some (vp_cell _ _)
  rw [e]
  rw [vp_cell_q, vp_cell_q, arrV_store]
  congr 2
  funext q
  by_cases hq : q = i.toNatClampNeg
  · subst hq
    simp [updV, va_up, va_rf]
  · simp [updV, va_up, hq]
theorem j_astRN (F : Fx l X g A own cc nL ret f mc ms) {a N : Nat} {r : Nat → Option Nat} {i : Int32} (ha : h a = some (aR g N r)) (hin : vp_in i N) (hdg : decode cc pc = .ok (.aastore, 1)) (kk : J l X g A nL k n (hUp h a (aR g N (va_up r i.toNatClampNeg none))) (pc + 1) lv st) : J l X g A nL k n h pc lv (.null :: .int i :: .ref a :: st) := fun H locs ls h1 h2 h3 => by
  obtain ⟨qa, qA⟩ := h1 a _ ha
  refine va_WaastN (C := RX6) F.1 F.2.1 qa ((F.K.2 1 _ rfl).1 N (fun j => va_rf (r j))) (fun h => by cases h) (by show ¬ (i < 0 ∨ (arrV _ _ _).slots.size ≤ _); rw [arrV_size]; exact hin) rfl rfl hdg fun H1 e z oq => ?_
  refine kk H1 _ ls (h1.up qA ?_ oq) (h2.put z oq qA) h3
  show H1[a]? = some (vp_cell _ _)
  rw [e]
  rw [vp_cell_q, vp_cell_q, arrV_store]
  congr 2
  funext q
  by_cases hq : q = i.toNatClampNeg
  · subst hq
    simp [updV, va_up, va_rf]
  · simp [updV, va_up, hq]
theorem j_astRq (F : Fx l X g A own cc nL ret f mc ms) {a N : Nat} {x : Option Nat} {r : Nat → Option Nat} {i : Int32} (ha : h a = some (aR g N r)) (hv : ∀ v, x = some v → ∃ vs, h v = some (.inr (6, vs))) (hin : vp_in i N) (hdg : decode cc pc = .ok (.aastore, 1)) (kk : J l X g A nL k n (hUp h a (aR g N (va_up r i.toNatClampNeg x))) (pc + 1) lv st) : J l X g A nL k n h pc lv (va_rf x :: .int i :: .ref a :: st) := by
  cases x with
  | none => exact j_astRN F ha hin hdg kk
  | some v =>
    obtain ⟨vs, hvs⟩ := hv v rfl
    exact j_astR F ha hvs hin hdg kk
theorem j_astE (F : Fx l X g A own cc nL ret f mc ms) {a N v : Nat} {r : Nat → Option Nat} {i : Int32} {vs : List Value} (ha : h a = some (aE g N r)) (hv : h v = some (.inr (0, vs))) (hin : vp_in i N) (hdg : decode cc pc = .ok (.aastore, 1)) (kk : J l X g A nL k n (hUp h a (aE g N (va_up r i.toNatClampNeg (some v)))) (pc + 1) lv st) : J l X g A nL k n h pc lv (.ref v :: .int i :: .ref a :: st) := fun H locs ls h1 h2 h3 => by
  obtain ⟨qa, qA⟩ := h1 a _ ha
  have hlt : i.toNatClampNeg < N := Nat.not_le.mp fun q => hin (Or.inr q)
  have h0 : ¬ i < 0 := fun q => hin (Or.inl q)
  obtain ⟨⟨r', hr', cellV, g1, g2, g3, -⟩, -⟩ := h1 v _ hv
  have hcls := (F.K.1 0 _ rfl).2
  obtain ⟨kA, comp, k1, k2, k3, -⟩ := (F.K.2 2 _ rfl).2
  have hcomp : comp = g.1.1 0 := Option.some.inj (k3.symm.trans hcls.1)
  subst hcomp
  obtain ⟨kC, hkC, -⟩ := hcls.2
  refine W.aast F.1 F.2.1 qa (fun q h => by cases h) (fun h => by cases h) k1 k2 rfl hkC ⟨h0, by show _ < (arrV _ _ _).slots.size; rw [arrV_size]; exact hlt⟩ g1 (fun q h => by rw [g3] at h; cases h) (by rw [g2]; exact hkC) (by rw [g2]; exact va_assign hcls) rfl rfl hdg fun H1 e z oq => ?_
  refine kk H1 _ ls (h1.up qA ?_ oq) (h2.put z oq qA) h3
  show H1[a]? = some (vp_cell _ _)
  rw [e]
  rw [vp_cell_q, vp_cell_q, arrV_store]
  congr 2
  funext q
  by_cases hq : q = i.toNatClampNeg
  · subst hq
    simp [updV, va_up, va_rf]
  · simp [updV, va_up, hq]
theorem j_astEN (F : Fx l X g A own cc nL ret f mc ms) {a N : Nat} {r : Nat → Option Nat} {i : Int32} (ha : h a = some (aE g N r)) (hin : vp_in i N) (hdg : decode cc pc = .ok (.aastore, 1)) (kk : J l X g A nL k n (hUp h a (aE g N (va_up r i.toNatClampNeg none))) (pc + 1) lv st) : J l X g A nL k n h pc lv (.null :: .int i :: .ref a :: st) := fun H locs ls h1 h2 h3 => by
  obtain ⟨qa, qA⟩ := h1 a _ ha
  refine va_WaastN (C := RX0) F.1 F.2.1 qa ((F.K.2 2 _ rfl).1 N (fun j => va_rf (r j))) (fun h => by cases h) (by show ¬ (i < 0 ∨ (arrV _ _ _).slots.size ≤ _); rw [arrV_size]; exact hin) rfl rfl hdg fun H1 e z oq => ?_
  refine kk H1 _ ls (h1.up qA ?_ oq) (h2.put z oq qA) h3
  show H1[a]? = some (vp_cell _ _)
  rw [e]
  rw [vp_cell_q, vp_cell_q, arrV_store]
  congr 2
  funext q
  by_cases hq : q = i.toNatClampNeg
  · subst hq
    simp [updV, va_up, va_rf]
  · simp [updV, va_up, hq]
theorem j_astEq (F : Fx l X g A own cc nL ret f mc ms) {a N : Nat} {x : Option Nat} {r : Nat → Option Nat} {i : Int32} (ha : h a = some (aE g N r)) (hv : ∀ v, x = some v → ∃ vs, h v = some (.inr (0, vs))) (hin : vp_in i N) (hdg : decode cc pc = .ok (.aastore, 1)) (kk : J l X g A nL k n (hUp h a (aE g N (va_up r i.toNatClampNeg x))) (pc + 1) lv st) : J l X g A nL k n h pc lv (va_rf x :: .int i :: .ref a :: st) := by
  cases x with
  | none => exact j_astEN F ha hin hdg kk
  | some v =>
    obtain ⟨vs, hvs⟩ := hv v rfl
    exact j_astE F ha hvs hin hdg kk
theorem j_new (F : Fx l X g A own cc nL ret f mc ms) {index ci N : Nat} {C : String} {T : u_T} {ty : Nat → FieldType} {fs : List Value} (hty : ∀ i, i < N → parseFieldDescriptor (T i).2.2.1 = some (ty i)) (hin : ∀ w ∈ u_ws C T N, w ∈ wU) (hcw : Cond.classLink own index C ∈ wU) (hiw : Cond.instantiable C N ∈ wU) (hnw : Cond.initialized C ∈ wU) (hc : vwCl[ci]? = some (C, T, N)) (hfs : ∀ j, j < N → defaultValue (ty j) = vp_V fs j) (hcells : k + 1 ≤ mc) (hslots : n + N ≤ ms) (hdg : decode cc pc = .ok (.new index, 3))
    (kk : ∀ q : Nat, h q = none → A q → J l X g A nL (k + 1) (n + N) (hUp h q (.inr (ci, fs))) (pc + 3) lv (.ref q :: st)) : J l X g A nL k n h pc lv st := fun H locs ls h1 h2 h3 => by
  have hKn := F.K.1 ci _ hc
  refine W.newcK F.1 F.2.1 F.ow (F.w hcw) (F.w hiw) (F.w hnw) rfl hdg (by rw [F.ce]; exact hcells) (by rw [F.sl]; exact hslots) hKn.2.1 rfl fun H1 kC hkC e1 z1 o1 => ?_
  have qA : A H.size := F.ar _ h2.1
  exact kk H.size h1.fresh qA H1 locs ls (h1.nw qA ⟨_, hc, (u_born ty F.2.2.2.2.1 hin hKn hkC e1 hty).to hfs⟩ o1) ⟨Nat.le_trans h2.1 (by omega), fun x q1 q2 => (o1 x (Nat.lt_of_lt_of_le q1 h2.1)).trans (h2.2.1 x q1 q2), h2.2.2⟩ h3
theorem j_newaI (F : Fx l X g A own cc nL ret f mc ms) {x : Int32} {N : Nat} (hx : ¬ x < 0) (hN : x.toNatClampNeg = N) (hby : N * componentBytes .int ≤ 536870912) (hcells : k + 1 ≤ mc) (hslots : n + N ≤ ms) (hdg : decode cc pc = .ok (.newarray .int, 2))
    (kk : ∀ q : Nat, h q = none → A q → J l X g A nL (k + 1) (n + N) (hUp h q (aI g N (fun _ => 0))) (pc + 2) lv (.ref q :: st)) : J l X g A nL k n h pc lv (.int x :: st) := fun H locs ls h1 h2 h3 => by
  refine va_newaK F.1 F.2.1 (atype := .int) (F.w aw_int) rfl hdg rfl hx hN hby (by rw [F.ce]; exact hcells) (by rw [F.sl]; exact hslots) rfl fun H1 cA e1 z1 o1 hAr hNm => ?_
  have qA : A H.size := F.ar _ h2.1
  have hcA : cA = g.2.1 := Option.some.inj (hNm.symm.trans (F.K.2 0 _ rfl).2)
  subst hcA
  exact kk H.size h1.fresh qA H1 locs ls (h1.nw qA e1 o1) ⟨Nat.le_trans h2.1 (by omega), fun x q1 q2 => (o1 x (Nat.lt_of_lt_of_le q1 h2.1)).trans (h2.2.1 x q1 q2), h2.2.2⟩ h3
theorem j_newaJ (F : Fx l X g A own cc nL ret f mc ms) {x : Int32} {N : Nat} (hx : ¬ x < 0) (hN : x.toNatClampNeg = N) (hby : N * componentBytes .long ≤ 536870912) (hcells : k + 1 ≤ mc) (hslots : n + N ≤ ms) (hdg : decode cc pc = .ok (.newarray .long, 2))
    (kk : ∀ q : Nat, h q = none → A q → J l X g A nL (k + 1) (n + N) (hUp h q (aJ g N (fun _ => 0))) (pc + 2) lv (.ref q :: st)) : J l X g A nL k n h pc lv (.int x :: st) := fun H locs ls h1 h2 h3 => by
  refine va_newaK F.1 F.2.1 (atype := .long) (F.w aw_long) rfl hdg rfl hx hN hby (by rw [F.ce]; exact hcells) (by rw [F.sl]; exact hslots) rfl fun H1 cA e1 z1 o1 hAr hNm => ?_
  have qA : A H.size := F.ar _ h2.1
  have hcA : cA = g.2.2.2.2.2 := Option.some.inj (hNm.symm.trans (F.K.2 4 _ rfl).2)
  subst hcA
  exact kk H.size h1.fresh qA H1 locs ls (h1.nw qA e1 o1) ⟨Nat.le_trans h2.1 (by omega), fun x q1 q2 => (o1 x (Nat.lt_of_lt_of_le q1 h2.1)).trans (h2.2.1 x q1 q2), h2.2.2⟩ h3
theorem j_newaR (F : Fx l X g A own cc nL ret f mc ms) {index : Nat} {x : Int32} {N : Nat} (hcw : Cond.classLink own index RX6 ∈ wU) (hx : ¬ x < 0) (hN : x.toNatClampNeg = N) (hby : N * 4 ≤ 536870912) (hcells : k + 1 ≤ mc) (hslots : n + N ≤ ms) (hdg : decode cc pc = .ok (.anewarray index, 3))
    (kk : ∀ q : Nat, h q = none → A q → J l X g A nL (k + 1) (n + N) (hUp h q (aR g N (fun _ => none))) (pc + 3) lv (.ref q :: st)) : J l X g A nL k n h pc lv (.int x :: st) := fun H locs ls h1 h2 h3 => by
  subst hN
  refine W.anew F.1 F.2.1 F.ow (F.w hcw) (va_AO.use F.E.2.2.1) rfl hdg rfl hx hby (by rw [F.ce]; exact hcells) (by rw [F.sl]; exact hslots) fun cA kA comp f1 f2 f3 f4 => ?_
  generalize hH1 : H.push ({ cls := cA, slots := Array.replicate x.toNatClampNeg .null, vm := .none } : Cell) = H1
  have z1 : H1.size = H.size + 1 := by rw [← hH1, Array.size_push]
  have e1 : H1[H.size]? = some (arrV cA x.toNatClampNeg (fun _ => .null)) := by rw [← hH1, Array.getElem?_push_size, ← arrV_new]
  have o1 : ∀ q : Nat, q < H.size → H1[q]? = H[q]? := fun q hq => by rw [← hH1, Array.getElem?_push, if_neg (Nat.ne_of_lt hq)]
  have qA : A H.size := F.ar _ h2.1
  obtain ⟨kA', comp', k1, k2, k3, k4⟩ := (F.K.2 1 _ rfl).2
  have hcA : cA = g.2.2.1 := Option.some.inj (f1.symm.trans k4)
  subst hcA
  exact kk H.size h1.fresh qA H1 locs ls (h1.nw qA e1 o1) ⟨Nat.le_trans h2.1 (by omega), fun x q1 q2 => (o1 x (Nat.lt_of_lt_of_le q1 h2.1)).trans (h2.2.1 x q1 q2), h2.2.2⟩ h3
theorem j_newaE (F : Fx l X g A own cc nL ret f mc ms) {index : Nat} {x : Int32} {N : Nat} (hcw : Cond.classLink own index RX0 ∈ wU) (hx : ¬ x < 0) (hN : x.toNatClampNeg = N) (hby : N * 4 ≤ 536870912) (hcells : k + 1 ≤ mc) (hslots : n + N ≤ ms) (hdg : decode cc pc = .ok (.anewarray index, 3))
    (kk : ∀ q : Nat, h q = none → A q → J l X g A nL (k + 1) (n + N) (hUp h q (aE g N (fun _ => none))) (pc + 3) lv (.ref q :: st)) : J l X g A nL k n h pc lv (.int x :: st) := fun H locs ls h1 h2 h3 => by
  subst hN
  refine W.anew F.1 F.2.1 F.ow (F.w hcw) (va_AO.use F.E.2.2.2.1) rfl hdg rfl hx hby (by rw [F.ce]; exact hcells) (by rw [F.sl]; exact hslots) fun cA kA comp f1 f2 f3 f4 => ?_
  generalize hH1 : H.push ({ cls := cA, slots := Array.replicate x.toNatClampNeg .null, vm := .none } : Cell) = H1
  have z1 : H1.size = H.size + 1 := by rw [← hH1, Array.size_push]
  have e1 : H1[H.size]? = some (arrV cA x.toNatClampNeg (fun _ => .null)) := by rw [← hH1, Array.getElem?_push_size, ← arrV_new]
  have o1 : ∀ q : Nat, q < H.size → H1[q]? = H[q]? := fun q hq => by rw [← hH1, Array.getElem?_push, if_neg (Nat.ne_of_lt hq)]
  have qA : A H.size := F.ar _ h2.1
  obtain ⟨kA', comp', k1, k2, k3, k4⟩ := (F.K.2 2 _ rfl).2
  have hcA : cA = g.2.2.2.1 := Option.some.inj (f1.symm.trans k4)
  subst hcA
  exact kk H.size h1.fresh qA H1 locs ls (h1.nw qA e1 o1) ⟨Nat.le_trans h2.1 (by omega), fun x q1 q2 => (o1 x (Nat.lt_of_lt_of_le q1 h2.1)).trans (h2.2.1 x q1 q2), h2.2.2⟩ h3
end JR
end
section
section VXQ
variable {p : Program} {l : Launch} {e : Env} {R : Room} {s : State} {m : MethodId} {args : Array Value} {below : List Frame} {meth : Method} {c : Code} {H : Heap} {locs : List Loc} {cells slots : Nat} {Q : State → Prop}
variable {pc : Nat} {ls : Array Slot} {rest st0 : List Value} {a : Array Value} {A0 A1 : Nat → Prop} {H0 : Heap} {mc ms : Nat} {free : Addr → Prop}
theorem vx_callq {S SX : Type} {post : Option Nat → S → Prop} {px : SX → Prop} {B : S → State → Prop} {BX : String → SX → State → Prop} {AX : Nat → Prop} (hr : vx_Run p l e R s m args below meth c H locs cells slots mc ms (F0 m pc ls st0) rest (va_Qq post B A1 a) (vx_X px BX AX) free) (hS : va_S A0 H0 H locs) (hA : ∀ q, q < H.size → A1 q → A0 q) (hf : ∀ q, free q → A0 q) (hAX : ∀ q, q < H.size → AX q → A0 q)
    (kx : ∀ (E : String) (ce : Cell) (q9 : Addr) (u : SX) (t : State) (H1 : Heap) (locs1 : List Loc), t.heap = H1 → s.vm.Alike t.vm → px u → BX E u t → H.size ≤ H1.size → (∀ q : Nat, q < H.size → ¬ AX q → H1[q]? = H[q]?) → va_S A0 H0 H1 locs1 → H1[q9]? = some ce → ce.vm = .none → s.vm.findClass E = some ce.cls → vx_W p l e R s m args below meth c H1 locs1 (cells + mc) (slots + ms) Q (F0 m pc ls rest) q9)
    (kk : ∀ (r : Option Nat) (u : S) (t : State) (H1 : Heap) (locs1 : List Loc), t.heap = H1 → s.vm.Alike t.vm → post r u → B u t → H.size ≤ H1.size → (∀ q : Nat, q < H.size → ¬ A1 q → H1[q]? = H[q]?) → va_S A0 H0 H1 locs1 → W p l e R s m args below meth c H1 locs1 (cells + mc) (slots + ms) Q (F0 m (pc + 3) ls (va_rf r :: rest))) : W p l e R s m args below meth c H locs cells slots Q (F0 m pc ls st0) := by
  intro T hT X
  rcases hr T hT X with ⟨v, st₀, t, T', L, h0, X', hL, e1, e2, ⟨⟨r, u, hv, hp, hb⟩, hF⟩, st⟩ | ⟨q, st₀, t, T', L, E, ce, h0, X', hL, e1, e2, ⟨u, hp, hb, hF⟩, hce, hcv, hcl, st⟩
  · cases hv
    obtain ⟨k1, k2, k3⟩ := vx_keep h0 e1 hS hA hf hL hF
    obtain ⟨t2, a1, b1⟩ := kk r u t T'.heap (locs ++ L) e1.symm (by rw [← e2]; exact X'.warmed.alike) hp hb k1 k2 k3 T' rfl X'
    exact ⟨t2, st t2 a1, b1⟩
  · obtain ⟨k1, k2, k3⟩ := vx_keep h0 e1 hS hAX hf hL hF
    obtain ⟨t2, a1, b1⟩ := kx E ce q u t T'.heap (locs ++ L) e1.symm (by rw [← e2]; exact X'.warmed.alike) hp hb k1 k2 k3 (by rw [e1]; exact hce) hcv hcl T' rfl X'
    exact ⟨t2, st.trans a1, b1⟩
end VXQ
section JC
variable {l : Launch} {X : Cx} {g : GG} {A : Nat → Prop} {own : String} {cc : ByteArray} {nL : Nat} {ret : Option FieldType} {f mc ms : Nat} {k n : Nat} {h : HF} {pc : Nat} {lv : List (Nat × Value)} {st : List Value}
def bI (b : Bool) : Int32 := cond b 1 0
theorem bI_n (b : Bool) : narrow .boolean (.int (bI b)) = .int (bI b) := by cases b <;> rfl
theorem bI_0 {b : Bool} : bI b = 0 ↔ b = false := by cases b <;> simp [bI]
theorem bI_1 {b : Bool} : ¬ bI b = 0 ↔ b = true := by cases b <;> simp [bI]
theorem FXB {av : List Value} : FrameBlind (va_Pc av (PR g h A)) := fun a U fr mk q => ⟨q.1, q.2.1, q.2.2.1, va_K.moved (u := U) (U := U.calling fr mk a) (Vm.Alike.refl U.vm) q.2.2.2.1, EV.sm q.2.2.2.2 rfl⟩
theorem Fx.pr (F : Fx l X g A own cc nL ret f mc ms) {H : Heap} {locs : List Loc} (h1 : HX g h A H) (h2 : va_S A (xS X).heap H locs) {av : List Value} : ∀ U : State, U.heap = H → (xS X).WarmedH U.vm → va_Pc av (PR g h A) av.toArray U := fun U hU hW => by
  subst hU
  exact ⟨rfl, h1, fun q hq => F.ar q (Nat.le_trans h2.1 hq), va_K.moved hW.alike F.K, EV.mv F.E hW h2.2.1⟩
def JRn (l : Launch) (X : Cx) (g : GG) (A : Nat → Prop) (nL k n : Nat) (h : HF) (pc : Nat) (lv : List (Nat × Value)) (st rest : List Value) (mc2 ms2 : Nat) (Qa : State → Outcome → State → Prop) : Prop :=
  ∀ (H : Heap) (locs : List Loc) (ls : Array Slot), HX g h A H → va_S A (xS X).heap H locs → lvh ls nL lv → va_Run (xP X) l (xE X) (xR X) (xS X) (xM X) (xA X) (xB X) (xN X) (xC X) H locs k n mc2 ms2 (F0 (xM X) pc ls st) rest Qa A
def JRx (l : Launch) (X : Cx) (g : GG) (A : Nat → Prop) (nL k n : Nat) (h : HF) (pc : Nat) (lv : List (Nat × Value)) (st rest : List Value) (mc2 ms2 : Nat) (Qa : State → Outcome → State → Prop) (px : HF × String → Prop) : Prop :=
  ∀ (H : Heap) (locs : List Loc) (ls : Array Slot), HX g h A H → va_S A (xS X).heap H locs → lvh ls nL lv → vx_Run (xP X) l (xE X) (xR X) (xS X) (xM X) (xA X) (xB X) (xN X) (xC X) H locs k n mc2 ms2 (F0 (xM X) pc ls st) rest Qa (vx_X px (BX g A) A) A
def JX (l : Launch) (X : Cx) (g : GG) (A : Nat → Prop) (nL k n : Nat) (h : HF) (pc : Nat) (lv : List (Nat × Value)) (rest : List Value) (E : String) : Prop :=
  ∀ (H : Heap) (locs : List Loc) (ls : Array Slot) (q : Addr) (ce : Cell), HX g h A H → va_S A (xS X).heap H locs → lvh ls nL lv → H[q]? = some ce → ce.vm = .none → (xS X).vm.findClass E = some ce.cls → vx_W (xP X) l (xE X) (xR X) (xS X) (xM X) (xA X) (xB X) (xN X) (xC X) H locs k n (xQ X) (F0 (xM X) pc ls rest) q
theorem j_runV (F : Fx l X g A own cc nL ret f mc ms) {y : MethodName} {c2 : ByteArray} {nL2 : Nat} {ret2 : Option FieldType} {f2 mc2 ms2 : Nat} {Qc : Array Value → State → Outcome → State → Prop} {idx : Nat} {As rest : List Value} {b ci N : Nat} {T : u_T} {fs : List Value} (hM : Met l y (.code y c2 nL2 ret2 :: wU) (rmF f2 mc2 ms2) (va_Pc (.ref b :: As) (PR g h A)) Qc mc2 ms2 A) (hw : MW y c2 nL2 ret2 As.length) (hv : MV y) (hl : Cond.methodLink own idx y ∈ wU) (hb : h b = some (.inr (ci, fs))) (hc : vwCl[ci]? = some (y.cls, T, N)) (hf : f2 + 1 ≤ f ∧ nL2 ≤ 16) (hcat : (rest.map fun v => v.category).sum ≤ 8) (hkm : k + mc2 ≤ mc ∧ n + ms2 ≤ ms) (hst : st = As.reverse ++ .ref b :: rest) (hdg : decode cc pc = .ok (.invokevirtual idx, 3)) : JRn l X g A nL k n h pc lv st rest mc2 ms2 (Qc (.ref b :: As).toArray) := fun H locs ls h1 h2 h3 =>
  va_runV F.xfix hM ⟨⟨rfl, rfl, Nat.le_trans hf.1 F.fr, (by have := F.lo; have := hf.1; have := hf.2; show 8 + (nL2 + 11) + 35 * f2 ≤ _; omega), pay_in F.2.2.2.2.1 (wU_in (yc := .code y c2 nL2 ret2) hw.1), List.mem_cons_self, F.w hw.1, F.w hw.2.1, ⟨hw.2.2.1, hw.2.2.2.1⟩, fun sig e => (by have h2 := hw.2.2.2.2; rw [e] at h2; exact (Option.some.inj h2).symm), F.w hl⟩, F.w hv.1, F.w hv.2⟩ ⟨FXB, va_recv (q0 := 0) F.K (h1.p1 hb) hc rfl, F.pr h1 h2⟩ rfl rfl h3.1.1 hst (lv_room hcat) hdg ⟨by rw [F.ce]; exact hkm.1, by rw [F.sl]; exact hkm.2⟩
theorem j_runS (F : Fx l X g A own cc nL ret f mc ms) {y : MethodName} {c2 : ByteArray} {nL2 : Nat} {ret2 : Option FieldType} {f2 mc2 ms2 : Nat} {Qc : Array Value → State → Outcome → State → Prop} {idx : Nat} {As rest : List Value} (hM : Met l y (.code y c2 nL2 ret2 :: wU) (rmF f2 mc2 ms2) (va_Pc As (PR g h A)) Qc mc2 ms2 A) (hw : MW y c2 nL2 ret2 As.length) (hv : Cond.static y ∈ wU) (hl : Cond.methodLink own idx y ∈ wU) (hf : f2 + 1 ≤ f ∧ nL2 ≤ 16) (hcat : (rest.map fun v => v.category).sum ≤ 8) (hkm : k + mc2 ≤ mc ∧ n + ms2 ≤ ms) (hst : st = As.reverse ++ rest) (hdg : decode cc pc = .ok (.invokestatic idx, 3)) : JRn l X g A nL k n h pc lv st rest mc2 ms2 (Qc As.toArray) := fun H locs ls h1 h2 h3 =>
  va_runS F.xfix hM ⟨⟨rfl, rfl, Nat.le_trans hf.1 F.fr, (by have := F.lo; have := hf.1; have := hf.2; show 8 + (nL2 + 11) + 35 * f2 ≤ _; omega), pay_in F.2.2.2.2.1 (wU_in (yc := .code y c2 nL2 ret2) hw.1), List.mem_cons_self, F.w hw.1, F.w hw.2.1, ⟨hw.2.2.1, hw.2.2.2.1⟩, fun sig e => (by have h2 := hw.2.2.2.2; rw [e] at h2; exact (Option.some.inj h2).symm), F.w hl⟩, F.w hv⟩ ⟨FXB, F.pr h1 h2⟩ rfl rfl h3.1.1 hst (lv_room hcat) hdg ⟨by rw [F.ce]; exact hkm.1, by rw [F.sl]; exact hkm.2⟩
theorem j_runSN (F : Fx l X g A own cc nL ret f mc ms) {y : MethodName} {c2 : ByteArray} {nL2 : Nat} {ret2 : Option FieldType} {f2 mc2 ms2 : Nat} {Qc : Array Value → State → Outcome → State → Prop} {idx : Nat} {As rest : List Value} (hM : Met l y (.code y c2 nL2 ret2 :: wU) (rmF f2 mc2 ms2) (va_Pc As (PR g h A)) Qc mc2 ms2 A) (hw : MW y c2 nL2 ret2 As.length) (hv : Cond.static y ∈ wU) (hl : Cond.methodLinkNest own idx y "Bgpreplay" ∈ eBad) (hf : f2 + 1 ≤ f ∧ nL2 ≤ 16) (hcat : (rest.map fun v => v.category).sum ≤ 8) (hkm : k + mc2 ≤ mc ∧ n + ms2 ≤ ms) (hst : st = As.reverse ++ rest) (hdg : decode cc pc = .ok (.invokestatic idx, 3)) : JRn l X g A nL k n h pc lv st rest mc2 ms2 (Qc As.toArray) := fun H locs ls h1 h2 h3 =>
  va_runSN F.xfix hM ⟨⟨⟨rfl, rfl, Nat.le_trans hf.1 F.fr, (by have := F.lo; have := hf.1; have := hf.2; show 8 + (nL2 + 11) + 35 * f2 ≤ _; omega), pay_in F.2.2.2.2.1 (wU_in (yc := .code y c2 nL2 ret2) hw.1), List.mem_cons_self⟩, F.w hw.1, F.w hw.2.1, ⟨hw.2.2.1, hw.2.2.2.1⟩, fun sig e => (by have h2 := hw.2.2.2.2; rw [e] at h2; exact (Option.some.inj h2).symm), va_Nw.use (by rfl) (F.E.1 _ hl)⟩, F.w hv, trivial⟩ ⟨FXB, F.pr h1 h2⟩ rfl rfl h3.1.1 hst (lv_room hcat) hdg ⟨by rw [F.ce]; exact hkm.1, by rw [F.sl]; exact hkm.2⟩
theorem j_runI (F : Fx l X g A own cc nL ret f mc ms) {y : MethodName} {c2 : ByteArray} {nL2 : Nat} {f2 mc2 ms2 : Nat} {Qc : Array Value → State → Outcome → State → Prop} {idx : Nat} {As rest : List Value} {b : Nat} (hM : Met l y (.code y c2 nL2 none :: wU) (rmF f2 mc2 ms2) (va_Pc (.ref b :: As) (PR g h A)) Qc mc2 ms2 A) (hw : MW y c2 nL2 none As.length) (hy : y.name = "<init>") (hv : Cond.instanceMethod y ∈ wU) (hl : Cond.methodLink own idx y ∈ wU) (hf : f2 + 1 ≤ f ∧ nL2 ≤ 16) (hcat : (rest.map fun v => v.category).sum ≤ 8) (hkm : k + mc2 ≤ mc ∧ n + ms2 ≤ ms) (hst : st = As.reverse ++ .ref b :: rest) (hdg : decode cc pc = .ok (.invokespecial idx, 3)) : JRn l X g A nL k n h pc lv st rest mc2 ms2 (Qc (.ref b :: As).toArray) := fun H locs ls h1 h2 h3 =>
  va_runI F.xfix hM ⟨⟨rfl, rfl, Nat.le_trans hf.1 F.fr, (by have := F.lo; have := hf.1; have := hf.2; show 8 + (nL2 + 11) + 35 * f2 ≤ _; omega), pay_in F.2.2.2.2.1 (wU_in (yc := .code y c2 nL2 none) hw.1), List.mem_cons_self, F.w hw.1, F.w hw.2.1, ⟨hw.2.2.1, hw.2.2.2.1⟩, fun sig e => (by have h2 := hw.2.2.2.2; rw [e] at h2; exact (Option.some.inj h2).symm), F.w hl⟩, hy, F.w hv⟩ ⟨FXB, F.pr h1 h2⟩ rfl rfl h3.1.1 hst (lv_room hcat) hdg ⟨by rw [F.ce]; exact hkm.1, by rw [F.sl]; exact hkm.2⟩
theorem j_runIN (F : Fx l X g A own cc nL ret f mc ms) {y : MethodName} {c2 : ByteArray} {nL2 : Nat} {f2 mc2 ms2 : Nat} {Qc : Array Value → State → Outcome → State → Prop} {idx : Nat} {As rest : List Value} {b : Nat} (hM : Met l y (.code y c2 nL2 none :: wU) (rmF f2 mc2 ms2) (va_Pc (.ref b :: As) (PR g h A)) Qc mc2 ms2 A) (hw : MW y c2 nL2 none As.length) (hy : y.name = "<init>") (hv : Cond.instanceMethod y ∈ wU) (hl : Cond.methodLinkNest own idx y "Bgpreplay" ∈ eBad) (hf : f2 + 1 ≤ f ∧ nL2 ≤ 16) (hcat : (rest.map fun v => v.category).sum ≤ 8) (hkm : k + mc2 ≤ mc ∧ n + ms2 ≤ ms) (hst : st = As.reverse ++ .ref b :: rest) (hdg : decode cc pc = .ok (.invokespecial idx, 3)) : JRn l X g A nL k n h pc lv st rest mc2 ms2 (Qc (.ref b :: As).toArray) := fun H locs ls h1 h2 h3 =>
  va_runIN F.xfix hM ⟨⟨⟨rfl, rfl, Nat.le_trans hf.1 F.fr, (by have := F.lo; have := hf.1; have := hf.2; show 8 + (nL2 + 11) + 35 * f2 ≤ _; omega), pay_in F.2.2.2.2.1 (wU_in (yc := .code y c2 nL2 none) hw.1), List.mem_cons_self⟩, F.w hw.1, F.w hw.2.1, ⟨hw.2.2.1, hw.2.2.2.1⟩, fun sig e => (by have h2 := hw.2.2.2.2; rw [e] at h2; exact (Option.some.inj h2).symm), va_Nw.use (by rfl) (F.E.1 _ hl)⟩, hy, F.w hv⟩ ⟨FXB, F.pr h1 h2⟩ rfl rfl h3.1.1 hst (lv_room hcat) hdg ⟨by rw [F.ce]; exact hkm.1, by rw [F.sl]; exact hkm.2⟩
theorem jx_runV (F : Fx l X g A own cc nL ret f mc ms) {y : MethodName} {c2 : ByteArray} {nL2 : Nat} {ret2 : Option FieldType} {f2 mc2 ms2 : Nat} {Qc : Array Value → State → Outcome → State → Prop} {idx : Nat} {As rest : List Value} {b ci N : Nat} {T : u_T} {fs : List Value} {px : HF × String → Prop} (hM : vx_Met l y (.code y c2 nL2 ret2 :: wU) (rmF f2 mc2 ms2) (va_Pc (.ref b :: As) (PR g h A)) Qc (vx_X px (BX g A) A) mc2 ms2 A) (hw : MW y c2 nL2 ret2 As.length) (hv : MV y) (hl : Cond.methodLink own idx y ∈ wU) (hb : h b = some (.inr (ci, fs))) (hc : vwCl[ci]? = some (y.cls, T, N)) (hf : f2 + 1 ≤ f ∧ nL2 ≤ 16) (hcat : (rest.map fun v => v.category).sum ≤ 8) (hkm : k + mc2 ≤ mc ∧ n + ms2 ≤ ms) (hst : st = As.reverse ++ .ref b :: rest) (hdg : decode cc pc = .ok (.invokevirtual idx, 3)) : JRx l X g A nL k n h pc lv st rest mc2 ms2 (Qc (.ref b :: As).toArray) px := fun H locs ls h1 h2 h3 =>
  vx_runV F.xfix hM ⟨⟨rfl, rfl, Nat.le_trans hf.1 F.fr, (by have := F.lo; have := hf.1; have := hf.2; show 8 + (nL2 + 11) + 35 * f2 ≤ _; omega), pay_in F.2.2.2.2.1 (wU_in (yc := .code y c2 nL2 ret2) hw.1), List.mem_cons_self, F.w hw.1, F.w hw.2.1, ⟨hw.2.2.1, hw.2.2.2.1⟩, fun sig e => (by have h2 := hw.2.2.2.2; rw [e] at h2; exact (Option.some.inj h2).symm), F.w hl⟩, F.w hv.1, F.w hv.2⟩ ⟨FXB, va_recv (q0 := 0) F.K (h1.p1 hb) hc rfl, F.pr h1 h2⟩ rfl rfl h3.1.1 hst (lv_room hcat) hdg ⟨by rw [F.ce]; exact hkm.1, by rw [F.sl]; exact hkm.2⟩
theorem j_ri {post : Int32 → HF → Prop} {rest : List Value} {mc2 ms2 : Nat} {a : Array Value} (hr : JRn l X g A nL k n h pc lv st rest mc2 ms2 (va_Qi post (BQ g A) A a)) (kk : ∀ (r : Int32) (h' : HF), post r h' → J l X g A nL (k + mc2) (n + ms2) h' (pc + 3) lv (.int r :: rest)) : J l X g A nL k n h pc lv st := fun H locs ls h1 h2 h3 =>
  va_calli (hr H locs ls h1 h2 h3) h2 (fun q _ h => h) (fun q h => h) (fun r u t H1 locs1 ht hvm hp hB hz hk hS => kk r u hp H1 locs1 ls (by rw [← ht]; exact hB) hS h3)
theorem jx_ri {post : Int32 → HF → Prop} {px : HF × String → Prop} {rest : List Value} {mc2 ms2 : Nat} {a : Array Value} (hr : JRx l X g A nL k n h pc lv st rest mc2 ms2 (va_Qi post (BQ g A) A a) px) (kx : ∀ (E : String) (h' : HF), px (h', E) → JX l X g A nL (k + mc2) (n + ms2) h' pc lv rest E) (kk : ∀ (r : Int32) (h' : HF), post r h' → J l X g A nL (k + mc2) (n + ms2) h' (pc + 3) lv (.int r :: rest)) : J l X g A nL k n h pc lv st := fun H locs ls h1 h2 h3 =>
  vx_calli (hr H locs ls h1 h2 h3) h2 (fun q _ h => h) (fun q h => h) (fun q _ h => h) (fun E ce q9 u t H1 locs1 ht hvm hp hB hz hk hS e1 e2 e3 => kx E u.1 (by rw [← hB.1]; exact hp) H1 locs1 ls q9 ce (by rw [← ht]; exact hB.2) hS h3 e1 e2 e3) (fun r u t H1 locs1 ht hvm hp hB hz hk hS => kk r u hp H1 locs1 ls (by rw [← ht]; exact hB) hS h3)
theorem j_rq {post : Option Nat → HF → Prop} {rest : List Value} {mc2 ms2 : Nat} {a : Array Value} (hr : JRn l X g A nL k n h pc lv st rest mc2 ms2 (va_Qq post (BQ g A) A a)) (kk : ∀ (r : Option Nat) (h' : HF), post r h' → J l X g A nL (k + mc2) (n + ms2) h' (pc + 3) lv (va_rf r :: rest)) : J l X g A nL k n h pc lv st := fun H locs ls h1 h2 h3 =>
  va_callq (hr H locs ls h1 h2 h3) h2 (fun q _ h => h) (fun q h => h) (fun r u t H1 locs1 ht hvm hp hB hz hk hS => kk r u hp H1 locs1 ls (by rw [← ht]; exact hB) hS h3)
theorem jx_rq {post : Option Nat → HF → Prop} {px : HF × String → Prop} {rest : List Value} {mc2 ms2 : Nat} {a : Array Value} (hr : JRx l X g A nL k n h pc lv st rest mc2 ms2 (va_Qq post (BQ g A) A a) px) (kx : ∀ (E : String) (h' : HF), px (h', E) → JX l X g A nL (k + mc2) (n + ms2) h' pc lv rest E) (kk : ∀ (r : Option Nat) (h' : HF), post r h' → J l X g A nL (k + mc2) (n + ms2) h' (pc + 3) lv (va_rf r :: rest)) : J l X g A nL k n h pc lv st := fun H locs ls h1 h2 h3 =>
  vx_callq (hr H locs ls h1 h2 h3) h2 (fun q _ h => h) (fun q h => h) (fun q _ h => h) (fun E ce q9 u t H1 locs1 ht hvm hp hB hz hk hS e1 e2 e3 => kx E u.1 (by rw [← hB.1]; exact hp) H1 locs1 ls q9 ce (by rw [← ht]; exact hB.2) hS h3 e1 e2 e3) (fun r u t H1 locs1 ht hvm hp hB hz hk hS => kk r u hp H1 locs1 ls (by rw [← ht]; exact hB) hS h3)
theorem j_rv {post : HF → Prop} {rest : List Value} {mc2 ms2 : Nat} {a : Array Value} (hr : JRn l X g A nL k n h pc lv st rest mc2 ms2 (va_Qv post (BQ g A) A a)) (kk : ∀ h' : HF, post h' → J l X g A nL (k + mc2) (n + ms2) h' (pc + 3) lv rest) : J l X g A nL k n h pc lv st := fun H locs ls h1 h2 h3 =>
  va_callv (hr H locs ls h1 h2 h3) h2 (fun q _ h => h) (fun q h => h) (fun u t H1 locs1 ht hvm hp hB hz hk hS => kk u hp H1 locs1 ls (by rw [← ht]; exact hB) hS h3)
theorem jx_rv {post : HF → Prop} {px : HF × String → Prop} {rest : List Value} {mc2 ms2 : Nat} {a : Array Value} (hr : JRx l X g A nL k n h pc lv st rest mc2 ms2 (va_Qv post (BQ g A) A a) px) (kx : ∀ (E : String) (h' : HF), px (h', E) → JX l X g A nL (k + mc2) (n + ms2) h' pc lv rest E) (kk : ∀ h' : HF, post h' → J l X g A nL (k + mc2) (n + ms2) h' (pc + 3) lv rest) : J l X g A nL k n h pc lv st := fun H locs ls h1 h2 h3 =>
  vx_callv (hr H locs ls h1 h2 h3) h2 (fun q _ h => h) (fun q h => h) (fun q _ h => h) (fun E ce q9 u t H1 locs1 ht hvm hp hB hz hk hS e1 e2 e3 => kx E u.1 (by rw [← hB.1]; exact hp) H1 locs1 ls q9 ce (by rw [← ht]; exact hB.2) hS h3 e1 e2 e3) (fun u t H1 locs1 ht hvm hp hB hz hk hS => kk u hp H1 locs1 ls (by rw [← ht]; exact hB) hS h3)
theorem j_iret (F : Fx l X g A own cc nL ret f mc ms) {post : Int32 → HF → Prop} {ty : FieldType} {r : Int32} (hQ : xQ X = MQ (xB X) (va_Qi post (BQ g A) A) (xA X) (xS X) mc ms A) (hr : ret = some ty) (hnw : narrow ty (.int r) = .int r) (hk : k ≤ mc) (hn : n ≤ ms) (hdg : decode cc pc = .ok (.ireturn, 1)) (hp : post r h) : J l X g A nL k n h pc lv [.int r] := fun H locs ls h1 h2 h3 => by
  rw [hQ]
  exact W.widen hk hn (W.zret F.1 F.2.1 (F.rt.trans hr) hnw (fun t ht hW => ⟨⟨r, h, rfl, hp, by show HX g h A t.heap; rw [ht]; exact h1⟩, h2.F ht⟩) h2.2.2 hdg F.lk)
theorem j_vret (F : Fx l X g A own cc nL ret f mc ms) {post : HF → Prop} (hQ : xQ X = MQ (xB X) (va_Qv post (BQ g A) A) (xA X) (xS X) mc ms A) (hr : ret = none) (hk : k ≤ mc) (hn : n ≤ ms) (hdg : decode cc pc = .ok (.return_, 1)) (hp : post h) : J l X g A nL k n h pc lv [] := fun H locs ls h1 h2 h3 => by
  rw [hQ]
  exact W.widen hk hn (W.vret F.1 F.2.1 (F.rt.trans hr) (fun t ht hW => ⟨⟨h, rfl, hp, by show HX g h A t.heap; rw [ht]; exact h1⟩, h2.F ht⟩) h2.2.2 hdg F.lk)
theorem j_aret (F : Fx l X g A own cc nL ret f mc ms) {post : Option Nat → HF → Prop} {nm : String} {r : Option Nat} (hQ : xQ X = MQ (xB X) (va_Qq post (BQ g A) A) (xA X) (xS X) mc ms A) (hr : ret = some (.object nm)) (hk : k ≤ mc) (hn : n ≤ ms) (hdg : decode cc pc = .ok (.areturn, 1)) (hp : post r h) : J l X g A nL k n h pc lv [va_rf r] := fun H locs ls h1 h2 h3 => by
  rw [hQ]
  exact W.widen hk hn (W.aret F.1 F.2.1 (F.rt.trans hr) (Or.inl ⟨nm, rfl⟩) (va_rf_or r) (fun t ht hW => ⟨⟨r, h, rfl, hp, by show HX g h A t.heap; rw [ht]; exact h1⟩, h2.F ht⟩) h2.2.2 hdg F.lk)
theorem jx_iret (F : Fx l X g A own cc nL ret f mc ms) {post : Int32 → HF → Prop} {px : HF × String → Prop} {ty : FieldType} {r : Int32} (hQ : xQ X = vx_MQ (xB X) (va_Qi post (BQ g A) A) (vx_X px (BX g A) A) (xA X) (xS X) mc ms A) (hr : ret = some ty) (hnw : narrow ty (.int r) = .int r) (hk : k ≤ mc) (hn : n ≤ ms) (hdg : decode cc pc = .ok (.ireturn, 1)) (hp : post r h) : J l X g A nL k n h pc lv [.int r] := fun H locs ls h1 h2 h3 => by
  rw [hQ]
  exact vx_ret (W.widen hk hn (W.zret F.1 F.2.1 (F.rt.trans hr) hnw (fun t ht hW => ⟨⟨r, h, rfl, hp, by show HX g h A t.heap; rw [ht]; exact h1⟩, h2.F ht⟩) h2.2.2 hdg F.lk))
theorem jx_vret (F : Fx l X g A own cc nL ret f mc ms) {post : HF → Prop} {px : HF × String → Prop} (hQ : xQ X = vx_MQ (xB X) (va_Qv post (BQ g A) A) (vx_X px (BX g A) A) (xA X) (xS X) mc ms A) (hr : ret = none) (hk : k ≤ mc) (hn : n ≤ ms) (hdg : decode cc pc = .ok (.return_, 1)) (hp : post h) : J l X g A nL k n h pc lv [] := fun H locs ls h1 h2 h3 => by
  rw [hQ]
  exact vx_ret (W.widen hk hn (W.vret F.1 F.2.1 (F.rt.trans hr) (fun t ht hW => ⟨⟨h, rfl, hp, by show HX g h A t.heap; rw [ht]; exact h1⟩, h2.F ht⟩) h2.2.2 hdg F.lk))
theorem jx_aret (F : Fx l X g A own cc nL ret f mc ms) {post : Option Nat → HF → Prop} {px : HF × String → Prop} {nm : String} {r : Option Nat} (hQ : xQ X = vx_MQ (xB X) (va_Qq post (BQ g A) A) (vx_X px (BX g A) A) (xA X) (xS X) mc ms A) (hr : ret = some (.object nm)) (hk : k ≤ mc) (hn : n ≤ ms) (hdg : decode cc pc = .ok (.areturn, 1)) (hp : post r h) : J l X g A nL k n h pc lv [va_rf r] := fun H locs ls h1 h2 h3 => by
  rw [hQ]
  exact vx_ret (W.widen hk hn (W.aret F.1 F.2.1 (F.rt.trans hr) (Or.inl ⟨nm, rfl⟩) (va_rf_or r) (fun t ht hW => ⟨⟨r, h, rfl, hp, by show HX g h A t.heap; rw [ht]; exact h1⟩, h2.F ht⟩) h2.2.2 hdg F.lk))
theorem jx_out (F : Fx l X g A own cc nL ret f mc ms) {Qc : Array Value → State → Outcome → State → Prop} {px : HF × String → Prop} {rest : List Value} {E : String} (hQ : xQ X = vx_MQ (xB X) Qc (vx_X px (BX g A) A) (xA X) (xS X) mc ms A) (hex : ∀ x ∈ (xC X).exceptionTable.toList, False) (hk : k ≤ mc) (hn : n ≤ ms) (hp : px (h, E)) : JX l X g A nL k n h pc lv rest E := fun H locs ls q ce h1 h2 h3 e1 e2 e3 => by
  rw [hQ]
  exact vx_out (fun x hx => (hex x hx).elim) F.lk e1 e2 e3 (fun t ht hvm => ⟨(h, E), hp, ⟨rfl, by show HX g h A t.heap; rw [ht]; exact h1⟩, h2.F ht⟩) h2.2.2 hk hn
theorem jx_met {y : MethodName} {av : List Value} {Qc : Array Value → State → Outcome → State → Prop} {XC : String → State → State → Prop} (hy : plainName y.cls = true) (hn : (lg_sl av).length ≤ nL)
    (body : ∀ X : Cx, Fx l X g A y.cls cc nL ret f mc ms → (∀ x ∈ (xC X).exceptionTable.toList, False) → xQ X = vx_MQ (xB X) Qc XC (xA X) (xS X) mc ms A → J l X g A nL 0 0 h 0 (lv_args 0 av) []) (hac : acat av = true := by rfl) : vx_Met l y (.code y cc nL ret :: wU) (rmF f mc ms) (va_Pc av (PR g h A)) Qc XC mc ms A := by
  refine vx_ofW (cc := cc) (maxL := nL) (ret := ret) hy rfl ?_
  intro p e s m args below meth c s₁ B hml hex hv
  obtain ⟨rfl, hP, hA, hK, hE⟩ := hv
  have hts := atoms_spec (ws := Cond.code y cc nL ret :: wU) B.pre
  have hl := lv_entry av (n := nL) hn
  rw [lg_entry_eq]
  exact body (p, e, rmF f mc ms, s, m, av.toArray, below, meth, c, _) ⟨B.exec, B.bytes, hml, findClass_of_methodNamed B.named, fun w hw => hts w (List.mem_cons_of_mem _ hw), hK, hA, hE, B.notSynchronized, B.returns, Nat.le_refl _, Nat.le_refl _, rfl, rfl⟩ hex rfl s.heap [] _ hP va_S.rf ⟨hl, lvh_args av 0 (acat_ok hac)⟩
/-- the words of a throw, new E(text), by its constructor's place -/
def nmsX : List String := ["java/lang/RuntimeException", "java/lang/Exception"]
def TW (ic : Nat) (cls : String) : Prop := Bundle.fit cls = true ∧ (∀ n ∈ nmsX, Bundle.fit n = true) ∧ (∀ w ∈ (vx_atS RX8 ic cls nmsX).filter goodWord, w ∈ wU) ∧ (∀ w ∈ (vx_atS RX8 ic cls nmsX).filter (fun w => !goodWord w), w ∈ eBad) ∧ (∀ w ∈ vx_atS RX8 ic cls nmsX, vx_ot w = true)
theorem tw_hat {ic : Nat} {cls : String} {cc : ByteArray} (F : Fx l X g A RX8 cc nL ret f mc ms) (t : TW ic cls) : ∀ w ∈ vx_atS RX8 ic cls nmsX, w.before (xA X) (xS X) = true := fun w hw => by
  by_cases gw : goodWord w = true
  · exact F.w (t.2.2.1 w (List.mem_filter.mpr ⟨hw, gw⟩))
  · have hb := t.2.2.2.1 w (List.mem_filter.mpr ⟨hw, by cases e : goodWord w <;> simp_all⟩)
    have ht : w.onTables = true := by
      have := t.2.2.2.2 w hw
      simp only [vx_ot, Bool.or_eq_true] at this
      exact this.elim id (fun z => absurd z gw)
    exact va_Nw.use ht (F.E.1 w hb)
theorem j_throwS {cc : ByteArray} (F : Fx l X g A RX8 cc nL ret f mc ms) (hst : l.stackTraces = false) {Qc : Array Value → State → Outcome → State → Prop} {px : HF × String → Prop} {ik is ic : Nat} {cls text : String} (hQ : xQ X = vx_MQ (xB X) Qc (vx_X px (BX g A) A) (xA X) (xS X) mc ms A) (hex : ∀ x ∈ (xC X).exceptionTable.toList, False) (t : TW ic cls) (hs : (RX8, is, text) ∈ eStr) (hk : Cond.classLink RX8 ik cls ∈ wU) (hi : Cond.initialized cls ∈ wU) (hf : 6 ≤ f) (hcat : (st.map fun v => v.category).sum ≤ 8) (hkm : k + 1 ≤ mc ∧ n + 6 ≤ ms)
    (d0 : decode cc pc = .ok (.new ik, 3)) (d3 : decode cc (pc + 3) = .ok (.dup, 1)) (d4 : decode cc (pc + 4) = .ok (.ldc is, 2)) (d6 : decode cc (pc + 6) = .ok (.invokespecial ic, 3)) (d9 : decode cc (pc + 9) = .ok (.athrow, 1)) (hp : px (h, cls)) : J l X g A nL k n h pc lv st := fun H locs ls h1 h2 h3 => by
  rw [hQ]
  obtain ⟨sa, hsa⟩ := F.E.2.1 _ hs
  have q1 := F.fr
  have q2 := F.lo
  refine vx_throwS F.1 F.2.1 hst F.ow t.1 t.2.1 (F.w hk) (F.w hi) hsa (tw_hat F t) (fun w hw => ?_) F.E.2.2.2.2.2.1 F.E.2.2.2.2.2.2 h2 (h3.1.1.trans F.2.2.1.symm) d0 d3 d4 d6 d9 (fun x hx => (hex x hx).elim) (by show 2 + 3 < _; omega) (by show _ + (13 * (2 + 1) + 43) ≤ _; omega) (by rw [F.ce]; exact hkm.1) (by rw [F.sl]; exact hkm.2) F.lk (fun t ht hz hk => ⟨(h, cls), hp, ⟨rfl, fun a e ha => ?_⟩, ?_⟩) h2.2.2 hkm.1 hkm.2
  · rcases List.mem_cons.mp hw with e | hw
    · subst e; rfl
    · rcases List.mem_cons.mp hw with e | hw
      · subst e; rfl
      · exact t.2.2.2.2 w hw
  · obtain ⟨z1, z2⟩ := h1 a e ha
    exact ⟨z1.kept (hk _ z1.lt), z2⟩
  · exact ⟨Nat.le_trans h2.1 hz, fun q z1 z2 => by rw [hk q (Nat.lt_of_lt_of_le z1 h2.1)]; exact h2.2.1 q z1 z2⟩
theorem j_throwSW {cc : ByteArray} (F : Fx l X g A RX8 cc nL ret f mc ms) (hst : l.stackTraces = false) {Qc : Array Value → State → Outcome → State → Prop} {px : HF × String → Prop} {ik is ic : Nat} {cls text : String} (hQ : xQ X = vx_MQ (xB X) Qc (vx_X px (BX g A) A) (xA X) (xS X) mc ms A) (hex : ∀ x ∈ (xC X).exceptionTable.toList, False) (t : TW ic cls) (hs : (RX8, is, text) ∈ eStr) (hk : Cond.classLink RX8 ik cls ∈ wU) (hi : Cond.initialized cls ∈ wU) (hf : 6 ≤ f) (hcat : (st.map fun v => v.category).sum ≤ 8) (hkm : k + 1 ≤ mc ∧ n + 6 ≤ ms)
    (d0 : decode cc pc = .ok (.new ik, 3)) (d3 : decode cc (pc + 3) = .ok (.dup, 1)) (d4 : decode cc (pc + 4) = .ok (.ldc_w is, 3)) (d6 : decode cc (pc + 7) = .ok (.invokespecial ic, 3)) (d9 : decode cc (pc + 10) = .ok (.athrow, 1)) (hp : px (h, cls)) : J l X g A nL k n h pc lv st := fun H locs ls h1 h2 h3 => by
  rw [hQ]
  obtain ⟨sa, hsa⟩ := F.E.2.1 _ hs
  have q1 := F.fr
  have q2 := F.lo
  refine vx_throwSW F.1 F.2.1 hst F.ow t.1 t.2.1 (F.w hk) (F.w hi) hsa (tw_hat F t) (fun w hw => ?_) F.E.2.2.2.2.2.1 F.E.2.2.2.2.2.2 h2 (h3.1.1.trans F.2.2.1.symm) d0 d3 d4 d6 d9 (fun x hx => (hex x hx).elim) (by show 2 + 3 < _; omega) (by show _ + (13 * (2 + 1) + 43) ≤ _; omega) (by rw [F.ce]; exact hkm.1) (by rw [F.sl]; exact hkm.2) F.lk (fun t ht hz hk => ⟨(h, cls), hp, ⟨rfl, fun a e ha => ?_⟩, ?_⟩) h2.2.2 hkm.1 hkm.2
  · rcases List.mem_cons.mp hw with e | hw
    · subst e; rfl
    · rcases List.mem_cons.mp hw with e | hw
      · subst e; rfl
      · exact t.2.2.2.2 w hw
  · obtain ⟨z1, z2⟩ := h1 a e ha
    exact ⟨z1.kept (hk _ z1.lt), z2⟩
  · exact ⟨Nat.le_trans h2.1 hz, fun q z1 z2 => by rw [hk q (Nat.lt_of_lt_of_le z1 h2.1)]; exact h2.2.1 q z1 z2⟩
set_option maxRecDepth 20000 in
theorem tw_52 : TW 52 "java/lang/IllegalArgumentException" := ⟨by decide +kernel, by decide +kernel, fun w hw => List.mem_filter.mpr ⟨(show ∀ w ∈ (vx_atS RX8 52 "java/lang/IllegalArgumentException" nmsX).filter goodWord, w ∈ lw_tbl by decide +kernel) w hw, (List.mem_filter.mp hw).2⟩, by decide +kernel, by decide +kernel⟩
set_option maxRecDepth 20000 in
theorem tw_60 : TW 60 "java/lang/IllegalStateException" := ⟨by decide +kernel, by decide +kernel, fun w hw => List.mem_filter.mpr ⟨(show ∀ w ∈ (vx_atS RX8 60 "java/lang/IllegalStateException" nmsX).filter goodWord, w ∈ lw_tbl by decide +kernel) w hw, (List.mem_filter.mp hw).2⟩, by decide +kernel, by decide +kernel⟩
set_option maxRecDepth 20000 in
theorem tw_154 : TW 154 "java/lang/IndexOutOfBoundsException" := ⟨by decide +kernel, by decide +kernel, fun w hw => List.mem_filter.mpr ⟨(show ∀ w ∈ (vx_atS RX8 154 "java/lang/IndexOutOfBoundsException" nmsX).filter goodWord, w ∈ lw_tbl by decide +kernel) w hw, (List.mem_filter.mp hw).2⟩, by decide +kernel, by decide +kernel⟩
theorem xi_IllegalArgumentException : Cond.initialized "java/lang/IllegalArgumentException" ∈ wU := wU_at 33 (by decide +kernel) rfl
theorem xi_IllegalStateException : Cond.initialized "java/lang/IllegalStateException" ∈ wU := wU_at 34 (by decide +kernel) rfl
theorem xi_IndexOutOfBoundsException : Cond.initialized "java/lang/IndexOutOfBoundsException" ∈ wU := wU_at 35 (by decide +kernel) rfl
theorem xi_NoSuchElementException : Cond.initialized "java/util/NoSuchElementException" ∈ wU := wU_at 38 (by decide +kernel) rfl
end JC
end
section
section JN
variable {l : Launch} {X : Cx} {g : GG} {A : Nat → Prop} {own : String} {cc : ByteArray} {nL : Nat} {ret : Option FieldType} {f mc ms : Nat} {k n : Nat} {h : HF} {pc : Nat} {lv : List (Nat × Value)} {st : List Value}
theorem q_lt (a b : Int32) : a < b ↔ a.toInt < b.toInt := Int32.lt_iff_toInt_lt
theorem q_le (a b : Int32) : a ≤ b ↔ a.toInt ≤ b.toInt := Int32.le_iff_toInt_le
theorem q_eq (a b : Int32) : a = b ↔ a.toInt = b.toInt := ⟨fun e => by rw [e], fun e => Int32.toInt_inj.mp e⟩
theorem q_rng (x : Int32) : -2147483648 ≤ x.toInt ∧ x.toInt < 2147483648 := by
  have h1 := Int32.le_toInt x
  have h2 := Int32.toInt_lt x
  exact ⟨by omega, by omega⟩
theorem q_0 : (0 : Int32).toInt = 0 := by decide
theorem q_m1 : (-1 : Int32).toInt = -1 := by decide
theorem q_nat {x : Int32} (h : 0 ≤ x.toInt) : ∃ j : Nat, j < 2147483648 ∧ x = nI j ∧ x.toInt = j := by
  have h2 := (q_rng x).2
  refine ⟨x.toInt.toNat, by omega, ?_, by omega⟩
  rw [q_eq, nI_toInt (by omega)]
  omega
theorem j_icmp_ltN (F : Fx l X g A own cc nL ret f mc ms) {a b : Nat} {off : Int} (tgt : Nat) (hdg : decode cc pc = .ok (.if_icmp .lt off, 3)) (ht : (pc : Int) + off = (tgt : Int)) (ha : a < 2 ^ 31) (hb : b < 2 ^ 31) (kt : a < b → J l X g A nL k n h tgt lv st) (kf : b ≤ a → J l X g A nL k n h (pc + 3) lv st) : J l X g A nL k n h pc lv (.int (nI b) :: .int (nI a) :: st) :=
  j_icmp_lt F tgt hdg ht (fun c => kt (by have z := c; simp only [q_lt, q_le, q_eq, Int32.not_lt, Int32.not_le, q_0, nI_toInt ha, nI_toInt hb] at z; omega)) (fun c => kf (by have z := c; simp only [q_lt, q_le, q_eq, Int32.not_lt, Int32.not_le, q_0, nI_toInt ha, nI_toInt hb] at z; omega))
theorem j_icmp_ltIN (F : Fx l X g A own cc nL ret f mc ms) {x : Int32} {b : Nat} {off : Int} (tgt : Nat) (hdg : decode cc pc = .ok (.if_icmp .lt off, 3)) (ht : (pc : Int) + off = (tgt : Int)) (hb : b < 2 ^ 31) (kt : x.toInt < (b : Int) → J l X g A nL k n h tgt lv st) (kf : (b : Int) ≤ x.toInt → J l X g A nL k n h (pc + 3) lv st) : J l X g A nL k n h pc lv (.int (nI b) :: .int (x) :: st) :=
  j_icmp_lt F tgt hdg ht (fun c => kt (by have z := c; simp only [q_lt, q_le, q_eq, Int32.not_lt, Int32.not_le, q_0, nI_toInt hb] at z; omega)) (fun c => kf (by have z := c; simp only [q_lt, q_le, q_eq, Int32.not_lt, Int32.not_le, q_0, nI_toInt hb] at z; omega))
theorem j_icmp_ltNI (F : Fx l X g A own cc nL ret f mc ms) {a : Nat} {y : Int32} {off : Int} (tgt : Nat) (hdg : decode cc pc = .ok (.if_icmp .lt off, 3)) (ht : (pc : Int) + off = (tgt : Int)) (ha : a < 2 ^ 31) (kt : (a : Int) < y.toInt → J l X g A nL k n h tgt lv st) (kf : y.toInt ≤ (a : Int) → J l X g A nL k n h (pc + 3) lv st) : J l X g A nL k n h pc lv (.int (y) :: .int (nI a) :: st) :=
  j_icmp_lt F tgt hdg ht (fun c => kt (by have z := c; simp only [q_lt, q_le, q_eq, Int32.not_lt, Int32.not_le, q_0, nI_toInt ha] at z; omega)) (fun c => kf (by have z := c; simp only [q_lt, q_le, q_eq, Int32.not_lt, Int32.not_le, q_0, nI_toInt ha] at z; omega))
theorem j_icmp_ltI (F : Fx l X g A own cc nL ret f mc ms) {x y : Int32} {off : Int} (tgt : Nat) (hdg : decode cc pc = .ok (.if_icmp .lt off, 3)) (ht : (pc : Int) + off = (tgt : Int)) (kt : x.toInt < y.toInt → J l X g A nL k n h tgt lv st) (kf : y.toInt ≤ x.toInt → J l X g A nL k n h (pc + 3) lv st) : J l X g A nL k n h pc lv (.int y :: .int x :: st) :=
  j_icmp_lt F tgt hdg ht (fun c => kt (by have z := c; simp only [q_lt, q_le, q_eq, Int32.not_lt, Int32.not_le, q_0] at z; omega)) (fun c => kf (by have z := c; simp only [q_lt, q_le, q_eq, Int32.not_lt, Int32.not_le, q_0] at z; omega))
theorem j_if_ltN (F : Fx l X g A own cc nL ret f mc ms) {a : Nat} {off : Int} (tgt : Nat) (hdg : decode cc pc = .ok (.ifCond .lt off, 3)) (ht : (pc : Int) + off = (tgt : Int)) (ha : a < 2 ^ 31) (kt : a < 0 → J l X g A nL k n h tgt lv st) (kf : 0 ≤ a → J l X g A nL k n h (pc + 3) lv st) : J l X g A nL k n h pc lv (.int (nI a) :: st) :=
  j_if_lt F tgt hdg ht (fun c => kt (by have z := c; simp only [q_lt, q_le, q_eq, Int32.not_lt, Int32.not_le, q_0, nI_toInt ha] at z; omega)) (fun c => kf (by have z := c; simp only [q_lt, q_le, q_eq, Int32.not_lt, Int32.not_le, q_0, nI_toInt ha] at z; omega))
theorem j_if_ltI (F : Fx l X g A own cc nL ret f mc ms) {x : Int32} {off : Int} (tgt : Nat) (hdg : decode cc pc = .ok (.ifCond .lt off, 3)) (ht : (pc : Int) + off = (tgt : Int)) (kt : x.toInt < 0 → J l X g A nL k n h tgt lv st) (kf : 0 ≤ x.toInt → J l X g A nL k n h (pc + 3) lv st) : J l X g A nL k n h pc lv (.int (x) :: st) :=
  j_if_lt F tgt hdg ht (fun c => kt (by have z := c; simp only [q_lt, q_le, q_eq, Int32.not_lt, Int32.not_le, q_0] at z; omega)) (fun c => kf (by have z := c; simp only [q_lt, q_le, q_eq, Int32.not_lt, Int32.not_le, q_0] at z; omega))
theorem j_icmp_geN (F : Fx l X g A own cc nL ret f mc ms) {a b : Nat} {off : Int} (tgt : Nat) (hdg : decode cc pc = .ok (.if_icmp .ge off, 3)) (ht : (pc : Int) + off = (tgt : Int)) (ha : a < 2 ^ 31) (hb : b < 2 ^ 31) (kt : b ≤ a → J l X g A nL k n h tgt lv st) (kf : a < b → J l X g A nL k n h (pc + 3) lv st) : J l X g A nL k n h pc lv (.int (nI b) :: .int (nI a) :: st) :=
  j_icmp_ge F tgt hdg ht (fun c => kt (by have z := c; simp only [q_lt, q_le, q_eq, Int32.not_lt, Int32.not_le, q_0, nI_toInt ha, nI_toInt hb] at z; omega)) (fun c => kf (by have z := c; simp only [q_lt, q_le, q_eq, Int32.not_lt, Int32.not_le, q_0, nI_toInt ha, nI_toInt hb] at z; omega))
theorem j_icmp_geIN (F : Fx l X g A own cc nL ret f mc ms) {x : Int32} {b : Nat} {off : Int} (tgt : Nat) (hdg : decode cc pc = .ok (.if_icmp .ge off, 3)) (ht : (pc : Int) + off = (tgt : Int)) (hb : b < 2 ^ 31) (kt : (b : Int) ≤ x.toInt → J l X g A nL k n h tgt lv st) (kf : x.toInt < (b : Int) → J l X g A nL k n h (pc + 3) lv st) : J l X g A nL k n h pc lv (.int (nI b) :: .int (x) :: st) :=
  j_icmp_ge F tgt hdg ht (fun c => kt (by have z := c; simp only [q_lt, q_le, q_eq, Int32.not_lt, Int32.not_le, q_0, nI_toInt hb] at z; omega)) (fun c => kf (by have z := c; simp only [q_lt, q_le, q_eq, Int32.not_lt, Int32.not_le, q_0, nI_toInt hb] at z; omega))
theorem j_icmp_geNI (F : Fx l X g A own cc nL ret f mc ms) {a : Nat} {y : Int32} {off : Int} (tgt : Nat) (hdg : decode cc pc = .ok (.if_icmp .ge off, 3)) (ht : (pc : Int) + off = (tgt : Int)) (ha : a < 2 ^ 31) (kt : y.toInt ≤ (a : Int) → J l X g A nL k n h tgt lv st) (kf : (a : Int) < y.toInt → J l X g A nL k n h (pc + 3) lv st) : J l X g A nL k n h pc lv (.int (y) :: .int (nI a) :: st) :=
  j_icmp_ge F tgt hdg ht (fun c => kt (by have z := c; simp only [q_lt, q_le, q_eq, Int32.not_lt, Int32.not_le, q_0, nI_toInt ha] at z; omega)) (fun c => kf (by have z := c; simp only [q_lt, q_le, q_eq, Int32.not_lt, Int32.not_le, q_0, nI_toInt ha] at z; omega))
theorem j_icmp_geI (F : Fx l X g A own cc nL ret f mc ms) {x y : Int32} {off : Int} (tgt : Nat) (hdg : decode cc pc = .ok (.if_icmp .ge off, 3)) (ht : (pc : Int) + off = (tgt : Int)) (kt : y.toInt ≤ x.toInt → J l X g A nL k n h tgt lv st) (kf : x.toInt < y.toInt → J l X g A nL k n h (pc + 3) lv st) : J l X g A nL k n h pc lv (.int y :: .int x :: st) :=
  j_icmp_ge F tgt hdg ht (fun c => kt (by have z := c; simp only [q_lt, q_le, q_eq, Int32.not_lt, Int32.not_le, q_0] at z; omega)) (fun c => kf (by have z := c; simp only [q_lt, q_le, q_eq, Int32.not_lt, Int32.not_le, q_0] at z; omega))
theorem j_if_geN (F : Fx l X g A own cc nL ret f mc ms) {a : Nat} {off : Int} (tgt : Nat) (hdg : decode cc pc = .ok (.ifCond .ge off, 3)) (ht : (pc : Int) + off = (tgt : Int)) (ha : a < 2 ^ 31) (kt : 0 ≤ a → J l X g A nL k n h tgt lv st) (kf : a < 0 → J l X g A nL k n h (pc + 3) lv st) : J l X g A nL k n h pc lv (.int (nI a) :: st) :=
  j_if_ge F tgt hdg ht (fun c => kt (by have z := c; simp only [q_lt, q_le, q_eq, Int32.not_lt, Int32.not_le, q_0, nI_toInt ha] at z; omega)) (fun c => kf (by have z := c; simp only [q_lt, q_le, q_eq, Int32.not_lt, Int32.not_le, q_0, nI_toInt ha] at z; omega))
theorem j_if_geI (F : Fx l X g A own cc nL ret f mc ms) {x : Int32} {off : Int} (tgt : Nat) (hdg : decode cc pc = .ok (.ifCond .ge off, 3)) (ht : (pc : Int) + off = (tgt : Int)) (kt : 0 ≤ x.toInt → J l X g A nL k n h tgt lv st) (kf : x.toInt < 0 → J l X g A nL k n h (pc + 3) lv st) : J l X g A nL k n h pc lv (.int (x) :: st) :=
  j_if_ge F tgt hdg ht (fun c => kt (by have z := c; simp only [q_lt, q_le, q_eq, Int32.not_lt, Int32.not_le, q_0] at z; omega)) (fun c => kf (by have z := c; simp only [q_lt, q_le, q_eq, Int32.not_lt, Int32.not_le, q_0] at z; omega))
theorem j_icmp_gtN (F : Fx l X g A own cc nL ret f mc ms) {a b : Nat} {off : Int} (tgt : Nat) (hdg : decode cc pc = .ok (.if_icmp .gt off, 3)) (ht : (pc : Int) + off = (tgt : Int)) (ha : a < 2 ^ 31) (hb : b < 2 ^ 31) (kt : b < a → J l X g A nL k n h tgt lv st) (kf : a ≤ b → J l X g A nL k n h (pc + 3) lv st) : J l X g A nL k n h pc lv (.int (nI b) :: .int (nI a) :: st) :=
  j_icmp_gt F tgt hdg ht (fun c => kt (by have z := c; simp only [q_lt, q_le, q_eq, Int32.not_lt, Int32.not_le, q_0, nI_toInt ha, nI_toInt hb] at z; omega)) (fun c => kf (by have z := c; simp only [q_lt, q_le, q_eq, Int32.not_lt, Int32.not_le, q_0, nI_toInt ha, nI_toInt hb] at z; omega))
theorem j_icmp_gtIN (F : Fx l X g A own cc nL ret f mc ms) {x : Int32} {b : Nat} {off : Int} (tgt : Nat) (hdg : decode cc pc = .ok (.if_icmp .gt off, 3)) (ht : (pc : Int) + off = (tgt : Int)) (hb : b < 2 ^ 31) (kt : (b : Int) < x.toInt → J l X g A nL k n h tgt lv st) (kf : x.toInt ≤ (b : Int) → J l X g A nL k n h (pc + 3) lv st) : J l X g A nL k n h pc lv (.int (nI b) :: .int (x) :: st) :=
  j_icmp_gt F tgt hdg ht (fun c => kt (by have z := c; simp only [q_lt, q_le, q_eq, Int32.not_lt, Int32.not_le, q_0, nI_toInt hb] at z; omega)) (fun c => kf (by have z := c; simp only [q_lt, q_le, q_eq, Int32.not_lt, Int32.not_le, q_0, nI_toInt hb] at z; omega))
theorem j_icmp_gtNI (F : Fx l X g A own cc nL ret f mc ms) {a : Nat} {y : Int32} {off : Int} (tgt : Nat) (hdg : decode cc pc = .ok (.if_icmp .gt off, 3)) (ht : (pc : Int) + off = (tgt : Int)) (ha : a < 2 ^ 31) (kt : y.toInt < (a : Int) → J l X g A nL k n h tgt lv st) (kf : (a : Int) ≤ y.toInt → J l X g A nL k n h (pc + 3) lv st) : J l X g A nL k n h pc lv (.int (y) :: .int (nI a) :: st) :=
  j_icmp_gt F tgt hdg ht (fun c => kt (by have z := c; simp only [q_lt, q_le, q_eq, Int32.not_lt, Int32.not_le, q_0, nI_toInt ha] at z; omega)) (fun c => kf (by have z := c; simp only [q_lt, q_le, q_eq, Int32.not_lt, Int32.not_le, q_0, nI_toInt ha] at z; omega))
theorem j_icmp_gtI (F : Fx l X g A own cc nL ret f mc ms) {x y : Int32} {off : Int} (tgt : Nat) (hdg : decode cc pc = .ok (.if_icmp .gt off, 3)) (ht : (pc : Int) + off = (tgt : Int)) (kt : y.toInt < x.toInt → J l X g A nL k n h tgt lv st) (kf : x.toInt ≤ y.toInt → J l X g A nL k n h (pc + 3) lv st) : J l X g A nL k n h pc lv (.int y :: .int x :: st) :=
  j_icmp_gt F tgt hdg ht (fun c => kt (by have z := c; simp only [q_lt, q_le, q_eq, Int32.not_lt, Int32.not_le, q_0] at z; omega)) (fun c => kf (by have z := c; simp only [q_lt, q_le, q_eq, Int32.not_lt, Int32.not_le, q_0] at z; omega))
theorem j_if_gtN (F : Fx l X g A own cc nL ret f mc ms) {a : Nat} {off : Int} (tgt : Nat) (hdg : decode cc pc = .ok (.ifCond .gt off, 3)) (ht : (pc : Int) + off = (tgt : Int)) (ha : a < 2 ^ 31) (kt : 0 < a → J l X g A nL k n h tgt lv st) (kf : a ≤ 0 → J l X g A nL k n h (pc + 3) lv st) : J l X g A nL k n h pc lv (.int (nI a) :: st) :=
  j_if_gt F tgt hdg ht (fun c => kt (by have z := c; simp only [q_lt, q_le, q_eq, Int32.not_lt, Int32.not_le, q_0, nI_toInt ha] at z; omega)) (fun c => kf (by have z := c; simp only [q_lt, q_le, q_eq, Int32.not_lt, Int32.not_le, q_0, nI_toInt ha] at z; omega))
theorem j_if_gtI (F : Fx l X g A own cc nL ret f mc ms) {x : Int32} {off : Int} (tgt : Nat) (hdg : decode cc pc = .ok (.ifCond .gt off, 3)) (ht : (pc : Int) + off = (tgt : Int)) (kt : 0 < x.toInt → J l X g A nL k n h tgt lv st) (kf : x.toInt ≤ 0 → J l X g A nL k n h (pc + 3) lv st) : J l X g A nL k n h pc lv (.int (x) :: st) :=
  j_if_gt F tgt hdg ht (fun c => kt (by have z := c; simp only [q_lt, q_le, q_eq, Int32.not_lt, Int32.not_le, q_0] at z; omega)) (fun c => kf (by have z := c; simp only [q_lt, q_le, q_eq, Int32.not_lt, Int32.not_le, q_0] at z; omega))
theorem j_icmp_leN (F : Fx l X g A own cc nL ret f mc ms) {a b : Nat} {off : Int} (tgt : Nat) (hdg : decode cc pc = .ok (.if_icmp .le off, 3)) (ht : (pc : Int) + off = (tgt : Int)) (ha : a < 2 ^ 31) (hb : b < 2 ^ 31) (kt : a ≤ b → J l X g A nL k n h tgt lv st) (kf : b < a → J l X g A nL k n h (pc + 3) lv st) : J l X g A nL k n h pc lv (.int (nI b) :: .int (nI a) :: st) :=
  j_icmp_le F tgt hdg ht (fun c => kt (by have z := c; simp only [q_lt, q_le, q_eq, Int32.not_lt, Int32.not_le, q_0, nI_toInt ha, nI_toInt hb] at z; omega)) (fun c => kf (by have z := c; simp only [q_lt, q_le, q_eq, Int32.not_lt, Int32.not_le, q_0, nI_toInt ha, nI_toInt hb] at z; omega))
theorem j_icmp_leIN (F : Fx l X g A own cc nL ret f mc ms) {x : Int32} {b : Nat} {off : Int} (tgt : Nat) (hdg : decode cc pc = .ok (.if_icmp .le off, 3)) (ht : (pc : Int) + off = (tgt : Int)) (hb : b < 2 ^ 31) (kt : x.toInt ≤ (b : Int) → J l X g A nL k n h tgt lv st) (kf : (b : Int) < x.toInt → J l X g A nL k n h (pc + 3) lv st) : J l X g A nL k n h pc lv (.int (nI b) :: .int (x) :: st) :=
  j_icmp_le F tgt hdg ht (fun c => kt (by have z := c; simp only [q_lt, q_le, q_eq, Int32.not_lt, Int32.not_le, q_0, nI_toInt hb] at z; omega)) (fun c => kf (by have z := c; simp only [q_lt, q_le, q_eq, Int32.not_lt, Int32.not_le, q_0, nI_toInt hb] at z; omega))
theorem j_icmp_leNI (F : Fx l X g A own cc nL ret f mc ms) {a : Nat} {y : Int32} {off : Int} (tgt : Nat) (hdg : decode cc pc = .ok (.if_icmp .le off, 3)) (ht : (pc : Int) + off = (tgt : Int)) (ha : a < 2 ^ 31) (kt : (a : Int) ≤ y.toInt → J l X g A nL k n h tgt lv st) (kf : y.toInt < (a : Int) → J l X g A nL k n h (pc + 3) lv st) : J l X g A nL k n h pc lv (.int (y) :: .int (nI a) :: st) :=
  j_icmp_le F tgt hdg ht (fun c => kt (by have z := c; simp only [q_lt, q_le, q_eq, Int32.not_lt, Int32.not_le, q_0, nI_toInt ha] at z; omega)) (fun c => kf (by have z := c; simp only [q_lt, q_le, q_eq, Int32.not_lt, Int32.not_le, q_0, nI_toInt ha] at z; omega))
theorem j_icmp_leI (F : Fx l X g A own cc nL ret f mc ms) {x y : Int32} {off : Int} (tgt : Nat) (hdg : decode cc pc = .ok (.if_icmp .le off, 3)) (ht : (pc : Int) + off = (tgt : Int)) (kt : x.toInt ≤ y.toInt → J l X g A nL k n h tgt lv st) (kf : y.toInt < x.toInt → J l X g A nL k n h (pc + 3) lv st) : J l X g A nL k n h pc lv (.int y :: .int x :: st) :=
  j_icmp_le F tgt hdg ht (fun c => kt (by have z := c; simp only [q_lt, q_le, q_eq, Int32.not_lt, Int32.not_le, q_0] at z; omega)) (fun c => kf (by have z := c; simp only [q_lt, q_le, q_eq, Int32.not_lt, Int32.not_le, q_0] at z; omega))
theorem j_if_leN (F : Fx l X g A own cc nL ret f mc ms) {a : Nat} {off : Int} (tgt : Nat) (hdg : decode cc pc = .ok (.ifCond .le off, 3)) (ht : (pc : Int) + off = (tgt : Int)) (ha : a < 2 ^ 31) (kt : a ≤ 0 → J l X g A nL k n h tgt lv st) (kf : 0 < a → J l X g A nL k n h (pc + 3) lv st) : J l X g A nL k n h pc lv (.int (nI a) :: st) :=
  j_if_le F tgt hdg ht (fun c => kt (by have z := c; simp only [q_lt, q_le, q_eq, Int32.not_lt, Int32.not_le, q_0, nI_toInt ha] at z; omega)) (fun c => kf (by have z := c; simp only [q_lt, q_le, q_eq, Int32.not_lt, Int32.not_le, q_0, nI_toInt ha] at z; omega))
theorem j_if_leI (F : Fx l X g A own cc nL ret f mc ms) {x : Int32} {off : Int} (tgt : Nat) (hdg : decode cc pc = .ok (.ifCond .le off, 3)) (ht : (pc : Int) + off = (tgt : Int)) (kt : x.toInt ≤ 0 → J l X g A nL k n h tgt lv st) (kf : 0 < x.toInt → J l X g A nL k n h (pc + 3) lv st) : J l X g A nL k n h pc lv (.int (x) :: st) :=
  j_if_le F tgt hdg ht (fun c => kt (by have z := c; simp only [q_lt, q_le, q_eq, Int32.not_lt, Int32.not_le, q_0] at z; omega)) (fun c => kf (by have z := c; simp only [q_lt, q_le, q_eq, Int32.not_lt, Int32.not_le, q_0] at z; omega))
theorem j_icmp_eqN (F : Fx l X g A own cc nL ret f mc ms) {a b : Nat} {off : Int} (tgt : Nat) (hdg : decode cc pc = .ok (.if_icmp .eq off, 3)) (ht : (pc : Int) + off = (tgt : Int)) (ha : a < 2 ^ 31) (hb : b < 2 ^ 31) (kt : a = b → J l X g A nL k n h tgt lv st) (kf : ¬ a = b → J l X g A nL k n h (pc + 3) lv st) : J l X g A nL k n h pc lv (.int (nI b) :: .int (nI a) :: st) :=
  j_icmp_eq F tgt hdg ht (fun c => kt (by have z := c; simp only [q_lt, q_le, q_eq, Int32.not_lt, Int32.not_le, q_0, nI_toInt ha, nI_toInt hb] at z; omega)) (fun c => kf (by have z := c; simp only [q_lt, q_le, q_eq, Int32.not_lt, Int32.not_le, q_0, nI_toInt ha, nI_toInt hb] at z; omega))
theorem j_icmp_eqIN (F : Fx l X g A own cc nL ret f mc ms) {x : Int32} {b : Nat} {off : Int} (tgt : Nat) (hdg : decode cc pc = .ok (.if_icmp .eq off, 3)) (ht : (pc : Int) + off = (tgt : Int)) (hb : b < 2 ^ 31) (kt : x.toInt = (b : Int) → J l X g A nL k n h tgt lv st) (kf : ¬ x.toInt = (b : Int) → J l X g A nL k n h (pc + 3) lv st) : J l X g A nL k n h pc lv (.int (nI b) :: .int (x) :: st) :=
  j_icmp_eq F tgt hdg ht (fun c => kt (by have z := c; simp only [q_lt, q_le, q_eq, Int32.not_lt, Int32.not_le, q_0, nI_toInt hb] at z; omega)) (fun c => kf (by have z := c; simp only [q_lt, q_le, q_eq, Int32.not_lt, Int32.not_le, q_0, nI_toInt hb] at z; omega))
theorem j_icmp_eqNI (F : Fx l X g A own cc nL ret f mc ms) {a : Nat} {y : Int32} {off : Int} (tgt : Nat) (hdg : decode cc pc = .ok (.if_icmp .eq off, 3)) (ht : (pc : Int) + off = (tgt : Int)) (ha : a < 2 ^ 31) (kt : (a : Int) = y.toInt → J l X g A nL k n h tgt lv st) (kf : ¬ (a : Int) = y.toInt → J l X g A nL k n h (pc + 3) lv st) : J l X g A nL k n h pc lv (.int (y) :: .int (nI a) :: st) :=
  j_icmp_eq F tgt hdg ht (fun c => kt (by have z := c; simp only [q_lt, q_le, q_eq, Int32.not_lt, Int32.not_le, q_0, nI_toInt ha] at z; omega)) (fun c => kf (by have z := c; simp only [q_lt, q_le, q_eq, Int32.not_lt, Int32.not_le, q_0, nI_toInt ha] at z; omega))
theorem j_if_eqN (F : Fx l X g A own cc nL ret f mc ms) {a : Nat} {off : Int} (tgt : Nat) (hdg : decode cc pc = .ok (.ifCond .eq off, 3)) (ht : (pc : Int) + off = (tgt : Int)) (ha : a < 2 ^ 31) (kt : a = 0 → J l X g A nL k n h tgt lv st) (kf : ¬ a = 0 → J l X g A nL k n h (pc + 3) lv st) : J l X g A nL k n h pc lv (.int (nI a) :: st) :=
  j_if_eq F tgt hdg ht (fun c => kt (by have z := c; simp only [q_lt, q_le, q_eq, Int32.not_lt, Int32.not_le, q_0, nI_toInt ha] at z; omega)) (fun c => kf (by have z := c; simp only [q_lt, q_le, q_eq, Int32.not_lt, Int32.not_le, q_0, nI_toInt ha] at z; omega))
theorem j_if_eqI (F : Fx l X g A own cc nL ret f mc ms) {x : Int32} {off : Int} (tgt : Nat) (hdg : decode cc pc = .ok (.ifCond .eq off, 3)) (ht : (pc : Int) + off = (tgt : Int)) (kt : x.toInt = 0 → J l X g A nL k n h tgt lv st) (kf : ¬ x.toInt = 0 → J l X g A nL k n h (pc + 3) lv st) : J l X g A nL k n h pc lv (.int (x) :: st) :=
  j_if_eq F tgt hdg ht (fun c => kt (by have z := c; simp only [q_lt, q_le, q_eq, Int32.not_lt, Int32.not_le, q_0] at z; omega)) (fun c => kf (by have z := c; simp only [q_lt, q_le, q_eq, Int32.not_lt, Int32.not_le, q_0] at z; omega))
theorem j_if_eqB (F : Fx l X g A own cc nL ret f mc ms) {b : Bool} {off : Int} (tgt : Nat) (hdg : decode cc pc = .ok (.ifCond .eq off, 3)) (ht : (pc : Int) + off = (tgt : Int)) (kt : b = false → J l X g A nL k n h tgt lv st) (kf : b = true → J l X g A nL k n h (pc + 3) lv st) : J l X g A nL k n h pc lv (.int (bI b) :: st) :=
  j_if_eq F tgt hdg ht (fun c => kt (by cases b <;> simp_all [bI])) (fun c => kf (by cases b <;> simp_all [bI]))
theorem j_icmp_neN (F : Fx l X g A own cc nL ret f mc ms) {a b : Nat} {off : Int} (tgt : Nat) (hdg : decode cc pc = .ok (.if_icmp .ne off, 3)) (ht : (pc : Int) + off = (tgt : Int)) (ha : a < 2 ^ 31) (hb : b < 2 ^ 31) (kt : ¬ a = b → J l X g A nL k n h tgt lv st) (kf : a = b → J l X g A nL k n h (pc + 3) lv st) : J l X g A nL k n h pc lv (.int (nI b) :: .int (nI a) :: st) :=
  j_icmp_ne F tgt hdg ht (fun c => kt (by have z := c; simp only [q_lt, q_le, q_eq, Int32.not_lt, Int32.not_le, q_0, nI_toInt ha, nI_toInt hb] at z; omega)) (fun c => kf (by have z := c; simp only [q_lt, q_le, q_eq, Int32.not_lt, Int32.not_le, q_0, nI_toInt ha, nI_toInt hb] at z; omega))
theorem j_icmp_neIN (F : Fx l X g A own cc nL ret f mc ms) {x : Int32} {b : Nat} {off : Int} (tgt : Nat) (hdg : decode cc pc = .ok (.if_icmp .ne off, 3)) (ht : (pc : Int) + off = (tgt : Int)) (hb : b < 2 ^ 31) (kt : ¬ x.toInt = (b : Int) → J l X g A nL k n h tgt lv st) (kf : x.toInt = (b : Int) → J l X g A nL k n h (pc + 3) lv st) : J l X g A nL k n h pc lv (.int (nI b) :: .int (x) :: st) :=
  j_icmp_ne F tgt hdg ht (fun c => kt (by have z := c; simp only [q_lt, q_le, q_eq, Int32.not_lt, Int32.not_le, q_0, nI_toInt hb] at z; omega)) (fun c => kf (by have z := c; simp only [q_lt, q_le, q_eq, Int32.not_lt, Int32.not_le, q_0, nI_toInt hb] at z; omega))
theorem j_icmp_neNI (F : Fx l X g A own cc nL ret f mc ms) {a : Nat} {y : Int32} {off : Int} (tgt : Nat) (hdg : decode cc pc = .ok (.if_icmp .ne off, 3)) (ht : (pc : Int) + off = (tgt : Int)) (ha : a < 2 ^ 31) (kt : ¬ (a : Int) = y.toInt → J l X g A nL k n h tgt lv st) (kf : (a : Int) = y.toInt → J l X g A nL k n h (pc + 3) lv st) : J l X g A nL k n h pc lv (.int (y) :: .int (nI a) :: st) :=
  j_icmp_ne F tgt hdg ht (fun c => kt (by have z := c; simp only [q_lt, q_le, q_eq, Int32.not_lt, Int32.not_le, q_0, nI_toInt ha] at z; omega)) (fun c => kf (by have z := c; simp only [q_lt, q_le, q_eq, Int32.not_lt, Int32.not_le, q_0, nI_toInt ha] at z; omega))
theorem j_if_neN (F : Fx l X g A own cc nL ret f mc ms) {a : Nat} {off : Int} (tgt : Nat) (hdg : decode cc pc = .ok (.ifCond .ne off, 3)) (ht : (pc : Int) + off = (tgt : Int)) (ha : a < 2 ^ 31) (kt : ¬ a = 0 → J l X g A nL k n h tgt lv st) (kf : a = 0 → J l X g A nL k n h (pc + 3) lv st) : J l X g A nL k n h pc lv (.int (nI a) :: st) :=
  j_if_ne F tgt hdg ht (fun c => kt (by have z := c; simp only [q_lt, q_le, q_eq, Int32.not_lt, Int32.not_le, q_0, nI_toInt ha] at z; omega)) (fun c => kf (by have z := c; simp only [q_lt, q_le, q_eq, Int32.not_lt, Int32.not_le, q_0, nI_toInt ha] at z; omega))
theorem j_if_neI (F : Fx l X g A own cc nL ret f mc ms) {x : Int32} {off : Int} (tgt : Nat) (hdg : decode cc pc = .ok (.ifCond .ne off, 3)) (ht : (pc : Int) + off = (tgt : Int)) (kt : ¬ x.toInt = 0 → J l X g A nL k n h tgt lv st) (kf : x.toInt = 0 → J l X g A nL k n h (pc + 3) lv st) : J l X g A nL k n h pc lv (.int (x) :: st) :=
  j_if_ne F tgt hdg ht (fun c => kt (by have z := c; simp only [q_lt, q_le, q_eq, Int32.not_lt, Int32.not_le, q_0] at z; omega)) (fun c => kf (by have z := c; simp only [q_lt, q_le, q_eq, Int32.not_lt, Int32.not_le, q_0] at z; omega))
theorem j_if_neB (F : Fx l X g A own cc nL ret f mc ms) {b : Bool} {off : Int} (tgt : Nat) (hdg : decode cc pc = .ok (.ifCond .ne off, 3)) (ht : (pc : Int) + off = (tgt : Int)) (kt : b = true → J l X g A nL k n h tgt lv st) (kf : b = false → J l X g A nL k n h (pc + 3) lv st) : J l X g A nL k n h pc lv (.int (bI b) :: st) :=
  j_if_ne F tgt hdg ht (fun c => kt (by cases b <;> simp_all [bI])) (fun c => kf (by cases b <;> simp_all [bI]))
theorem j_iincN (F : Fx l X g A own cc nL ret f mc ms) {i a : Nat} (hdg : decode cc pc = .ok (.iinc i 1, 3)) (hl : lget lv i = some (.int (nI a))) (hi : i < nL) (kk : J l X g A nL k n h (pc + 3) (lset lv i (.int (nI (a + 1)))) st) : J l X g A nL k n h pc lv st := j_iinc F hdg hl (nI_1 a) hi kk
theorem j_iaddN (F : Fx l X g A own cc nL ret f mc ms) {a b : Nat} (hdg : decode cc pc = .ok (.iadd, 1)) (kk : J l X g A nL k n h (pc + 1) lv (.int (nI (a + b)) :: st)) : J l X g A nL k n h pc lv (.int (nI b) :: .int (nI a) :: st) := j_iadd F hdg (j_int (nI_add a b) kk)
theorem j_imulN (F : Fx l X g A own cc nL ret f mc ms) {a b : Nat} (hdg : decode cc pc = .ok (.imul, 1)) (kk : J l X g A nL k n h (pc + 1) lv (.int (nI (a * b)) :: st)) : J l X g A nL k n h pc lv (.int (nI b) :: .int (nI a) :: st) := j_imul F hdg (j_int (pk_mul a b) kk)
theorem j_isubN (F : Fx l X g A own cc nL ret f mc ms) {a b : Nat} (hdg : decode cc pc = .ok (.isub, 1)) (hba : b ≤ a) (kk : J l X g A nL k n h (pc + 1) lv (.int (nI (a - b)) :: st)) : J l X g A nL k n h pc lv (.int (nI b) :: .int (nI a) :: st) := j_isub F hdg (j_int (pk_sub hba) kk)
theorem j_ialdN (F : Fx l X g A own cc nL ret f mc ms) {a N i : Nat} {r : Nat → Int32} (ha : h a = some (aI g N r)) (hin : i < N) (hN : N ≤ 2147483647) (hdg : decode cc pc = .ok (.iaload, 1)) (kk : J l X g A nL k n h (pc + 1) lv (.int (r i) :: st)) : J l X g A nL k n h pc lv (.int (nI i) :: .ref a :: st) := j_iald F ha (vp_in_nI hin (by omega)) hdg (by rw [nI_clamp (by omega)]; exact kk)
theorem j_laldN (F : Fx l X g A own cc nL ret f mc ms) {a N i : Nat} {r : Nat → Int64} (ha : h a = some (aJ g N r)) (hin : i < N) (hN : N ≤ 2147483647) (hdg : decode cc pc = .ok (.laload, 1)) (kk : J l X g A nL k n h (pc + 1) lv (.long (r i) :: st)) : J l X g A nL k n h pc lv (.int (nI i) :: .ref a :: st) := j_lald F ha (vp_in_nI hin (by omega)) hdg (by rw [nI_clamp (by omega)]; exact kk)
theorem j_aldRN (F : Fx l X g A own cc nL ret f mc ms) {a N i : Nat} {r : Nat → Option Nat} (ha : h a = some (aR g N r)) (hin : i < N) (hN : N ≤ 2147483647) (hdg : decode cc pc = .ok (.aaload, 1)) (kk : J l X g A nL k n h (pc + 1) lv (va_rf (r i) :: st)) : J l X g A nL k n h pc lv (.int (nI i) :: .ref a :: st) := j_aldR F ha (vp_in_nI hin (by omega)) hdg (by rw [nI_clamp (by omega)]; exact kk)
theorem j_aldEN (F : Fx l X g A own cc nL ret f mc ms) {a N i : Nat} {r : Nat → Option Nat} (ha : h a = some (aE g N r)) (hin : i < N) (hN : N ≤ 2147483647) (hdg : decode cc pc = .ok (.aaload, 1)) (kk : J l X g A nL k n h (pc + 1) lv (va_rf (r i) :: st)) : J l X g A nL k n h pc lv (.int (nI i) :: .ref a :: st) := j_aldE F ha (vp_in_nI hin (by omega)) hdg (by rw [nI_clamp (by omega)]; exact kk)
theorem j_aldIIN (F : Fx l X g A own cc nL ret f mc ms) {a N i : Nat} {r : Nat → Option Nat} (ha : h a = some (aII g N r)) (hin : i < N) (hN : N ≤ 2147483647) (hdg : decode cc pc = .ok (.aaload, 1)) (kk : J l X g A nL k n h (pc + 1) lv (va_rf (r i) :: st)) : J l X g A nL k n h pc lv (.int (nI i) :: .ref a :: st) := j_aldII F ha (vp_in_nI hin (by omega)) hdg (by rw [nI_clamp (by omega)]; exact kk)
theorem j_iastN (F : Fx l X g A own cc nL ret f mc ms) {a N i : Nat} {r : Nat → Int32} {x : Int32} (ha : h a = some (aI g N r)) (hin : i < N) (hN : N ≤ 2147483647) (hdg : decode cc pc = .ok (.iastore, 1)) (kk : J l X g A nL k n (hUp h a (aI g N (upd r i x))) (pc + 1) lv st) : J l X g A nL k n h pc lv (.int x :: .int (nI i) :: .ref a :: st) := j_iast F ha (vp_in_nI hin (by omega)) hdg (by rw [nI_clamp (by omega)]; exact kk)
theorem j_lastN (F : Fx l X g A own cc nL ret f mc ms) {a N i : Nat} {r : Nat → Int64} {x : Int64} (ha : h a = some (aJ g N r)) (hin : i < N) (hN : N ≤ 2147483647) (hdg : decode cc pc = .ok (.lastore, 1)) (kk : J l X g A nL k n (hUp h a (aJ g N (vp_updL r i x))) (pc + 1) lv st) : J l X g A nL k n h pc lv (.long x :: .int (nI i) :: .ref a :: st) := j_last F ha (vp_in_nI hin (by omega)) hdg (by rw [nI_clamp (by omega)]; exact kk)
theorem j_astRqN (F : Fx l X g A own cc nL ret f mc ms) {a N i : Nat} {x : Option Nat} {r : Nat → Option Nat} (ha : h a = some (aR g N r)) (hv : ∀ v, x = some v → ∃ vs, h v = some (.inr (6, vs))) (hin : i < N) (hN : N ≤ 2147483647) (hdg : decode cc pc = .ok (.aastore, 1)) (kk : J l X g A nL k n (hUp h a (aR g N (va_up r i x))) (pc + 1) lv st) : J l X g A nL k n h pc lv (va_rf x :: .int (nI i) :: .ref a :: st) := j_astRq F ha hv (vp_in_nI hin (by omega)) hdg (by rw [nI_clamp (by omega)]; exact kk)
theorem j_astRsN (F : Fx l X g A own cc nL ret f mc ms) {a N i v : Nat} {vs : List Value} {r : Nat → Option Nat} (ha : h a = some (aR g N r)) (hv : h v = some (.inr (6, vs))) (hin : i < N) (hN : N ≤ 2147483647) (hdg : decode cc pc = .ok (.aastore, 1)) (kk : J l X g A nL k n (hUp h a (aR g N (va_up r i (some v)))) (pc + 1) lv st) : J l X g A nL k n h pc lv (.ref v :: .int (nI i) :: .ref a :: st) := j_astR F ha hv (vp_in_nI hin (by omega)) hdg (by rw [nI_clamp (by omega)]; exact kk)
theorem j_astRnN (F : Fx l X g A own cc nL ret f mc ms) {a N i : Nat} {r : Nat → Option Nat} (ha : h a = some (aR g N r)) (hin : i < N) (hN : N ≤ 2147483647) (hdg : decode cc pc = .ok (.aastore, 1)) (kk : J l X g A nL k n (hUp h a (aR g N (va_up r i none))) (pc + 1) lv st) : J l X g A nL k n h pc lv (.null :: .int (nI i) :: .ref a :: st) := j_astRN F ha (vp_in_nI hin (by omega)) hdg (by rw [nI_clamp (by omega)]; exact kk)
theorem j_astEqN (F : Fx l X g A own cc nL ret f mc ms) {a N i : Nat} {x : Option Nat} {r : Nat → Option Nat} (ha : h a = some (aE g N r)) (hv : ∀ v, x = some v → ∃ vs, h v = some (.inr (0, vs))) (hin : i < N) (hN : N ≤ 2147483647) (hdg : decode cc pc = .ok (.aastore, 1)) (kk : J l X g A nL k n (hUp h a (aE g N (va_up r i x))) (pc + 1) lv st) : J l X g A nL k n h pc lv (va_rf x :: .int (nI i) :: .ref a :: st) := j_astEq F ha hv (vp_in_nI hin (by omega)) hdg (by rw [nI_clamp (by omega)]; exact kk)
theorem j_astEsN (F : Fx l X g A own cc nL ret f mc ms) {a N i v : Nat} {vs : List Value} {r : Nat → Option Nat} (ha : h a = some (aE g N r)) (hv : h v = some (.inr (0, vs))) (hin : i < N) (hN : N ≤ 2147483647) (hdg : decode cc pc = .ok (.aastore, 1)) (kk : J l X g A nL k n (hUp h a (aE g N (va_up r i (some v)))) (pc + 1) lv st) : J l X g A nL k n h pc lv (.ref v :: .int (nI i) :: .ref a :: st) := j_astE F ha hv (vp_in_nI hin (by omega)) hdg (by rw [nI_clamp (by omega)]; exact kk)
theorem j_astEnN (F : Fx l X g A own cc nL ret f mc ms) {a N i : Nat} {r : Nat → Option Nat} (ha : h a = some (aE g N r)) (hin : i < N) (hN : N ≤ 2147483647) (hdg : decode cc pc = .ok (.aastore, 1)) (kk : J l X g A nL k n (hUp h a (aE g N (va_up r i none))) (pc + 1) lv st) : J l X g A nL k n h pc lv (.null :: .int (nI i) :: .ref a :: st) := j_astEN F ha (vp_in_nI hin (by omega)) hdg (by rw [nI_clamp (by omega)]; exact kk)
theorem j_iincM (F : Fx l X g A own cc nL ret f mc ms) {i a : Nat} (hdg : decode cc pc = .ok (.iinc i (-1), 3)) (hl : lget lv i = some (.int (nI (a + 1)))) (hi : i < nL) (kk : J l X g A nL k n h (pc + 3) (lset lv i (.int (nI a))) st) : J l X g A nL k n h pc lv st := j_iinc F hdg hl (pk_m1 a) hi kk
theorem j_refS {x : Option Nat} {a : Nat} (e : x = some a) (kk : J l X g A nL k n h pc lv (.ref a :: st)) : J l X g A nL k n h pc lv (va_rf x :: st) := by rw [e]; exact kk
theorem j_refN {x : Option Nat} (e : x = none) (kk : J l X g A nL k n h pc lv (.null :: st)) : J l X g A nL k n h pc lv (va_rf x :: st) := by rw [e]; exact kk
theorem j_ldcw (F : Fx l X g A own cc nL ret f mc ms) {index : Nat} {v : Int32} (hw : Cond.constant own index v ∈ wU) (hdg : decode cc pc = .ok (.ldc_w index, 3)) (kk : J l X g A nL k n h (pc + 3) lv (.int v :: st)) : J l X g A nL k n h pc lv st := fun H locs ls h1 h2 h3 => lv_ldcw F.1 F.2.1 F.ow (F.w hw) hdg (kk H locs ls h1 h2 h3)
end JN
end
section
/-! ===== Bgpreplay$Path: its size, and a row of networks ===== -/
theorem ne_of {h : HF} {a b : Nat} {x : va_E} (ha : h a = none) (hb : h b = some x) : a ≠ b := fun e => by subst e; rw [ha] at hb; cases hb
theorem ne_of2 {h : HF} {a b : Nat} {x y : va_E} (ha : h a = some x) (hb : h b = some y) (n : x ≠ y) : a ≠ b := fun e => by subst e; rw [ha] at hb; exact n (Option.some.inj hb)
/-- the path object p, its row at a, of z networks N -/
def isPath (g : GG) (h : HF) (p a z : Nat) (N : Nat → Nat) : Prop := ∃ r : Nat → Int32, h p = some (.inr (2, [.ref a, .int (nI z)])) ∧ h a = some (aI g 8 r) ∧ z ≤ 8 ∧ ∀ j, j < z → r j = nI (N j)
/-- the network at a place, -1 if there is none -/
def pAt (z : Nat) (N : Nat → Nat) (i : Int) : Int32 := if 0 ≤ i ∧ i < z then nI (N i.toNat) else -1
/-- a network is in the path, and isn't the last one -/
def pLeft (z : Nat) (N : Nat → Nat) (k : Int32) : Bool := decide (pAt z N (z - 1) ≠ k ∧ ∃ j, j < z ∧ nI (N j) = k)
section PATH
variable {l : Launch} {g : GG} {A : Nat → Prop} {h : HF}
theorem c_X2_size {p a z : Nat} {N : Nat → Nat} (hp : isPath g h p a z N) : MI l g A h yX2_size cX2_size 1 (some .int) 0 0 0 [.ref p] (fun r h1 => r = nI z ∧ h1 = h) := by
  obtain ⟨rr, e1, e2, hz, hN⟩ := hp
  refine j_met (by decide +kernel) (Nat.le_of_ble_eq_true rfl) (fun X F hn hQ => ?_)
  first | refine j_aload_n (pc := 0) F dX2_size_0 rfl ?_ | refine j_aload_nq (pc := 0) F dX2_size_0 rfl ?_
  refine j_get (pc := 1) F fg_X2_15 (by first | assumption | exact hUp_s) (by rfl) dX2_size_1 ?_
  exact j_iret F hQ rfl rfl (by omega) (by omega) dX2_size_4 ⟨rfl, rfl⟩
theorem c_X2_isFull {p a z : Nat} {N : Nat → Nat} (hp : isPath g h p a z N) : MI l g A h yX2_isFull cX2_isFull 1 (some .boolean) 0 0 0 [.ref p] (fun r h1 => r = bI (decide (8 ≤ z)) ∧ h1 = h) := by
  obtain ⟨rr, e1, e2, hz, hN⟩ := hp
  refine j_met (by decide +kernel) (Nat.le_of_ble_eq_true rfl) (fun X F hn hQ => ?_)
  first | refine j_aload_n (pc := 0) F dX2_isFull_0 rfl ?_ | refine j_aload_nq (pc := 0) F dX2_isFull_0 rfl ?_
  refine j_get (pc := 1) F fg_X2_15 (by first | assumption | exact hUp_s) (by rfl) dX2_isFull_1 ?_
  refine j_bipush (pc := 4) (v := (nI 8)) F dX2_isFull_4 (by decide) ?_
  first | refine j_icmp_ltN (pc := 6) F 13 dX2_isFull_6 (by decide) (by omega) (by omega) (fun c => ?_) (fun c => ?_) | refine j_icmp_ltIN (pc := 6) F 13 dX2_isFull_6 (by decide) (by omega) (fun c => ?_) (fun c => ?_) | refine j_icmp_ltNI (pc := 6) F 13 dX2_isFull_6 (by decide) (by omega) (fun c => ?_) (fun c => ?_) | refine j_icmp_ltI (pc := 6) F 13 dX2_isFull_6 (by decide) (fun c => ?_) (fun c => ?_)
  · refine j_iconst (pc := 13) (v := (nI 0)) F dX2_isFull_13 (by decide) ?_
    exact j_iret F hQ rfl rfl (by omega) (by omega) dX2_isFull_14 ⟨by rw [decide_eq_false (by omega)]; rfl, rfl⟩
  · refine j_iconst (pc := 9) (v := (nI 1)) F dX2_isFull_9 (by decide) ?_
    refine j_goto (pc := 10) F 14 dX2_isFull_10 (by decide) ?_
    exact j_iret F hQ rfl rfl (by omega) (by omega) dX2_isFull_14 ⟨by rw [decide_eq_true (by omega)]; rfl, rfl⟩
theorem c_X2_networkAt {p a z : Nat} {N : Nat → Nat} {x : Int32} (hp : isPath g h p a z N) : MI l g A h yX2_networkAt cX2_networkAt 2 (some .int) 0 0 0 [.ref p, .int x] (fun r h1 => r = pAt z N x.toInt ∧ h1 = h) := by
  obtain ⟨rr, e1, e2, hz, hN⟩ := hp
  refine j_met (by decide +kernel) (Nat.le_of_ble_eq_true rfl) (fun X F hn hQ => ?_)
  refine j_iload_n (pc := 0) F dX2_networkAt_0 rfl ?_
  first | refine j_if_ltN (pc := 1) F 12 dX2_networkAt_1 (by decide) (by omega) (fun c => ?_) (fun c => ?_) | refine j_if_ltI (pc := 1) F 12 dX2_networkAt_1 (by decide) (fun c => ?_) (fun c => ?_)
  · refine j_iconst (pc := 12) (v := (-1)) F dX2_networkAt_12 (by decide) ?_
    refine j_goto (pc := 13) F 22 dX2_networkAt_13 (by decide) ?_
    exact j_iret F hQ rfl rfl (by omega) (by omega) dX2_networkAt_22 ⟨by unfold pAt; rw [if_neg (by omega)], rfl⟩
  · refine j_iload_n (pc := 4) F dX2_networkAt_4 rfl ?_
    first | refine j_aload_n (pc := 5) F dX2_networkAt_5 rfl ?_ | refine j_aload_nq (pc := 5) F dX2_networkAt_5 rfl ?_
    refine j_get (pc := 6) F fg_X2_15 (by first | assumption | exact hUp_s) (by rfl) dX2_networkAt_6 ?_
    first | refine j_icmp_ltN (pc := 9) F 16 dX2_networkAt_9 (by decide) (by omega) (by omega) (fun c2 => ?_) (fun c2 => ?_) | refine j_icmp_ltIN (pc := 9) F 16 dX2_networkAt_9 (by decide) (by omega) (fun c2 => ?_) (fun c2 => ?_) | refine j_icmp_ltNI (pc := 9) F 16 dX2_networkAt_9 (by decide) (by omega) (fun c2 => ?_) (fun c2 => ?_) | refine j_icmp_ltI (pc := 9) F 16 dX2_networkAt_9 (by decide) (fun c2 => ?_) (fun c2 => ?_)
    · obtain ⟨j, hj, rfl, ej⟩ := q_nat c
      first | refine j_aload_n (pc := 16) F dX2_networkAt_16 rfl ?_ | refine j_aload_nq (pc := 16) F dX2_networkAt_16 rfl ?_
      refine j_get (pc := 17) F fg_X2_9 (by first | assumption | exact hUp_s) (by rfl) dX2_networkAt_17 ?_
      refine j_iload_n (pc := 20) F dX2_networkAt_20 rfl ?_
      refine j_ialdN (pc := 21) F (by first | assumption | exact hUp_s) (by omega) (by decide) dX2_networkAt_21 ?_
      exact j_iret F hQ rfl rfl (by omega) (by omega) dX2_networkAt_22 ⟨by unfold pAt; rw [if_pos (by omega), hN _ (by omega), ej]; rfl, rfl⟩
    · refine j_iconst (pc := 12) (v := (-1)) F dX2_networkAt_12 (by decide) ?_
      refine j_goto (pc := 13) F 22 dX2_networkAt_13 (by decide) ?_
      exact j_iret F hQ rfl rfl (by omega) (by omega) dX2_networkAt_22 ⟨by unfold pAt; rw [if_neg (by omega)], rfl⟩
theorem c_X2_origin {p a z : Nat} {N : Nat → Nat} (hp : isPath g h p a z N) : MI l g A h yX2_origin cX2_origin 1 (some .int) 1 0 0 [.ref p] (fun r h1 => r = pAt z N (z - 1) ∧ h1 = h) := by
  have hp0 := hp
  obtain ⟨rr, e1, e2, hz, hN⟩ := hp
  refine j_met (by decide +kernel) (Nat.le_of_ble_eq_true rfl) (fun X F hn hQ => ?_)
  first | refine j_aload_n (pc := 0) F dX2_origin_0 rfl ?_ | refine j_aload_nq (pc := 0) F dX2_origin_0 rfl ?_
  first | refine j_aload_n (pc := 1) F dX2_origin_1 rfl ?_ | refine j_aload_nq (pc := 1) F dX2_origin_1 rfl ?_
  refine j_get (pc := 2) F fg_X2_15 (by first | assumption | exact hUp_s) (by rfl) dX2_origin_2 ?_
  refine j_iconst (pc := 5) (v := (nI 1)) F dX2_origin_5 (by decide) ?_
  refine j_isub (pc := 6) F dX2_origin_6 ?_
  refine j_ri (j_runV (pc := 7) F (c_X2_networkAt hp0) m_X2_networkAt mv_X2_networkAt lk_X2_19 (by first | assumption | exact hUp_s) rfl ⟨by decide, by decide⟩ (Nat.le_of_ble_eq_true rfl) ⟨by omega, by omega⟩ rfl dX2_origin_7) (fun r h1 hp => ?_)
  obtain ⟨rfl, rfl⟩ := hp
  exact j_iret F hQ rfl rfl (by omega) (by omega) dX2_origin_10 ⟨by rw [pk_sub_toInt (by omega) (by omega)]; rfl, rfl⟩
theorem c_X2_hasLeft {p a z : Nat} {N : Nat → Nat} {x : Int32} (hp : isPath g h p a z N) : MI l g A h yX2_hasLeft cX2_hasLeft 3 (some .boolean) 2 0 0 [.ref p, .int x] (fun r h1 => r = bI (pLeft z N x) ∧ h1 = h) := by
  have hp0 := hp
  obtain ⟨rr, e1, e2, hz, hN⟩ := hp
  refine j_met (by decide +kernel) (Nat.le_of_ble_eq_true rfl) (fun X F hn hQ => ?_)
  first | refine j_aload_n (pc := 0) F dX2_hasLeft_0 rfl ?_ | refine j_aload_nq (pc := 0) F dX2_hasLeft_0 rfl ?_
  refine j_ri (j_runV (pc := 1) F (c_X2_origin hp0) m_X2_origin mv_X2_origin lk_X2_23 (by first | assumption | exact hUp_s) rfl ⟨by decide, by decide⟩ (Nat.le_of_ble_eq_true rfl) ⟨by omega, by omega⟩ rfl dX2_hasLeft_1) (fun r h1 hp => ?_)
  obtain ⟨rfl, rfl⟩ := hp
  refine j_iload_n (pc := 4) F dX2_hasLeft_4 rfl ?_
  refine j_icmp_ne (pc := 5) F 10 dX2_hasLeft_5 (by decide) (fun c => ?_) (fun c => ?_)
  · refine j_iconst (pc := 10) (v := (nI 0)) F dX2_hasLeft_10 (by decide) ?_
    refine j_istore_n (pc := 11) F dX2_hasLeft_11 (by decide) ?_
    have loop : ∀ m i, z < i + m → i ≤ z → (∀ j, j < i → nI (N j) ≠ x) → J l X g A 3 (0 + 0) (0 + 0) h1 12 [(0, .ref p), (1, .int x), (2, .int (nI i))] [] := by
      intro m
      induction m with
      | zero => intro i q1 q2; omega
      | succ m ih =>
        intro i q1 q2 q3
        refine j_iload_n (pc := 12) F dX2_hasLeft_12 rfl ?_
        first | refine j_aload_n (pc := 13) F dX2_hasLeft_13 rfl ?_ | refine j_aload_nq (pc := 13) F dX2_hasLeft_13 rfl ?_
        refine j_get (pc := 14) F fg_X2_15 (by first | assumption | exact hUp_s) (by rfl) dX2_hasLeft_14 ?_
        first | refine j_icmp_geN (pc := 17) F 38 dX2_hasLeft_17 (by decide) (by omega) (by omega) (fun c3 => ?_) (fun c3 => ?_) | refine j_icmp_geIN (pc := 17) F 38 dX2_hasLeft_17 (by decide) (by omega) (fun c3 => ?_) (fun c3 => ?_) | refine j_icmp_geNI (pc := 17) F 38 dX2_hasLeft_17 (by decide) (by omega) (fun c3 => ?_) (fun c3 => ?_) | refine j_icmp_geI (pc := 17) F 38 dX2_hasLeft_17 (by decide) (fun c3 => ?_) (fun c3 => ?_)
        · refine j_iconst (pc := 38) (v := (nI 0)) F dX2_hasLeft_38 (by decide) ?_
          refine j_iret F hQ rfl rfl (by omega) (by omega) dX2_hasLeft_39 ⟨?_, rfl⟩
          rw [pLeft, decide_eq_false]
          · rfl
          · rintro ⟨-, j, z1, z2⟩
            exact q3 j (by omega) z2
        · first | refine j_aload_n (pc := 20) F dX2_hasLeft_20 rfl ?_ | refine j_aload_nq (pc := 20) F dX2_hasLeft_20 rfl ?_
          refine j_get (pc := 21) F fg_X2_9 (by first | assumption | exact hUp_s) (by rfl) dX2_hasLeft_21 ?_
          refine j_iload_n (pc := 24) F dX2_hasLeft_24 rfl ?_
          refine j_ialdN (pc := 25) F (by first | assumption | exact hUp_s) (by omega) (by decide) dX2_hasLeft_25 ?_
          refine j_int (hN i (by omega)) ?_
          refine j_iload_n (pc := 26) F dX2_hasLeft_26 rfl ?_
          refine j_icmp_ne (pc := 27) F 32 dX2_hasLeft_27 (by decide) (fun c4 => ?_) (fun c4 => ?_)
          · first | refine j_iincN (pc := 32) F dX2_hasLeft_32 rfl (by decide) ?_ | refine j_iinc (pc := 32) F dX2_hasLeft_32 rfl rfl (by decide) ?_
            refine j_goto (pc := 35) F 12 dX2_hasLeft_35 (by decide) ?_
            refine j_lv [(0, .ref p), (1, .int x), (2, .int (nI (i + 1)))] ⟨rfl, rfl, rfl, trivial⟩ ?_
            refine ih (i + 1) (by omega) (by omega) (fun j hj => ?_)
            rcases Nat.lt_or_ge j i with z1 | z1
            · exact q3 j z1
            · rw [show j = i by omega]; exact c4
          · refine j_iconst (pc := 30) (v := (nI 1)) F dX2_hasLeft_30 (by decide) ?_
            refine j_iret F hQ rfl rfl (by omega) (by omega) dX2_hasLeft_31 ⟨?_, rfl⟩
            rw [pLeft, decide_eq_true]
            · rfl
            · exact ⟨c, i, by omega, c4⟩
    refine j_lv [(0, .ref p), (1, .int x), (2, .int (nI 0))] ⟨rfl, rfl, rfl, trivial⟩ ?_
    exact loop (z + 1) 0 (by omega) (by omega) (fun j hj => by omega)
  · refine j_iconst (pc := 8) (v := (nI 0)) F dX2_hasLeft_8 (by decide) ?_
    refine j_iret F hQ rfl rfl (by omega) (by omega) dX2_hasLeft_9 ⟨?_, rfl⟩
    rw [pLeft, decide_eq_false]
    · rfl
    · rintro ⟨z1, -⟩
      exact z1 c
theorem c_X2_add {p a z v : Nat} {N : Nat → Nat} (hz8 : z < 8) (hp : isPath g h p a z N) : MVo l g A h yX2_add cX2_add 2 1 0 0 [.ref p, .int (nI v)] (fun h1 => isPath g h1 p a (z + 1) (fun j => if j = z then v else N j) ∧ ∀ b, b ≠ p → b ≠ a → h1 b = h b) := by
  have hp0 := hp
  obtain ⟨rr, e1, e2, hz, hN⟩ := hp
  have hpa : p ≠ a := ne_of2 e1 e2 (fun z => by cases z)
  refine j_met (by decide +kernel) (Nat.le_of_ble_eq_true rfl) (fun X F hn hQ => ?_)
  first | refine j_aload_n (pc := 0) F dX2_add_0 rfl ?_ | refine j_aload_nq (pc := 0) F dX2_add_0 rfl ?_
  refine j_ri (j_runV (pc := 1) F (c_X2_isFull hp0) m_X2_isFull mv_X2_isFull lk_X2_27 (by first | assumption | exact hUp_s) rfl ⟨by decide, by decide⟩ (Nat.le_of_ble_eq_true rfl) ⟨by omega, by omega⟩ rfl dX2_add_1) (fun r h1 hp => ?_)
  obtain ⟨rfl, rfl⟩ := hp
  first | refine j_if_neB (pc := 4) F 27 dX2_add_4 (by decide) (fun c => ?_) (fun c => ?_) | refine j_if_neN (pc := 4) F 27 dX2_add_4 (by decide) (by omega) (fun c => ?_) (fun c => ?_) | refine j_if_neI (pc := 4) F 27 dX2_add_4 (by decide) (fun c => ?_) (fun c => ?_)
  · simp at c; omega
  · first | refine j_aload_n (pc := 7) F dX2_add_7 rfl ?_ | refine j_aload_nq (pc := 7) F dX2_add_7 rfl ?_
    refine j_get (pc := 8) F fg_X2_9 (by first | assumption | exact hUp_s) (by rfl) dX2_add_8 ?_
    first | refine j_aload_n (pc := 11) F dX2_add_11 rfl ?_ | refine j_aload_nq (pc := 11) F dX2_add_11 rfl ?_
    refine j_get (pc := 12) F fg_X2_15 (by first | assumption | exact hUp_s) (by rfl) dX2_add_12 ?_
    refine j_iload_n (pc := 15) F dX2_add_15 rfl ?_
    refine j_iastN (pc := 16) F (by first | assumption | exact hUp_s) (by omega) (by decide) dX2_add_16 ?_
    have e3 : hUp h1 a (aI g 8 (upd rr z (nI v))) p = some (.inr (2, [.ref a, .int (nI z)])) := (hUp_n hpa).trans e1
    first | refine j_aload_n (pc := 17) F dX2_add_17 rfl ?_ | refine j_aload_nq (pc := 17) F dX2_add_17 rfl ?_
    refine j_dup (pc := 18) F dX2_add_18 rfl ?_
    refine j_get (pc := 19) F fg_X2_15 (by first | assumption | exact hUp_s) (by rfl) dX2_add_19 ?_
    refine j_iconst (pc := 22) (v := (nI 1)) F dX2_add_22 (by decide) ?_
    first | refine j_iaddN (pc := 23) F dX2_add_23 ?_ | refine j_iadd (pc := 23) F dX2_add_23 ?_
    refine j_put (pc := 24) F fp_X2_15 (by first | assumption | exact hUp_s) (by rfl) (by rfl) (Nat.le_of_ble_eq_true rfl) dX2_add_24 ?_
    refine j_vret F hQ rfl (by omega) (by omega) dX2_add_27 ⟨⟨upd rr z (nI v), ?_, ?_, by omega, fun j hj => ?_⟩, fun b q1 q2 => ?_⟩
    · rw [hUp_s]; rfl
    · rw [hUp_n (Ne.symm hpa), hUp_s]
    · by_cases hjz : j = z
      · subst hjz; rw [pk_us]; simp
      · rw [pk_un hjz, hN j (by omega)]; simp [hjz]
    · rw [hUp_n q1, hUp_n q2]
theorem c_X2_clear {p a z : Nat} {N : Nat → Nat} (hp : isPath g h p a z N) : MVo l g A h yX2_clear cX2_clear 1 0 0 0 [.ref p] (fun h1 => isPath g h1 p a 0 N ∧ ∀ b, b ≠ p → h1 b = h b) := by
  obtain ⟨rr, e1, e2, hz, hN⟩ := hp
  have hpa : p ≠ a := ne_of2 e1 e2 (fun z => by cases z)
  refine j_met (by decide +kernel) (Nat.le_of_ble_eq_true rfl) (fun X F hn hQ => ?_)
  first | refine j_aload_n (pc := 0) F dX2_clear_0 rfl ?_ | refine j_aload_nq (pc := 0) F dX2_clear_0 rfl ?_
  refine j_iconst (pc := 1) (v := (nI 0)) F dX2_clear_1 (by decide) ?_
  refine j_put (pc := 2) F fp_X2_15 (by first | assumption | exact hUp_s) (by rfl) (by rfl) (Nat.le_of_ble_eq_true rfl) dX2_clear_2 ?_
  refine j_vret F hQ rfl (by omega) (by omega) dX2_clear_5 ⟨⟨rr, ?_, ?_, by omega, fun j hj => by omega⟩, fun b q1 => ?_⟩
  · rw [hUp_s]; rfl
  · rw [hUp_n (Ne.symm hpa), e2]
  · rw [hUp_n q1]
theorem c_X2_init {p : Nat} (hp : h p = some (.inr (2, [.null, .int 0]))) : MVo l g A h yX2_init cX2_init 1 1 1 8 [.ref p] (fun h1 => ∃ a, h a = none ∧ isPath g h1 p a 0 (fun _ => 0) ∧ ∀ b, b ≠ p → b ≠ a → h1 b = h b) := by
  refine j_met (by decide +kernel) (Nat.le_of_ble_eq_true rfl) (fun X F hn hQ => ?_)
  first | refine j_aload_n (pc := 0) F dX2_init_0 rfl ?_ | refine j_aload_nq (pc := 0) F dX2_init_0 rfl ?_
  refine j_objInit (pc := 1) F (by omega) lk_X2_3 (Nat.le_of_ble_eq_true rfl) dX2_init_1 ?_
  first | refine j_aload_n (pc := 4) F dX2_init_4 rfl ?_ | refine j_aload_nq (pc := 4) F dX2_init_4 rfl ?_
  refine j_bipush (pc := 5) (v := (nI 8)) F dX2_init_5 (by decide) ?_
  refine j_newaI (pc := 7) F (N := 8) (by decide) (by decide) (by decide) (by omega) (by omega) dX2_init_7 (fun q hq hA => ?_)
  have hpq : p ≠ q := Ne.symm (ne_of hq hp)
  have e3 : hUp h q (aI g 8 (fun _ => 0)) p = some (.inr (2, [.null, .int 0])) := (hUp_n hpq).trans hp
  refine j_putF (pc := 9) F fp_X2_9 hn rfl (by first | assumption | exact hUp_s) (by rfl) (by rfl) (Nat.le_of_ble_eq_true rfl) dX2_init_9 ?_
  first | refine j_aload_n (pc := 12) F dX2_init_12 rfl ?_ | refine j_aload_nq (pc := 12) F dX2_init_12 rfl ?_
  refine j_iconst (pc := 13) (v := (nI 0)) F dX2_init_13 (by decide) ?_
  refine j_put (pc := 14) F fp_X2_15 (by first | assumption | exact hUp_s) (by rfl) (by rfl) (Nat.le_of_ble_eq_true rfl) dX2_init_14 ?_
  refine j_vret F hQ rfl (by omega) (by omega) dX2_init_17 ⟨q, hq, ⟨fun _ => 0, ?_, ?_, by omega, fun j hj => by omega⟩, fun b q1 q2 => ?_⟩
  · rw [hUp_s]; rfl
  · rw [hUp_n (Ne.symm hpq), hUp_n (Ne.symm hpq), hUp_s]
  · rw [hUp_n q1, hUp_n q1, hUp_n q2]
theorem c_X2_copy {p a z : Nat} {N : Nat → Nat} (hp : isPath g h p a z N) : MQo l g A h yX2_copy cX2_copy 3 (some (.object "Bgpreplay$Path")) 2 2 10 [.ref p] (fun r h1 => ∃ q b, r = some q ∧ h q = none ∧ h b = none ∧ isPath g h1 q b z N ∧ ∀ x, x ≠ q → x ≠ b → h1 x = h x) := by
  obtain ⟨rr, e1, e2, hz, hN⟩ := hp
  refine j_met (by decide +kernel) (Nat.le_of_ble_eq_true rfl) (fun X F hn hQ => ?_)
  refine j_new (pc := 0) F (ci := 2) (fs := [.null, .int 0]) tyX2_ok fw_X2 lc_X2_10 iw_X2 nw_X2 rfl (fun j hj => by rcases (show j = 0 ∨ j = 1 by omega) with rfl | rfl <;> rfl) (by omega) (by omega) dX2_copy_0 (fun q hq hA => ?_)
  refine j_dup (pc := 3) F dX2_copy_3 rfl ?_
  have e3 : hUp h q (.inr (2, [.null, .int 0])) q = some (.inr (2, [.null, .int 0])) := hUp_s
  refine j_rv (j_runI (pc := 4) F (c_X2_init e3) m_X2_init rfl mi_X2_init lk_X2_31 ⟨by decide, by decide⟩ (Nat.le_of_ble_eq_true rfl) ⟨by omega, by omega⟩ rfl dX2_copy_4) (fun h1 hp => ?_)
  obtain ⟨b, hb, hp, hfr⟩ := hp
  have hbq : b ≠ q := ne_of hb e3
  have hb0 : h b = none := by rw [hUp_n hbq] at hb; exact hb
  have fr : ∀ x, x ≠ q → x ≠ b → h1 x = h x := fun x q1 q2 => by rw [hfr x q1 q2, hUp_n q1]
  have hpq : p ≠ q := Ne.symm (ne_of hq e1)
  have hpb : p ≠ b := Ne.symm (ne_of hb0 e1)
  have haq : a ≠ q := Ne.symm (ne_of hq e2)
  have hab : a ≠ b := Ne.symm (ne_of hb0 e2)
  first | refine j_astore_n (pc := 7) F dX2_copy_7 (by decide) ?_ | refine j_astore_nq (pc := 7) F dX2_copy_7 (by decide) ?_
  refine j_iconst (pc := 8) (v := (nI 0)) F dX2_copy_8 (by decide) ?_
  refine j_istore_n (pc := 9) F dX2_copy_9 (by decide) ?_
  have loop : ∀ m i (h2 : HF) (M : Nat → Nat), z < i + m → i ≤ z → isPath g h2 q b i M → (∀ j, j < i → M j = N j) → (∀ x, x ≠ q → x ≠ b → h2 x = h x) → J l X g A 3 (0 + 1 + 1) (0 + 2 + 8) h2 10 [(0, .ref p), (1, .ref q), (2, .int (nI i))] [] := by
    intro m
    induction m with
    | zero => intro i h2 M q1 q2; omega
    | succ m ih =>
      intro i h2 M q1 q2 q3 q4 q5
      have e1' : h2 p = some (.inr (2, [.ref a, .int (nI z)])) := (q5 p hpq hpb).trans e1
      have e2' : h2 a = some (aI g 8 rr) := (q5 a haq hab).trans e2
      have q3' := q3
      obtain ⟨r2, g1, g2, -, g4⟩ := q3'
      refine j_iload_n (pc := 10) F dX2_copy_10 rfl ?_
      first | refine j_aload_n (pc := 11) F dX2_copy_11 rfl ?_ | refine j_aload_nq (pc := 11) F dX2_copy_11 rfl ?_
      refine j_get (pc := 12) F fg_X2_15 (by first | assumption | exact hUp_s) (by rfl) dX2_copy_12 ?_
      first | refine j_icmp_geN (pc := 15) F 34 dX2_copy_15 (by decide) (by omega) (by omega) (fun c => ?_) (fun c => ?_) | refine j_icmp_geIN (pc := 15) F 34 dX2_copy_15 (by decide) (by omega) (fun c => ?_) (fun c => ?_) | refine j_icmp_geNI (pc := 15) F 34 dX2_copy_15 (by decide) (by omega) (fun c => ?_) (fun c => ?_) | refine j_icmp_geI (pc := 15) F 34 dX2_copy_15 (by decide) (fun c => ?_) (fun c => ?_)
      · first | refine j_aload_n (pc := 34) F dX2_copy_34 rfl ?_ | refine j_aload_nq (pc := 34) F dX2_copy_34 rfl ?_
        refine j_aret F hQ rfl (by omega) (by omega) dX2_copy_35 (r := some q) ⟨q, b, rfl, hq, hb0, ?_, q5⟩
        have : i = z := by omega
        subst this
        exact ⟨r2, g1, g2, hz, fun j hj => by rw [g4 j hj, q4 j hj]⟩
      · first | refine j_aload_n (pc := 18) F dX2_copy_18 rfl ?_ | refine j_aload_nq (pc := 18) F dX2_copy_18 rfl ?_
        first | refine j_aload_n (pc := 19) F dX2_copy_19 rfl ?_ | refine j_aload_nq (pc := 19) F dX2_copy_19 rfl ?_
        refine j_get (pc := 20) F fg_X2_9 (by first | assumption | exact hUp_s) (by rfl) dX2_copy_20 ?_
        refine j_iload_n (pc := 23) F dX2_copy_23 rfl ?_
        refine j_ialdN (pc := 24) F (by first | assumption | exact hUp_s) (by omega) (by decide) dX2_copy_24 ?_
        refine j_int (hN i (by omega)) ?_
        refine j_rv (j_runV (pc := 25) F (c_X2_add (by omega) q3) m_X2_add mv_X2_add lk_X2_32 (by first | assumption | exact hUp_s) rfl ⟨by decide, by decide⟩ (Nat.le_of_ble_eq_true rfl) ⟨by omega, by omega⟩ rfl dX2_copy_25) (fun h3 hp3 => ?_)
        obtain ⟨hp3, hfr3⟩ := hp3
        first | refine j_iincN (pc := 28) F dX2_copy_28 rfl (by decide) ?_ | refine j_iinc (pc := 28) F dX2_copy_28 rfl rfl (by decide) ?_
        refine j_goto (pc := 31) F 10 dX2_copy_31 (by decide) ?_
        refine j_lv [(0, .ref p), (1, .ref q), (2, .int (nI (i + 1)))] ⟨rfl, rfl, rfl, trivial⟩ ?_
        refine ih (i + 1) h3 _ (by omega) (by omega) hp3 (fun j hj => ?_) (fun x z1 z2 => by rw [hfr3 x z1 z2, q5 x z1 z2])
        by_cases hji : j = i
        · subst hji; simp
        · simp only [hji, if_false]; exact q4 j (by omega)
  refine j_lv [(0, .ref p), (1, .ref q), (2, .int (nI 0))] ⟨rfl, rfl, rfl, trivial⟩ ?_
  exact loop (z + 1) 0 h1 _ (by omega) (by omega) hp (fun j hj => by omega) fr
/-- two paths are alike -/
def pLike (z : Nat) (N : Nat → Nat) (z2 : Nat) (N2 : Nat → Nat) : Bool := decide (z = z2 ∧ ∀ j, j < z → N j = N2 j)
theorem c_X2_isLike {p a z p2 a2 z2 : Nat} {N N2 : Nat → Nat} (hp : isPath g h p a z N) (hp2 : isPath g h p2 a2 z2 N2) (hb : ∀ j, j < z → N j < 2 ^ 31) (hb2 : ∀ j, j < z2 → N2 j < 2 ^ 31) : MI l g A h yX2_isLike cX2_isLike 3 (some .boolean) 0 0 0 [.ref p, .ref p2] (fun r h1 => r = bI (pLike z N z2 N2) ∧ h1 = h) := by
  obtain ⟨rr, e1, e2, hz, hN⟩ := hp
  obtain ⟨r2, f1, f2, hz2, hN2⟩ := hp2
  refine j_met (by decide +kernel) (Nat.le_of_ble_eq_true rfl) (fun X F hn hQ => ?_)
  first | refine j_aload_n (pc := 0) F dX2_isLike_0 rfl ?_ | refine j_aload_nq (pc := 0) F dX2_isLike_0 rfl ?_
  refine j_get (pc := 1) F fg_X2_15 (by first | assumption | exact hUp_s) (by rfl) dX2_isLike_1 ?_
  first | refine j_aload_n (pc := 4) F dX2_isLike_4 rfl ?_ | refine j_aload_nq (pc := 4) F dX2_isLike_4 rfl ?_
  refine j_get (pc := 5) F fg_X2_15 (by first | assumption | exact hUp_s) (by rfl) dX2_isLike_5 ?_
  first | refine j_icmp_eqN (pc := 8) F 13 dX2_isLike_8 (by decide) (by omega) (by omega) (fun c => ?_) (fun c => ?_) | refine j_icmp_eqIN (pc := 8) F 13 dX2_isLike_8 (by decide) (by omega) (fun c => ?_) (fun c => ?_) | refine j_icmp_eqNI (pc := 8) F 13 dX2_isLike_8 (by decide) (by omega) (fun c => ?_) (fun c => ?_) | refine j_icmp_eq (pc := 8) F 13 dX2_isLike_8 (by decide) (fun c => ?_) (fun c => ?_)
  · subst c
    refine j_iconst (pc := 13) (v := (nI 0)) F dX2_isLike_13 (by decide) ?_
    refine j_istore_n (pc := 14) F dX2_isLike_14 (by decide) ?_
    have loop : ∀ m i, z < i + m → i ≤ z → (∀ j, j < i → N j = N2 j) → J l X g A 3 0 0 h 15 [(0, .ref p), (1, .ref p2), (2, .int (nI i))] [] := by
      intro m
      induction m with
      | zero => intro i q1 q2; omega
      | succ m ih =>
        intro i q1 q2 q3
        refine j_iload_n (pc := 15) F dX2_isLike_15 rfl ?_
        first | refine j_aload_n (pc := 16) F dX2_isLike_16 rfl ?_ | refine j_aload_nq (pc := 16) F dX2_isLike_16 rfl ?_
        refine j_get (pc := 17) F fg_X2_15 (by first | assumption | exact hUp_s) (by rfl) dX2_isLike_17 ?_
        first | refine j_icmp_geN (pc := 20) F 46 dX2_isLike_20 (by decide) (by omega) (by omega) (fun c3 => ?_) (fun c3 => ?_) | refine j_icmp_geIN (pc := 20) F 46 dX2_isLike_20 (by decide) (by omega) (fun c3 => ?_) (fun c3 => ?_) | refine j_icmp_geNI (pc := 20) F 46 dX2_isLike_20 (by decide) (by omega) (fun c3 => ?_) (fun c3 => ?_) | refine j_icmp_geI (pc := 20) F 46 dX2_isLike_20 (by decide) (fun c3 => ?_) (fun c3 => ?_)
        · refine j_iconst (pc := 46) (v := (nI 1)) F dX2_isLike_46 (by decide) ?_
          refine j_iret F hQ rfl rfl (by omega) (by omega) dX2_isLike_47 ⟨?_, rfl⟩
          rw [pLike, decide_eq_true]
          · rfl
          · exact ⟨rfl, fun j hj => q3 j (by omega)⟩
        · first | refine j_aload_n (pc := 23) F dX2_isLike_23 rfl ?_ | refine j_aload_nq (pc := 23) F dX2_isLike_23 rfl ?_
          refine j_get (pc := 24) F fg_X2_9 (by first | assumption | exact hUp_s) (by rfl) dX2_isLike_24 ?_
          refine j_iload_n (pc := 27) F dX2_isLike_27 rfl ?_
          refine j_ialdN (pc := 28) F (by first | assumption | exact hUp_s) (by omega) (by decide) dX2_isLike_28 ?_
          refine j_int (hN i (by omega)) ?_
          first | refine j_aload_n (pc := 29) F dX2_isLike_29 rfl ?_ | refine j_aload_nq (pc := 29) F dX2_isLike_29 rfl ?_
          refine j_get (pc := 30) F fg_X2_9 (by first | assumption | exact hUp_s) (by rfl) dX2_isLike_30 ?_
          refine j_iload_n (pc := 33) F dX2_isLike_33 rfl ?_
          refine j_ialdN (pc := 34) F (by first | assumption | exact hUp_s) (by omega) (by decide) dX2_isLike_34 ?_
          refine j_int (hN2 i (by omega)) ?_
          have b1 := hb i (by omega)
          have b2 := hb2 i (by omega)
          first | refine j_icmp_eqN (pc := 35) F 40 dX2_isLike_35 (by decide) (by omega) (by omega) (fun c4 => ?_) (fun c4 => ?_) | refine j_icmp_eqIN (pc := 35) F 40 dX2_isLike_35 (by decide) (by omega) (fun c4 => ?_) (fun c4 => ?_) | refine j_icmp_eqNI (pc := 35) F 40 dX2_isLike_35 (by decide) (by omega) (fun c4 => ?_) (fun c4 => ?_) | refine j_icmp_eq (pc := 35) F 40 dX2_isLike_35 (by decide) (fun c4 => ?_) (fun c4 => ?_)
          · first | refine j_iincN (pc := 40) F dX2_isLike_40 rfl (by decide) ?_ | refine j_iinc (pc := 40) F dX2_isLike_40 rfl rfl (by decide) ?_
            refine j_goto (pc := 43) F 15 dX2_isLike_43 (by decide) ?_
            refine j_lv [(0, .ref p), (1, .ref p2), (2, .int (nI (i + 1)))] ⟨rfl, rfl, rfl, trivial⟩ ?_
            refine ih (i + 1) (by omega) (by omega) (fun j hj => ?_)
            rcases Nat.lt_or_ge j i with z1 | z1
            · exact q3 j z1
            · rw [show j = i by omega]; exact c4
          · refine j_iconst (pc := 38) (v := (nI 0)) F dX2_isLike_38 (by decide) ?_
            refine j_iret F hQ rfl rfl (by omega) (by omega) dX2_isLike_39 ⟨?_, rfl⟩
            rw [pLike, decide_eq_false]
            · rfl
            · rintro ⟨-, z1⟩
              exact c4 (z1 i (by omega))
    refine j_lv [(0, .ref p), (1, .ref p2), (2, .int (nI 0))] ⟨rfl, rfl, rfl, trivial⟩ ?_
    exact loop (z + 1) 0 (by omega) (by omega) (fun j hj => by omega)
  · refine j_iconst (pc := 11) (v := (nI 0)) F dX2_isLike_11 (by decide) ?_
    refine j_iret F hQ rfl rfl (by omega) (by omega) dX2_isLike_12 ⟨?_, rfl⟩
    rw [pLike, decide_eq_false]
    · rfl
    · rintro ⟨z1, -⟩
      exact c z1
end PATH
end
section
/-! ===== the static methods of Bgpreplay ===== -/
def okPeer (x : Int32) : Bool := decide (0 ≤ x.toInt ∧ x.toInt < 6)
def okNet (x : Int32) : Bool := decide (1 ≤ x.toInt ∧ x.toInt ≤ 30)
def okAdr (x : Int32) : Bool := decide (0 ≤ x.toInt ∧ x.toInt < 256)
def okPn (x : Int32) : Bool := decide (1 ≤ x.toInt ∧ x.toInt < 512)
def okPfx (a l : Int32) : Bool := decide ((0 ≤ a.toInt ∧ a.toInt < 256) ∧ (0 ≤ l.toInt ∧ l.toInt ≤ 8) ∧ a &&& ((nI 1 <<< ((nI 8 - l) &&& 31)) - nI 1) = 0)
def pnum (a l : Int32) : Int32 := (nI 256 + a) >>> ((nI 8 - l) &&& 31)
def revR (x : Int32) : Int32 := if x = 1 then 3 else if x = 3 then 1 else x
section STAT
variable {l : Launch} {g : GG} {A : Nat → Prop} {h : HF}
theorem c_X8_isPeer (x : Int32) : MI l g A h yX8_isPeer cX8_isPeer 1 (some .boolean) 0 0 0 [.int x] (fun r h1 => r = bI (okPeer x) ∧ h1 = h) := by
  refine j_met (by decide +kernel) (Nat.le_of_ble_eq_true rfl) (fun X F hn hQ => ?_)
  refine j_iload_n (pc := 0) F dX8_isPeer_0 rfl ?_
  first | refine j_if_ltN (pc := 1) F 14 dX8_isPeer_1 (by decide) (by omega) (fun c => ?_) (fun c => ?_) | refine j_if_ltI (pc := 1) F 14 dX8_isPeer_1 (by decide) (fun c => ?_) (fun c => ?_)
  · refine j_iconst (pc := 14) (v := (nI 0)) F dX8_isPeer_14 (by decide) ?_
    exact j_iret F hQ rfl rfl (by omega) (by omega) dX8_isPeer_15 ⟨by rw [okPeer, decide_eq_false (by omega)]; rfl, rfl⟩
  · refine j_iload_n (pc := 4) F dX8_isPeer_4 rfl ?_
    refine j_bipush (pc := 5) (v := (nI 6)) F dX8_isPeer_5 (by decide) ?_
    first | refine j_icmp_geN (pc := 7) F 14 dX8_isPeer_7 (by decide) (by omega) (by omega) (fun c2 => ?_) (fun c2 => ?_) | refine j_icmp_geIN (pc := 7) F 14 dX8_isPeer_7 (by decide) (by omega) (fun c2 => ?_) (fun c2 => ?_) | refine j_icmp_geNI (pc := 7) F 14 dX8_isPeer_7 (by decide) (by omega) (fun c2 => ?_) (fun c2 => ?_) | refine j_icmp_geI (pc := 7) F 14 dX8_isPeer_7 (by decide) (fun c2 => ?_) (fun c2 => ?_)
    · refine j_iconst (pc := 14) (v := (nI 0)) F dX8_isPeer_14 (by decide) ?_
      exact j_iret F hQ rfl rfl (by omega) (by omega) dX8_isPeer_15 ⟨by rw [okPeer, decide_eq_false (by omega)]; rfl, rfl⟩
    · refine j_iconst (pc := 10) (v := (nI 1)) F dX8_isPeer_10 (by decide) ?_
      refine j_goto (pc := 11) F 15 dX8_isPeer_11 (by decide) ?_
      exact j_iret F hQ rfl rfl (by omega) (by omega) dX8_isPeer_15 ⟨by rw [okPeer, decide_eq_true (by omega)]; rfl, rfl⟩
theorem c_X8_isNetwork (x : Int32) : MI l g A h yX8_isNetwork cX8_isNetwork 1 (some .boolean) 0 0 0 [.int x] (fun r h1 => r = bI (okNet x) ∧ h1 = h) := by
  refine j_met (by decide +kernel) (Nat.le_of_ble_eq_true rfl) (fun X F hn hQ => ?_)
  refine j_iload_n (pc := 0) F dX8_isNetwork_0 rfl ?_
  refine j_iconst (pc := 1) (v := (nI 1)) F dX8_isNetwork_1 (by decide) ?_
  first | refine j_icmp_ltN (pc := 2) F 15 dX8_isNetwork_2 (by decide) (by omega) (by omega) (fun c => ?_) (fun c => ?_) | refine j_icmp_ltIN (pc := 2) F 15 dX8_isNetwork_2 (by decide) (by omega) (fun c => ?_) (fun c => ?_) | refine j_icmp_ltNI (pc := 2) F 15 dX8_isNetwork_2 (by decide) (by omega) (fun c => ?_) (fun c => ?_) | refine j_icmp_ltI (pc := 2) F 15 dX8_isNetwork_2 (by decide) (fun c => ?_) (fun c => ?_)
  · refine j_iconst (pc := 15) (v := (nI 0)) F dX8_isNetwork_15 (by decide) ?_
    exact j_iret F hQ rfl rfl (by omega) (by omega) dX8_isNetwork_16 ⟨by rw [okNet, decide_eq_false (by omega)]; rfl, rfl⟩
  · refine j_iload_n (pc := 5) F dX8_isNetwork_5 rfl ?_
    refine j_bipush (pc := 6) (v := (nI 30)) F dX8_isNetwork_6 (by decide) ?_
    first | refine j_icmp_gtN (pc := 8) F 15 dX8_isNetwork_8 (by decide) (by omega) (by omega) (fun c2 => ?_) (fun c2 => ?_) | refine j_icmp_gtIN (pc := 8) F 15 dX8_isNetwork_8 (by decide) (by omega) (fun c2 => ?_) (fun c2 => ?_) | refine j_icmp_gtNI (pc := 8) F 15 dX8_isNetwork_8 (by decide) (by omega) (fun c2 => ?_) (fun c2 => ?_) | refine j_icmp_gtI (pc := 8) F 15 dX8_isNetwork_8 (by decide) (fun c2 => ?_) (fun c2 => ?_)
    · refine j_iconst (pc := 15) (v := (nI 0)) F dX8_isNetwork_15 (by decide) ?_
      exact j_iret F hQ rfl rfl (by omega) (by omega) dX8_isNetwork_16 ⟨by rw [okNet, decide_eq_false (by omega)]; rfl, rfl⟩
    · refine j_iconst (pc := 11) (v := (nI 1)) F dX8_isNetwork_11 (by decide) ?_
      refine j_goto (pc := 12) F 16 dX8_isNetwork_12 (by decide) ?_
      exact j_iret F hQ rfl rfl (by omega) (by omega) dX8_isNetwork_16 ⟨by rw [okNet, decide_eq_true (by omega)]; rfl, rfl⟩
theorem c_X8_isAddress (x : Int32) : MI l g A h yX8_isAddress cX8_isAddress 1 (some .boolean) 0 0 0 [.int x] (fun r h1 => r = bI (okAdr x) ∧ h1 = h) := by
  refine j_met (by decide +kernel) (Nat.le_of_ble_eq_true rfl) (fun X F hn hQ => ?_)
  refine j_iload_n (pc := 0) F dX8_isAddress_0 rfl ?_
  first | refine j_if_ltN (pc := 1) F 15 dX8_isAddress_1 (by decide) (by omega) (fun c => ?_) (fun c => ?_) | refine j_if_ltI (pc := 1) F 15 dX8_isAddress_1 (by decide) (fun c => ?_) (fun c => ?_)
  · refine j_iconst (pc := 15) (v := (nI 0)) F dX8_isAddress_15 (by decide) ?_
    exact j_iret F hQ rfl rfl (by omega) (by omega) dX8_isAddress_16 ⟨by rw [okAdr, decide_eq_false (by omega)]; rfl, rfl⟩
  · refine j_iload_n (pc := 4) F dX8_isAddress_4 rfl ?_
    refine j_sipush (pc := 5) (v := (nI 256)) F dX8_isAddress_5 (by decide) ?_
    first | refine j_icmp_geN (pc := 8) F 15 dX8_isAddress_8 (by decide) (by omega) (by omega) (fun c2 => ?_) (fun c2 => ?_) | refine j_icmp_geIN (pc := 8) F 15 dX8_isAddress_8 (by decide) (by omega) (fun c2 => ?_) (fun c2 => ?_) | refine j_icmp_geNI (pc := 8) F 15 dX8_isAddress_8 (by decide) (by omega) (fun c2 => ?_) (fun c2 => ?_) | refine j_icmp_geI (pc := 8) F 15 dX8_isAddress_8 (by decide) (fun c2 => ?_) (fun c2 => ?_)
    · refine j_iconst (pc := 15) (v := (nI 0)) F dX8_isAddress_15 (by decide) ?_
      exact j_iret F hQ rfl rfl (by omega) (by omega) dX8_isAddress_16 ⟨by rw [okAdr, decide_eq_false (by omega)]; rfl, rfl⟩
    · refine j_iconst (pc := 11) (v := (nI 1)) F dX8_isAddress_11 (by decide) ?_
      refine j_goto (pc := 12) F 16 dX8_isAddress_12 (by decide) ?_
      exact j_iret F hQ rfl rfl (by omega) (by omega) dX8_isAddress_16 ⟨by rw [okAdr, decide_eq_true (by omega)]; rfl, rfl⟩
theorem c_X8_isPrefixNumber (x : Int32) : MI l g A h yX8_isPrefixNumber cX8_isPrefixNumber 1 (some .boolean) 0 0 0 [.int x] (fun r h1 => r = bI (okPn x) ∧ h1 = h) := by
  refine j_met (by decide +kernel) (Nat.le_of_ble_eq_true rfl) (fun X F hn hQ => ?_)
  refine j_iload_n (pc := 0) F dX8_isPrefixNumber_0 rfl ?_
  refine j_iconst (pc := 1) (v := (nI 1)) F dX8_isPrefixNumber_1 (by decide) ?_
  first | refine j_icmp_ltN (pc := 2) F 16 dX8_isPrefixNumber_2 (by decide) (by omega) (by omega) (fun c => ?_) (fun c => ?_) | refine j_icmp_ltIN (pc := 2) F 16 dX8_isPrefixNumber_2 (by decide) (by omega) (fun c => ?_) (fun c => ?_) | refine j_icmp_ltNI (pc := 2) F 16 dX8_isPrefixNumber_2 (by decide) (by omega) (fun c => ?_) (fun c => ?_) | refine j_icmp_ltI (pc := 2) F 16 dX8_isPrefixNumber_2 (by decide) (fun c => ?_) (fun c => ?_)
  · refine j_iconst (pc := 16) (v := (nI 0)) F dX8_isPrefixNumber_16 (by decide) ?_
    exact j_iret F hQ rfl rfl (by omega) (by omega) dX8_isPrefixNumber_17 ⟨by rw [okPn, decide_eq_false (by omega)]; rfl, rfl⟩
  · refine j_iload_n (pc := 5) F dX8_isPrefixNumber_5 rfl ?_
    refine j_sipush (pc := 6) (v := (nI 512)) F dX8_isPrefixNumber_6 (by decide) ?_
    first | refine j_icmp_geN (pc := 9) F 16 dX8_isPrefixNumber_9 (by decide) (by omega) (by omega) (fun c2 => ?_) (fun c2 => ?_) | refine j_icmp_geIN (pc := 9) F 16 dX8_isPrefixNumber_9 (by decide) (by omega) (fun c2 => ?_) (fun c2 => ?_) | refine j_icmp_geNI (pc := 9) F 16 dX8_isPrefixNumber_9 (by decide) (by omega) (fun c2 => ?_) (fun c2 => ?_) | refine j_icmp_geI (pc := 9) F 16 dX8_isPrefixNumber_9 (by decide) (fun c2 => ?_) (fun c2 => ?_)
    · refine j_iconst (pc := 16) (v := (nI 0)) F dX8_isPrefixNumber_16 (by decide) ?_
      exact j_iret F hQ rfl rfl (by omega) (by omega) dX8_isPrefixNumber_17 ⟨by rw [okPn, decide_eq_false (by omega)]; rfl, rfl⟩
    · refine j_iconst (pc := 12) (v := (nI 1)) F dX8_isPrefixNumber_12 (by decide) ?_
      refine j_goto (pc := 13) F 17 dX8_isPrefixNumber_13 (by decide) ?_
      exact j_iret F hQ rfl rfl (by omega) (by omega) dX8_isPrefixNumber_17 ⟨by rw [okPn, decide_eq_true (by omega)]; rfl, rfl⟩
theorem c_X8_isPrefix (x y : Int32) : MI l g A h yX8_isPrefix cX8_isPrefix 3 (some .boolean) 1 0 0 [.int x, .int y] (fun r h1 => r = bI (okPfx x y) ∧ h1 = h) := by
  refine j_met (by decide +kernel) (Nat.le_of_ble_eq_true rfl) (fun X F hn hQ => ?_)
  refine j_iload_n (pc := 0) F dX8_isPrefix_0 rfl ?_
  refine j_ri (j_runS (pc := 1) F (c_X8_isAddress x) m_X8_isAddress ms_X8_isAddress lk_X8_247 ⟨by decide, by decide⟩ (Nat.le_of_ble_eq_true rfl) ⟨by omega, by omega⟩ rfl dX8_isPrefix_1) (fun r h1 hp => ?_)
  obtain ⟨rfl, rfl⟩ := hp
  first | refine j_if_eqB (pc := 4) F 17 dX8_isPrefix_4 (by decide) (fun c => ?_) (fun c => ?_) | refine j_if_eqN (pc := 4) F 17 dX8_isPrefix_4 (by decide) (by omega) (fun c => ?_) (fun c => ?_) | refine j_if_eqI (pc := 4) F 17 dX8_isPrefix_4 (by decide) (fun c => ?_) (fun c => ?_)
  · refine j_iconst (pc := 17) (v := (nI 0)) F dX8_isPrefix_17 (by decide) ?_
    have c1 := of_decide_eq_false c
    exact j_iret F hQ rfl rfl (by omega) (by omega) dX8_isPrefix_18 ⟨by rw [okPfx, decide_eq_false (fun z => c1 z.1)]; rfl, rfl⟩
  · have c1 := of_decide_eq_true c
    refine j_iload_n (pc := 7) F dX8_isPrefix_7 rfl ?_
    first | refine j_if_ltN (pc := 8) F 17 dX8_isPrefix_8 (by decide) (by omega) (fun c2 => ?_) (fun c2 => ?_) | refine j_if_ltI (pc := 8) F 17 dX8_isPrefix_8 (by decide) (fun c2 => ?_) (fun c2 => ?_)
    · refine j_iconst (pc := 17) (v := (nI 0)) F dX8_isPrefix_17 (by decide) ?_
      exact j_iret F hQ rfl rfl (by omega) (by omega) dX8_isPrefix_18 ⟨by rw [okPfx, decide_eq_false (fun z => by have := z.2.1; omega)]; rfl, rfl⟩
    · refine j_iload_n (pc := 11) F dX8_isPrefix_11 rfl ?_
      refine j_bipush (pc := 12) (v := (nI 8)) F dX8_isPrefix_12 (by decide) ?_
      first | refine j_icmp_leN (pc := 14) F 19 dX8_isPrefix_14 (by decide) (by omega) (by omega) (fun c3 => ?_) (fun c3 => ?_) | refine j_icmp_leIN (pc := 14) F 19 dX8_isPrefix_14 (by decide) (by omega) (fun c3 => ?_) (fun c3 => ?_) | refine j_icmp_leNI (pc := 14) F 19 dX8_isPrefix_14 (by decide) (by omega) (fun c3 => ?_) (fun c3 => ?_) | refine j_icmp_leI (pc := 14) F 19 dX8_isPrefix_14 (by decide) (fun c3 => ?_) (fun c3 => ?_)
      · refine j_iconst (pc := 19) (v := (nI 1)) F dX8_isPrefix_19 (by decide) ?_
        refine j_bipush (pc := 20) (v := (nI 8)) F dX8_isPrefix_20 (by decide) ?_
        refine j_iload_n (pc := 22) F dX8_isPrefix_22 rfl ?_
        first | refine j_isubN (pc := 23) F dX8_isPrefix_23 (by omega) ?_ | refine j_isub (pc := 23) F dX8_isPrefix_23 ?_
        refine j_ishl (pc := 24) F dX8_isPrefix_24 ?_
        refine j_iconst (pc := 25) (v := (nI 1)) F dX8_isPrefix_25 (by decide) ?_
        first | refine j_isubN (pc := 26) F dX8_isPrefix_26 (by omega) ?_ | refine j_isub (pc := 26) F dX8_isPrefix_26 ?_
        refine j_istore_n (pc := 27) F dX8_isPrefix_27 (by decide) ?_
        refine j_iload_n (pc := 28) F dX8_isPrefix_28 rfl ?_
        refine j_iload_n (pc := 29) F dX8_isPrefix_29 rfl ?_
        refine j_iand (pc := 30) F dX8_isPrefix_30 ?_
        refine j_if_ne (pc := 31) F 38 dX8_isPrefix_31 (by decide) (fun c4 => ?_) (fun c4 => ?_)
        · refine j_iconst (pc := 38) (v := (nI 0)) F dX8_isPrefix_38 (by decide) ?_
          exact j_iret F hQ rfl rfl (by omega) (by omega) dX8_isPrefix_39 ⟨by rw [okPfx, decide_eq_false (fun z => c4 z.2.2)]; rfl, rfl⟩
        · refine j_iconst (pc := 34) (v := (nI 1)) F dX8_isPrefix_34 (by decide) ?_
          refine j_goto (pc := 35) F 39 dX8_isPrefix_35 (by decide) ?_
          exact j_iret F hQ rfl rfl (by omega) (by omega) dX8_isPrefix_39 ⟨by rw [okPfx, decide_eq_true ⟨c1, ⟨by omega, by omega⟩, c4⟩]; rfl, rfl⟩
      · refine j_iconst (pc := 17) (v := (nI 0)) F dX8_isPrefix_17 (by decide) ?_
        exact j_iret F hQ rfl rfl (by omega) (by omega) dX8_isPrefix_18 ⟨by rw [okPfx, decide_eq_false (fun z => by have := z.2.1; omega)]; rfl, rfl⟩
theorem c_X8_prefixNumber (x y : Int32) : MI l g A h yX8_prefixNumber cX8_prefixNumber 2 (some .int) 0 0 0 [.int x, .int y] (fun r h1 => r = pnum x y ∧ h1 = h) := by
  refine j_met (by decide +kernel) (Nat.le_of_ble_eq_true rfl) (fun X F hn hQ => ?_)
  refine j_sipush (pc := 0) (v := (nI 256)) F dX8_prefixNumber_0 (by decide) ?_
  refine j_iload_n (pc := 3) F dX8_prefixNumber_3 rfl ?_
  first | refine j_iaddN (pc := 4) F dX8_prefixNumber_4 ?_ | refine j_iadd (pc := 4) F dX8_prefixNumber_4 ?_
  refine j_bipush (pc := 5) (v := (nI 8)) F dX8_prefixNumber_5 (by decide) ?_
  refine j_iload_n (pc := 7) F dX8_prefixNumber_7 rfl ?_
  first | refine j_isubN (pc := 8) F dX8_prefixNumber_8 (by omega) ?_ | refine j_isub (pc := 8) F dX8_prefixNumber_8 ?_
  refine j_ishr (pc := 9) F dX8_prefixNumber_9 ?_
  exact j_iret F hQ rfl rfl (by omega) (by omega) dX8_prefixNumber_10 ⟨rfl, rfl⟩
theorem c_X8_networkOf (x : Int32) : MI l g A h yX8_networkOf cX8_networkOf 1 (some .int) 0 0 0 [.int x] (fun r h1 => r = x + nI 1 ∧ h1 = h) := by
  refine j_met (by decide +kernel) (Nat.le_of_ble_eq_true rfl) (fun X F hn hQ => ?_)
  refine j_iload_n (pc := 0) F dX8_networkOf_0 rfl ?_
  refine j_iconst (pc := 1) (v := (nI 1)) F dX8_networkOf_1 (by decide) ?_
  first | refine j_iaddN (pc := 2) F dX8_networkOf_2 ?_ | refine j_iadd (pc := 2) F dX8_networkOf_2 ?_
  exact j_iret F hQ rfl rfl (by omega) (by omega) dX8_networkOf_3 ⟨rfl, rfl⟩
theorem c_X8_reverseOf (x : Int32) : MI l g A h yX8_reverseOf cX8_reverseOf 1 (some .int) 0 0 0 [.int x] (fun r h1 => r = revR x ∧ h1 = h) := by
  refine j_met (by decide +kernel) (Nat.le_of_ble_eq_true rfl) (fun X F hn hQ => ?_)
  refine j_iload_n (pc := 0) F dX8_reverseOf_0 rfl ?_
  by_cases c1 : x = 1
  · subst c1
    refine j_lookup (pc := 1) (off := 27) F 28 dX8_reverseOf_1 (by decide) (by decide) (by decide) ?_
    refine j_iconst (pc := 28) (v := (nI 3)) F dX8_reverseOf_28 (by decide) ?_
    exact j_iret F hQ rfl rfl (by omega) (by omega) dX8_reverseOf_29 ⟨rfl, rfl⟩
  · by_cases c3 : x = 3
    · subst c3
      refine j_lookup (pc := 1) (off := 29) F 30 dX8_reverseOf_1 (by decide) (by decide) (by decide) ?_
      refine j_iconst (pc := 30) (v := (nI 1)) F dX8_reverseOf_30 (by decide) ?_
      exact j_iret F hQ rfl rfl (by omega) (by omega) dX8_reverseOf_31 ⟨rfl, rfl⟩
    · have z1 : ¬ x.toInt = 1 := fun z => c1 ((q_eq _ _).mpr (z.trans (by decide)))
      have z3 : ¬ x.toInt = 3 := fun z => c3 ((q_eq _ _).mpr (z.trans (by decide)))
      refine j_lookup (pc := 1) (off := 31) F 32 dX8_reverseOf_1 (by decide) (by simp [Op.lookupswitch.offset, z1, z3, Ne.symm z1, Ne.symm z3]) (by decide) ?_
      refine j_iload_n (pc := 32) F dX8_reverseOf_32 rfl ?_
      exact j_iret F hQ rfl rfl (by omega) (by omega) dX8_reverseOf_33 ⟨by rw [revR, if_neg c1, if_neg c3], rfl⟩
end STAT
end
section
/-! ===== Bgpreplay$Prefix, Bgpreplay$Route ===== -/
def isPfx (h : HF) (pf q b : Nat) : Prop := h pf = some (.inr (3, [.int (nI q), .int (nI b)]))
def isRoute (g : GG) (h : HF) (r pf pa aa pe q b z : Nat) (N : Nat → Nat) (s e : Nat) : Prop := h r = some (.inr (6, [.int (nI pe), .ref pf, .ref pa, .int (nI s), .int (nI e)])) ∧ isPfx h pf q b ∧ isPath g h pa aa z N
/-- what a route's numbers keep to -/
def rOk (pe q b z s e : Nat) : Prop := pe < 6 ∧ q < 512 ∧ b ≤ 8 ∧ z ≤ 8 ∧ s ≤ 300 ∧ e ≤ 300
def better (z pe z2 pe2 : Nat) : Bool := decide (z < z2 ∨ (z = z2 ∧ pe < pe2))
def foundBf (b z pe b2 z2 pe2 : Nat) : Bool := decide (b2 < b ∨ (b = b2 ∧ (z < z2 ∨ (z = z2 ∧ pe < pe2))))
def cov (q b q2 b2 : Nat) : Bool := decide (b ≤ b2 ∧ q2 / 2 ^ (b2 - b) = q)
theorem sh_ok : ∀ d, d < 32 → ((nI d &&& 31).toBitVec.smod 32).toNat = d := by decide +kernel
theorem bI_t : bI true = nI 1 := rfl
theorem bI_f : bI false = nI 0 := rfl
section ROUTE
variable {l : Launch} {g : GG} {A : Nat → Prop} {h : HF}
theorem c_X3_init {p : Nat} {x y : Int32} (hp : h p = some (.inr (3, [.int 0, .int 0]))) : MVo l g A h yX3_init cX3_init 3 1 0 0 [.ref p, .int x, .int y] (fun h1 => h1 p = some (.inr (3, [.int (pnum x y), .int y])) ∧ ∀ b, b ≠ p → h1 b = h b) := by
  refine j_met (by decide +kernel) (Nat.le_of_ble_eq_true rfl) (fun X F hn hQ => ?_)
  first | refine j_aload_n (pc := 0) F dX3_init_0 rfl ?_ | refine j_aload_nq (pc := 0) F dX3_init_0 rfl ?_
  refine j_objInit (pc := 1) F (by omega) lk_X3_1 (Nat.le_of_ble_eq_true rfl) dX3_init_1 ?_
  first | refine j_aload_n (pc := 4) F dX3_init_4 rfl ?_ | refine j_aload_nq (pc := 4) F dX3_init_4 rfl ?_
  refine j_iload_n (pc := 5) F dX3_init_5 rfl ?_
  refine j_iload_n (pc := 6) F dX3_init_6 rfl ?_
  refine j_ri (j_runSN (pc := 7) F (c_X8_prefixNumber x y) m_X8_prefixNumber ms_X8_prefixNumber ln_X3_7 ⟨by decide, by decide⟩ (Nat.le_of_ble_eq_true rfl) ⟨by omega, by omega⟩ rfl dX3_init_7) (fun r h1 hp1 => ?_)
  obtain ⟨rfl, rfl⟩ := hp1
  refine j_putF (pc := 10) F fp_X3_13 hn rfl (by first | assumption | exact hUp_s) (by rfl) (by rfl) (Nat.le_of_ble_eq_true rfl) dX3_init_10 ?_
  first | refine j_aload_n (pc := 13) F dX3_init_13 rfl ?_ | refine j_aload_nq (pc := 13) F dX3_init_13 rfl ?_
  refine j_iload_n (pc := 14) F dX3_init_14 rfl ?_
  refine j_putF (pc := 15) F fp_X3_19 hn rfl (by first | assumption | exact hUp_s) (by rfl) (by rfl) (Nat.le_of_ble_eq_true rfl) dX3_init_15 ?_
  refine j_vret F hQ rfl (by omega) (by omega) dX3_init_18 ⟨?_, fun b q1 => ?_⟩
  · rw [hUp_s]; rfl
  · rw [hUp_n q1, hUp_n q1]
theorem c_X3_has {p q b : Nat} {x : Int32} (hp : isPfx h p q b) : MI l g A h yX3_has cX3_has 2 (some .boolean) 1 0 0 [.ref p, .int x] (fun r h1 => r = bI (decide (pnum x (nI b) = nI q)) ∧ h1 = h) := by
  unfold isPfx at hp
  refine j_met (by decide +kernel) (Nat.le_of_ble_eq_true rfl) (fun X F hn hQ => ?_)
  refine j_iload_n (pc := 0) F dX3_has_0 rfl ?_
  first | refine j_aload_n (pc := 1) F dX3_has_1 rfl ?_ | refine j_aload_nq (pc := 1) F dX3_has_1 rfl ?_
  refine j_get (pc := 2) F fg_X3_19 (by first | assumption | exact hUp_s) (by rfl) dX3_has_2 ?_
  refine j_ri (j_runSN (pc := 5) F (c_X8_prefixNumber x (nI b)) m_X8_prefixNumber ms_X8_prefixNumber ln_X3_7 ⟨by decide, by decide⟩ (Nat.le_of_ble_eq_true rfl) ⟨by omega, by omega⟩ rfl dX3_has_5) (fun r h1 hp1 => ?_)
  obtain ⟨rfl, rfl⟩ := hp1
  first | refine j_aload_n (pc := 8) F dX3_has_8 rfl ?_ | refine j_aload_nq (pc := 8) F dX3_has_8 rfl ?_
  refine j_get (pc := 9) F fg_X3_13 (by first | assumption | exact hUp_s) (by rfl) dX3_has_9 ?_
  refine j_icmp_ne (pc := 12) F 19 dX3_has_12 (by decide) (fun c => ?_) (fun c => ?_)
  · refine j_iconst (pc := 19) (v := (nI 0)) F dX3_has_19 (by decide) ?_
    exact j_iret F hQ rfl rfl (by omega) (by omega) dX3_has_20 ⟨by rw [decide_eq_false c]; rfl, rfl⟩
  · refine j_iconst (pc := 15) (v := (nI 1)) F dX3_has_15 (by decide) ?_
    refine j_goto (pc := 16) F 20 dX3_has_16 (by decide) ?_
    exact j_iret F hQ rfl rfl (by omega) (by omega) dX3_has_20 ⟨by rw [decide_eq_true c]; rfl, rfl⟩
theorem c_X3_covers {p q b p2 q2 b2 : Nat} (hp : isPfx h p q b) (hp2 : isPfx h p2 q2 b2) (hq : q < 512) (hq2 : q2 < 512) (hb : b ≤ 8) (hb2 : b2 ≤ 8) : MI l g A h yX3_covers cX3_covers 2 (some .boolean) 0 0 0 [.ref p, .ref p2] (fun r h1 => r = bI (cov q b q2 b2) ∧ h1 = h) := by
  unfold isPfx at hp hp2
  refine j_met (by decide +kernel) (Nat.le_of_ble_eq_true rfl) (fun X F hn hQ => ?_)
  first | refine j_aload_n (pc := 0) F dX3_covers_0 rfl ?_ | refine j_aload_nq (pc := 0) F dX3_covers_0 rfl ?_
  refine j_get (pc := 1) F fg_X3_19 (by first | assumption | exact hUp_s) (by rfl) dX3_covers_1 ?_
  first | refine j_aload_n (pc := 4) F dX3_covers_4 rfl ?_ | refine j_aload_nq (pc := 4) F dX3_covers_4 rfl ?_
  refine j_get (pc := 5) F fg_X3_19 (by first | assumption | exact hUp_s) (by rfl) dX3_covers_5 ?_
  first | refine j_icmp_gtN (pc := 8) F 36 dX3_covers_8 (by decide) (by omega) (by omega) (fun c => ?_) (fun c => ?_) | refine j_icmp_gtIN (pc := 8) F 36 dX3_covers_8 (by decide) (by omega) (fun c => ?_) (fun c => ?_) | refine j_icmp_gtNI (pc := 8) F 36 dX3_covers_8 (by decide) (by omega) (fun c => ?_) (fun c => ?_) | refine j_icmp_gtI (pc := 8) F 36 dX3_covers_8 (by decide) (fun c => ?_) (fun c => ?_)
  · refine j_iconst (pc := 36) (v := (nI 0)) F dX3_covers_36 (by decide) ?_
    exact j_iret F hQ rfl rfl (by omega) (by omega) dX3_covers_37 ⟨by rw [cov, decide_eq_false (by omega)]; rfl, rfl⟩
  · first | refine j_aload_n (pc := 11) F dX3_covers_11 rfl ?_ | refine j_aload_nq (pc := 11) F dX3_covers_11 rfl ?_
    refine j_get (pc := 12) F fg_X3_13 (by first | assumption | exact hUp_s) (by rfl) dX3_covers_12 ?_
    first | refine j_aload_n (pc := 15) F dX3_covers_15 rfl ?_ | refine j_aload_nq (pc := 15) F dX3_covers_15 rfl ?_
    refine j_get (pc := 16) F fg_X3_19 (by first | assumption | exact hUp_s) (by rfl) dX3_covers_16 ?_
    first | refine j_aload_n (pc := 19) F dX3_covers_19 rfl ?_ | refine j_aload_nq (pc := 19) F dX3_covers_19 rfl ?_
    refine j_get (pc := 20) F fg_X3_19 (by first | assumption | exact hUp_s) (by rfl) dX3_covers_20 ?_
    first | refine j_isubN (pc := 23) F dX3_covers_23 (by omega) ?_ | refine j_isub (pc := 23) F dX3_covers_23 ?_
    refine j_ishr (pc := 24) F dX3_covers_24 ?_
    refine j_int (pk_shrN (by omega) _ (b2 - b) (sh_ok _ (by omega))) ?_
    have hd : q2 / 2 ^ (b2 - b) ≤ q2 := Nat.div_le_self _ _
    first | refine j_aload_n (pc := 25) F dX3_covers_25 rfl ?_ | refine j_aload_nq (pc := 25) F dX3_covers_25 rfl ?_
    refine j_get (pc := 26) F fg_X3_13 (by first | assumption | exact hUp_s) (by rfl) dX3_covers_26 ?_
    first | refine j_icmp_neN (pc := 29) F 36 dX3_covers_29 (by decide) (by omega) (by omega) (fun c2 => ?_) (fun c2 => ?_) | refine j_icmp_neIN (pc := 29) F 36 dX3_covers_29 (by decide) (by omega) (fun c2 => ?_) (fun c2 => ?_) | refine j_icmp_neNI (pc := 29) F 36 dX3_covers_29 (by decide) (by omega) (fun c2 => ?_) (fun c2 => ?_) | refine j_icmp_ne (pc := 29) F 36 dX3_covers_29 (by decide) (fun c2 => ?_) (fun c2 => ?_)
    · refine j_iconst (pc := 36) (v := (nI 0)) F dX3_covers_36 (by decide) ?_
      exact j_iret F hQ rfl rfl (by omega) (by omega) dX3_covers_37 ⟨by rw [cov, decide_eq_false (by omega)]; rfl, rfl⟩
    · refine j_iconst (pc := 32) (v := (nI 1)) F dX3_covers_32 (by decide) ?_
      refine j_goto (pc := 33) F 37 dX3_covers_33 (by decide) ?_
      exact j_iret F hQ rfl rfl (by omega) (by omega) dX3_covers_37 ⟨by rw [cov, decide_eq_true (by omega)]; rfl, rfl⟩
theorem c_X6_init {p pf pa : Nat} {x y : Int32} (hp : h p = some (.inr (6, [.int 0, .null, .null, .int 0, .int 0]))) : MVo l g A h yX6_init cX6_init 5 1 0 0 [.ref p, .int x, .ref pf, .ref pa, .int y] (fun h1 => h1 p = some (.inr (6, [.int x, .ref pf, .ref pa, .int y, .int (nI 300)])) ∧ ∀ b, b ≠ p → h1 b = h b) := by
  refine j_met (by decide +kernel) (Nat.le_of_ble_eq_true rfl) (fun X F hn hQ => ?_)
  first | refine j_aload_n (pc := 0) F dX6_init_0 rfl ?_ | refine j_aload_nq (pc := 0) F dX6_init_0 rfl ?_
  refine j_objInit (pc := 1) F (by omega) lk_X6_3 (Nat.le_of_ble_eq_true rfl) dX6_init_1 ?_
  first | refine j_aload_n (pc := 4) F dX6_init_4 rfl ?_ | refine j_aload_nq (pc := 4) F dX6_init_4 rfl ?_
  refine j_sipush (pc := 5) (v := (nI 300)) F dX6_init_5 (by decide) ?_
  refine j_put (pc := 8) F fp_X6_9 (by first | assumption | exact hUp_s) (by rfl) (by rfl) (Nat.le_of_ble_eq_true rfl) dX6_init_8 ?_
  first | refine j_aload_n (pc := 11) F dX6_init_11 rfl ?_ | refine j_aload_nq (pc := 11) F dX6_init_11 rfl ?_
  refine j_iload_n (pc := 12) F dX6_init_12 rfl ?_
  refine j_putF (pc := 13) F fp_X6_15 hn rfl (by first | assumption | exact hUp_s) (by rfl) (by rfl) (Nat.le_of_ble_eq_true rfl) dX6_init_13 ?_
  first | refine j_aload_n (pc := 16) F dX6_init_16 rfl ?_ | refine j_aload_nq (pc := 16) F dX6_init_16 rfl ?_
  first | refine j_aload_n (pc := 17) F dX6_init_17 rfl ?_ | refine j_aload_nq (pc := 17) F dX6_init_17 rfl ?_
  refine j_putF (pc := 18) F fp_X6_18 hn rfl (by first | assumption | exact hUp_s) (by rfl) (by rfl) (Nat.le_of_ble_eq_true rfl) dX6_init_18 ?_
  first | refine j_aload_n (pc := 21) F dX6_init_21 rfl ?_ | refine j_aload_nq (pc := 21) F dX6_init_21 rfl ?_
  first | refine j_aload_n (pc := 22) F dX6_init_22 rfl ?_ | refine j_aload_nq (pc := 22) F dX6_init_22 rfl ?_
  refine j_putF (pc := 23) F fp_X6_22 hn rfl (by first | assumption | exact hUp_s) (by rfl) (by rfl) (Nat.le_of_ble_eq_true rfl) dX6_init_23 ?_
  first | refine j_aload_n (pc := 26) F dX6_init_26 rfl ?_ | refine j_aload_nq (pc := 26) F dX6_init_26 rfl ?_
  refine j_iload (pc := 27) F dX6_init_27 rfl ?_
  refine j_putF (pc := 29) F fp_X6_26 hn rfl (by first | assumption | exact hUp_s) (by rfl) (by rfl) (Nat.le_of_ble_eq_true rfl) dX6_init_29 ?_
  refine j_vret F hQ rfl (by omega) (by omega) dX6_init_32 ⟨?_, fun b q1 => ?_⟩
  · rw [hUp_s]; rfl
  · rw [hUp_n q1, hUp_n q1, hUp_n q1, hUp_n q1, hUp_n q1]
theorem c_X6_standsAfter {r pf pa aa pe q b z s e n : Nat} {N : Nat → Nat} (hr : isRoute g h r pf pa aa pe q b z N s e) (ho : rOk pe q b z s e) (hn : n ≤ 300) : MI l g A h yX6_standsAfter cX6_standsAfter 2 (some .boolean) 0 0 0 [.ref r, .int (nI n)] (fun x h1 => x = bI (decide (s < n ∧ n ≤ e)) ∧ h1 = h) := by
  obtain ⟨hr, h2, h3⟩ := hr
  obtain ⟨o1, o2, o3, o4, o5, o6⟩ := ho
  refine j_met (by decide +kernel) (Nat.le_of_ble_eq_true rfl) (fun X F hn hQ => ?_)
  first | refine j_aload_n (pc := 0) F dX6_standsAfter_0 rfl ?_ | refine j_aload_nq (pc := 0) F dX6_standsAfter_0 rfl ?_
  refine j_get (pc := 1) F fg_X6_26 (by first | assumption | exact hUp_s) (by rfl) dX6_standsAfter_1 ?_
  refine j_iload_n (pc := 4) F dX6_standsAfter_4 rfl ?_
  first | refine j_icmp_geN (pc := 5) F 20 dX6_standsAfter_5 (by decide) (by omega) (by omega) (fun c => ?_) (fun c => ?_) | refine j_icmp_geIN (pc := 5) F 20 dX6_standsAfter_5 (by decide) (by omega) (fun c => ?_) (fun c => ?_) | refine j_icmp_geNI (pc := 5) F 20 dX6_standsAfter_5 (by decide) (by omega) (fun c => ?_) (fun c => ?_) | refine j_icmp_geI (pc := 5) F 20 dX6_standsAfter_5 (by decide) (fun c => ?_) (fun c => ?_)
  · refine j_iconst (pc := 20) (v := (nI 0)) F dX6_standsAfter_20 (by decide) ?_
    exact j_iret F hQ rfl rfl (by omega) (by omega) dX6_standsAfter_21 ⟨by rw [decide_eq_false (by omega)]; rfl, rfl⟩
  · refine j_iload_n (pc := 8) F dX6_standsAfter_8 rfl ?_
    first | refine j_aload_n (pc := 9) F dX6_standsAfter_9 rfl ?_ | refine j_aload_nq (pc := 9) F dX6_standsAfter_9 rfl ?_
    refine j_get (pc := 10) F fg_X6_9 (by first | assumption | exact hUp_s) (by rfl) dX6_standsAfter_10 ?_
    first | refine j_icmp_gtN (pc := 13) F 20 dX6_standsAfter_13 (by decide) (by omega) (by omega) (fun c2 => ?_) (fun c2 => ?_) | refine j_icmp_gtIN (pc := 13) F 20 dX6_standsAfter_13 (by decide) (by omega) (fun c2 => ?_) (fun c2 => ?_) | refine j_icmp_gtNI (pc := 13) F 20 dX6_standsAfter_13 (by decide) (by omega) (fun c2 => ?_) (fun c2 => ?_) | refine j_icmp_gtI (pc := 13) F 20 dX6_standsAfter_13 (by decide) (fun c2 => ?_) (fun c2 => ?_)
    · refine j_iconst (pc := 20) (v := (nI 0)) F dX6_standsAfter_20 (by decide) ?_
      exact j_iret F hQ rfl rfl (by omega) (by omega) dX6_standsAfter_21 ⟨by rw [decide_eq_false (by omega)]; rfl, rfl⟩
    · refine j_iconst (pc := 16) (v := (nI 1)) F dX6_standsAfter_16 (by decide) ?_
      refine j_goto (pc := 17) F 21 dX6_standsAfter_17 (by decide) ?_
      exact j_iret F hQ rfl rfl (by omega) (by omega) dX6_standsAfter_21 ⟨by rw [decide_eq_true (by omega)]; rfl, rfl⟩
theorem c_X6_isBetterThanN {r : Nat} : MI l g A h yX6_isBetterThan cX6_isBetterThan 2 (some .boolean) 1 0 0 [.ref r, .null] (fun x h1 => x = bI true ∧ h1 = h) := by
  refine j_met (by decide +kernel) (Nat.le_of_ble_eq_true rfl) (fun X F hn hQ => ?_)
  refine j_aload_nN (pc := 0) F dX6_isBetterThan_0 rfl ?_
  refine j_ifnonnullN (pc := 1) F dX6_isBetterThan_1 ?_
  refine j_iconst (pc := 4) (v := (nI 1)) F dX6_isBetterThan_4 (by decide) ?_
  exact j_iret F hQ rfl rfl (by omega) (by omega) dX6_isBetterThan_5 ⟨rfl, rfl⟩
theorem c_X6_isBetterThan {r pf pa aa pe q b z s e r2 pf2 pa2 aa2 pe2 q2 b2 z2 s2 e2 : Nat} {N N2 : Nat → Nat} (hr : isRoute g h r pf pa aa pe q b z N s e) (ho : rOk pe q b z s e) (hr2 : isRoute g h r2 pf2 pa2 aa2 pe2 q2 b2 z2 N2 s2 e2) (ho2 : rOk pe2 q2 b2 z2 s2 e2) : MI l g A h yX6_isBetterThan cX6_isBetterThan 2 (some .boolean) 1 0 0 [.ref r, .ref r2] (fun x h1 => x = bI (better z pe z2 pe2) ∧ h1 = h) := by
  obtain ⟨hr, h2, h3⟩ := hr
  obtain ⟨o1, o2, o3, o4, o5, o6⟩ := ho
  obtain ⟨hr2, h4, h5⟩ := hr2
  obtain ⟨p1, p2, p3, p4, p5, p6⟩ := ho2
  refine j_met (by decide +kernel) (Nat.le_of_ble_eq_true rfl) (fun X F hn hQ => ?_)
  first | refine j_aload_n (pc := 0) F dX6_isBetterThan_0 rfl ?_ | refine j_aload_nq (pc := 0) F dX6_isBetterThan_0 rfl ?_
  refine j_ifnonnull (pc := 1) F 6 dX6_isBetterThan_1 (by decide) ?_
  first | refine j_aload_n (pc := 6) F dX6_isBetterThan_6 rfl ?_ | refine j_aload_nq (pc := 6) F dX6_isBetterThan_6 rfl ?_
  refine j_get (pc := 7) F fg_X6_22 (by first | assumption | exact hUp_s) (by rfl) dX6_isBetterThan_7 ?_
  obtain ⟨y1, g1, g2⟩ := id h3
  obtain ⟨y2, g3, g4⟩ := id h5
  refine j_ri (j_runV (pc := 10) F (c_X2_size h3) m_X2_size mv_X2_size lk_X6_29 (by first | assumption | exact hUp_s) rfl ⟨by decide, by decide⟩ (Nat.le_of_ble_eq_true rfl) ⟨by omega, by omega⟩ rfl dX6_isBetterThan_10) (fun r h1 hp => ?_)
  obtain ⟨rfl, rfl⟩ := hp
  first | refine j_aload_n (pc := 13) F dX6_isBetterThan_13 rfl ?_ | refine j_aload_nq (pc := 13) F dX6_isBetterThan_13 rfl ?_
  refine j_get (pc := 14) F fg_X6_22 (by first | assumption | exact hUp_s) (by rfl) dX6_isBetterThan_14 ?_
  refine j_ri (j_runV (pc := 17) F (c_X2_size h5) m_X2_size mv_X2_size lk_X6_29 (by first | assumption | exact hUp_s) rfl ⟨by decide, by decide⟩ (Nat.le_of_ble_eq_true rfl) ⟨by omega, by omega⟩ rfl dX6_isBetterThan_17) (fun r h6 hp => ?_)
  obtain ⟨rfl, rfl⟩ := hp
  first | refine j_icmp_eqN (pc := 20) F 46 dX6_isBetterThan_20 (by decide) (by omega) (by omega) (fun c => ?_) (fun c => ?_) | refine j_icmp_eqIN (pc := 20) F 46 dX6_isBetterThan_20 (by decide) (by omega) (fun c => ?_) (fun c => ?_) | refine j_icmp_eqNI (pc := 20) F 46 dX6_isBetterThan_20 (by decide) (by omega) (fun c => ?_) (fun c => ?_) | refine j_icmp_eq (pc := 20) F 46 dX6_isBetterThan_20 (by decide) (fun c => ?_) (fun c => ?_)
  · first | refine j_aload_n (pc := 46) F dX6_isBetterThan_46 rfl ?_ | refine j_aload_nq (pc := 46) F dX6_isBetterThan_46 rfl ?_
    refine j_get (pc := 47) F fg_X6_15 (by first | assumption | exact hUp_s) (by rfl) dX6_isBetterThan_47 ?_
    first | refine j_aload_n (pc := 50) F dX6_isBetterThan_50 rfl ?_ | refine j_aload_nq (pc := 50) F dX6_isBetterThan_50 rfl ?_
    refine j_get (pc := 51) F fg_X6_15 (by first | assumption | exact hUp_s) (by rfl) dX6_isBetterThan_51 ?_
    first | refine j_icmp_geN (pc := 54) F 61 dX6_isBetterThan_54 (by decide) (by omega) (by omega) (fun c2 => ?_) (fun c2 => ?_) | refine j_icmp_geIN (pc := 54) F 61 dX6_isBetterThan_54 (by decide) (by omega) (fun c2 => ?_) (fun c2 => ?_) | refine j_icmp_geNI (pc := 54) F 61 dX6_isBetterThan_54 (by decide) (by omega) (fun c2 => ?_) (fun c2 => ?_) | refine j_icmp_geI (pc := 54) F 61 dX6_isBetterThan_54 (by decide) (fun c2 => ?_) (fun c2 => ?_)
    · refine j_iconst (pc := 61) (v := (nI 0)) F dX6_isBetterThan_61 (by decide) ?_
      exact j_iret F hQ rfl rfl (by omega) (by omega) dX6_isBetterThan_62 ⟨by rw [better, decide_eq_false (by omega)]; rfl, rfl⟩
    · refine j_iconst (pc := 57) (v := (nI 1)) F dX6_isBetterThan_57 (by decide) ?_
      refine j_goto (pc := 58) F 62 dX6_isBetterThan_58 (by decide) ?_
      exact j_iret F hQ rfl rfl (by omega) (by omega) dX6_isBetterThan_62 ⟨by rw [better, decide_eq_true (by omega)]; rfl, rfl⟩
  · first | refine j_aload_n (pc := 23) F dX6_isBetterThan_23 rfl ?_ | refine j_aload_nq (pc := 23) F dX6_isBetterThan_23 rfl ?_
    refine j_get (pc := 24) F fg_X6_22 (by first | assumption | exact hUp_s) (by rfl) dX6_isBetterThan_24 ?_
    refine j_ri (j_runV (pc := 27) F (c_X2_size h3) m_X2_size mv_X2_size lk_X6_29 (by first | assumption | exact hUp_s) rfl ⟨by decide, by decide⟩ (Nat.le_of_ble_eq_true rfl) ⟨by omega, by omega⟩ rfl dX6_isBetterThan_27) (fun r h7 hp => ?_)
    obtain ⟨rfl, rfl⟩ := hp
    first | refine j_aload_n (pc := 30) F dX6_isBetterThan_30 rfl ?_ | refine j_aload_nq (pc := 30) F dX6_isBetterThan_30 rfl ?_
    refine j_get (pc := 31) F fg_X6_22 (by first | assumption | exact hUp_s) (by rfl) dX6_isBetterThan_31 ?_
    refine j_ri (j_runV (pc := 34) F (c_X2_size h5) m_X2_size mv_X2_size lk_X6_29 (by first | assumption | exact hUp_s) rfl ⟨by decide, by decide⟩ (Nat.le_of_ble_eq_true rfl) ⟨by omega, by omega⟩ rfl dX6_isBetterThan_34) (fun r h8 hp => ?_)
    obtain ⟨rfl, rfl⟩ := hp
    first | refine j_icmp_geN (pc := 37) F 44 dX6_isBetterThan_37 (by decide) (by omega) (by omega) (fun c2 => ?_) (fun c2 => ?_) | refine j_icmp_geIN (pc := 37) F 44 dX6_isBetterThan_37 (by decide) (by omega) (fun c2 => ?_) (fun c2 => ?_) | refine j_icmp_geNI (pc := 37) F 44 dX6_isBetterThan_37 (by decide) (by omega) (fun c2 => ?_) (fun c2 => ?_) | refine j_icmp_geI (pc := 37) F 44 dX6_isBetterThan_37 (by decide) (fun c2 => ?_) (fun c2 => ?_)
    · refine j_iconst (pc := 44) (v := (nI 0)) F dX6_isBetterThan_44 (by decide) ?_
      exact j_iret F hQ rfl rfl (by omega) (by omega) dX6_isBetterThan_45 ⟨by rw [better, decide_eq_false (by omega)]; rfl, rfl⟩
    · refine j_iconst (pc := 40) (v := (nI 1)) F dX6_isBetterThan_40 (by decide) ?_
      refine j_goto (pc := 41) F 45 dX6_isBetterThan_41 (by decide) ?_
      exact j_iret F hQ rfl rfl (by omega) (by omega) dX6_isBetterThan_45 ⟨by rw [better, decide_eq_true (by omega)]; rfl, rfl⟩
theorem c_X6_isFoundBeforeN {r : Nat} : MI l g A h yX6_isFoundBefore cX6_isFoundBefore 2 (some .boolean) 2 0 0 [.ref r, .null] (fun x h1 => x = bI true ∧ h1 = h) := by
  refine j_met (by decide +kernel) (Nat.le_of_ble_eq_true rfl) (fun X F hn hQ => ?_)
  refine j_aload_nN (pc := 0) F dX6_isFoundBefore_0 rfl ?_
  refine j_ifnonnullN (pc := 1) F dX6_isFoundBefore_1 ?_
  refine j_iconst (pc := 4) (v := (nI 1)) F dX6_isFoundBefore_4 (by decide) ?_
  exact j_iret F hQ rfl rfl (by omega) (by omega) dX6_isFoundBefore_5 ⟨rfl, rfl⟩
theorem c_X6_isFoundBefore {r pf pa aa pe q b z s e r2 pf2 pa2 aa2 pe2 q2 b2 z2 s2 e2 : Nat} {N N2 : Nat → Nat} (hr : isRoute g h r pf pa aa pe q b z N s e) (ho : rOk pe q b z s e) (hr2 : isRoute g h r2 pf2 pa2 aa2 pe2 q2 b2 z2 N2 s2 e2) (ho2 : rOk pe2 q2 b2 z2 s2 e2) : MI l g A h yX6_isFoundBefore cX6_isFoundBefore 2 (some .boolean) 2 0 0 [.ref r, .ref r2] (fun x h1 => x = bI (foundBf b z pe b2 z2 pe2) ∧ h1 = h) := by
  have hr0 := hr
  have ho0 := ho
  have hr20 := hr2
  have ho20 := ho2
  obtain ⟨hr, h2, h3⟩ := hr
  obtain ⟨o1, o2, o3, o4, o5, o6⟩ := ho
  obtain ⟨hr2, h4, h5⟩ := hr2
  obtain ⟨p1, p2, p3, p4, p5, p6⟩ := ho2
  unfold isPfx at h2 h4
  refine j_met (by decide +kernel) (Nat.le_of_ble_eq_true rfl) (fun X F hn hQ => ?_)
  first | refine j_aload_n (pc := 0) F dX6_isFoundBefore_0 rfl ?_ | refine j_aload_nq (pc := 0) F dX6_isFoundBefore_0 rfl ?_
  refine j_ifnonnull (pc := 1) F 6 dX6_isFoundBefore_1 (by decide) ?_
  first | refine j_aload_n (pc := 6) F dX6_isFoundBefore_6 rfl ?_ | refine j_aload_nq (pc := 6) F dX6_isFoundBefore_6 rfl ?_
  refine j_get (pc := 7) F fg_X6_18 (by first | assumption | exact hUp_s) (by rfl) dX6_isFoundBefore_7 ?_
  refine j_getN (pc := 10) F fn_X6_35 (by first | assumption | exact hUp_s) (by rfl) dX6_isFoundBefore_10 ?_
  first | refine j_aload_n (pc := 13) F dX6_isFoundBefore_13 rfl ?_ | refine j_aload_nq (pc := 13) F dX6_isFoundBefore_13 rfl ?_
  refine j_get (pc := 14) F fg_X6_18 (by first | assumption | exact hUp_s) (by rfl) dX6_isFoundBefore_14 ?_
  refine j_getN (pc := 17) F fn_X6_35 (by first | assumption | exact hUp_s) (by rfl) dX6_isFoundBefore_17 ?_
  first | refine j_icmp_eqN (pc := 20) F 46 dX6_isFoundBefore_20 (by decide) (by omega) (by omega) (fun c => ?_) (fun c => ?_) | refine j_icmp_eqIN (pc := 20) F 46 dX6_isFoundBefore_20 (by decide) (by omega) (fun c => ?_) (fun c => ?_) | refine j_icmp_eqNI (pc := 20) F 46 dX6_isFoundBefore_20 (by decide) (by omega) (fun c => ?_) (fun c => ?_) | refine j_icmp_eq (pc := 20) F 46 dX6_isFoundBefore_20 (by decide) (fun c => ?_) (fun c => ?_)
  · subst c
    first | refine j_aload_n (pc := 46) F dX6_isFoundBefore_46 rfl ?_ | refine j_aload_nq (pc := 46) F dX6_isFoundBefore_46 rfl ?_
    first | refine j_aload_n (pc := 47) F dX6_isFoundBefore_47 rfl ?_ | refine j_aload_nq (pc := 47) F dX6_isFoundBefore_47 rfl ?_
    refine j_ri (j_runV (pc := 48) F (c_X6_isBetterThan hr0 ho0 hr20 ho20) m_X6_isBetterThan mv_X6_isBetterThan lk_X6_40 (by first | assumption | exact hUp_s) rfl ⟨by decide, by decide⟩ (Nat.le_of_ble_eq_true rfl) ⟨by omega, by omega⟩ rfl dX6_isFoundBefore_48) (fun r h1 hp => ?_)
    obtain ⟨rfl, rfl⟩ := hp
    refine j_iret F hQ rfl (bI_n _) (by omega) (by omega) dX6_isFoundBefore_51 ⟨?_, rfl⟩
    rw [foundBf, better]
    congr 1
    simp
  · first | refine j_aload_n (pc := 23) F dX6_isFoundBefore_23 rfl ?_ | refine j_aload_nq (pc := 23) F dX6_isFoundBefore_23 rfl ?_
    refine j_get (pc := 24) F fg_X6_18 (by first | assumption | exact hUp_s) (by rfl) dX6_isFoundBefore_24 ?_
    refine j_getN (pc := 27) F fn_X6_35 (by first | assumption | exact hUp_s) (by rfl) dX6_isFoundBefore_27 ?_
    first | refine j_aload_n (pc := 30) F dX6_isFoundBefore_30 rfl ?_ | refine j_aload_nq (pc := 30) F dX6_isFoundBefore_30 rfl ?_
    refine j_get (pc := 31) F fg_X6_18 (by first | assumption | exact hUp_s) (by rfl) dX6_isFoundBefore_31 ?_
    refine j_getN (pc := 34) F fn_X6_35 (by first | assumption | exact hUp_s) (by rfl) dX6_isFoundBefore_34 ?_
    first | refine j_icmp_leN (pc := 37) F 44 dX6_isFoundBefore_37 (by decide) (by omega) (by omega) (fun c2 => ?_) (fun c2 => ?_) | refine j_icmp_leIN (pc := 37) F 44 dX6_isFoundBefore_37 (by decide) (by omega) (fun c2 => ?_) (fun c2 => ?_) | refine j_icmp_leNI (pc := 37) F 44 dX6_isFoundBefore_37 (by decide) (by omega) (fun c2 => ?_) (fun c2 => ?_) | refine j_icmp_leI (pc := 37) F 44 dX6_isFoundBefore_37 (by decide) (fun c2 => ?_) (fun c2 => ?_)
    · refine j_iconst (pc := 44) (v := (nI 0)) F dX6_isFoundBefore_44 (by decide) ?_
      exact j_iret F hQ rfl rfl (by omega) (by omega) dX6_isFoundBefore_45 ⟨by rw [foundBf, decide_eq_false (by omega)]; rfl, rfl⟩
    · refine j_iconst (pc := 40) (v := (nI 1)) F dX6_isFoundBefore_40 (by decide) ?_
      refine j_goto (pc := 41) F 45 dX6_isFoundBefore_41 (by decide) ?_
      exact j_iret F hQ rfl rfl (by omega) (by omega) dX6_isFoundBefore_45 ⟨by rw [foundBf, decide_eq_true (by omega)]; rfl, rfl⟩
theorem c_X6_isLike {r pf pa aa pe q b z s e r2 pf2 pa2 aa2 pe2 q2 b2 z2 s2 e2 : Nat} {N N2 : Nat → Nat} (hr : isRoute g h r pf pa aa pe q b z N s e) (ho : rOk pe q b z s e) (hN : ∀ j, j < z → N j < 2 ^ 31) (hr2 : isRoute g h r2 pf2 pa2 aa2 pe2 q2 b2 z2 N2 s2 e2) (ho2 : rOk pe2 q2 b2 z2 s2 e2) (hN2 : ∀ j, j < z2 → N2 j < 2 ^ 31) : MI l g A h yX6_isLike cX6_isLike 2 (some .boolean) 1 0 0 [.ref r, .ref r2] (fun x h1 => x = bI (decide (pe = pe2) && pLike z N z2 N2) ∧ h1 = h) := by
  obtain ⟨hr, h2, h3⟩ := hr
  obtain ⟨o1, o2, o3, o4, o5, o6⟩ := ho
  obtain ⟨hr2, h4, h5⟩ := hr2
  obtain ⟨p1, p2, p3, p4, p5, p6⟩ := ho2
  obtain ⟨y1, g1, g2⟩ := id h3
  refine j_met (by decide +kernel) (Nat.le_of_ble_eq_true rfl) (fun X F hn hQ => ?_)
  first | refine j_aload_n (pc := 0) F dX6_isLike_0 rfl ?_ | refine j_aload_nq (pc := 0) F dX6_isLike_0 rfl ?_
  refine j_get (pc := 1) F fg_X6_15 (by first | assumption | exact hUp_s) (by rfl) dX6_isLike_1 ?_
  first | refine j_aload_n (pc := 4) F dX6_isLike_4 rfl ?_ | refine j_aload_nq (pc := 4) F dX6_isLike_4 rfl ?_
  refine j_get (pc := 5) F fg_X6_15 (by first | assumption | exact hUp_s) (by rfl) dX6_isLike_5 ?_
  first | refine j_icmp_neN (pc := 8) F 29 dX6_isLike_8 (by decide) (by omega) (by omega) (fun c => ?_) (fun c => ?_) | refine j_icmp_neIN (pc := 8) F 29 dX6_isLike_8 (by decide) (by omega) (fun c => ?_) (fun c => ?_) | refine j_icmp_neNI (pc := 8) F 29 dX6_isLike_8 (by decide) (by omega) (fun c => ?_) (fun c => ?_) | refine j_icmp_ne (pc := 8) F 29 dX6_isLike_8 (by decide) (fun c => ?_) (fun c => ?_)
  · refine j_iconst (pc := 29) (v := (nI 0)) F dX6_isLike_29 (by decide) ?_
    exact j_iret F hQ rfl rfl (by omega) (by omega) dX6_isLike_30 ⟨by rw [decide_eq_false (by omega)]; rfl, rfl⟩
  · first | refine j_aload_n (pc := 11) F dX6_isLike_11 rfl ?_ | refine j_aload_nq (pc := 11) F dX6_isLike_11 rfl ?_
    refine j_get (pc := 12) F fg_X6_22 (by first | assumption | exact hUp_s) (by rfl) dX6_isLike_12 ?_
    first | refine j_aload_n (pc := 15) F dX6_isLike_15 rfl ?_ | refine j_aload_nq (pc := 15) F dX6_isLike_15 rfl ?_
    refine j_get (pc := 16) F fg_X6_22 (by first | assumption | exact hUp_s) (by rfl) dX6_isLike_16 ?_
    refine j_ri (j_runV (pc := 19) F (c_X2_isLike h3 h5 hN hN2) m_X2_isLike mv_X2_isLike lk_X6_44 (by first | assumption | exact hUp_s) rfl ⟨by decide, by decide⟩ (Nat.le_of_ble_eq_true rfl) ⟨by omega, by omega⟩ rfl dX6_isLike_19) (fun r h1 hp => ?_)
    obtain ⟨rfl, rfl⟩ := hp
    first | refine j_if_eqB (pc := 22) F 29 dX6_isLike_22 (by decide) (fun c2 => ?_) (fun c2 => ?_) | refine j_if_eqN (pc := 22) F 29 dX6_isLike_22 (by decide) (by omega) (fun c2 => ?_) (fun c2 => ?_) | refine j_if_eqI (pc := 22) F 29 dX6_isLike_22 (by decide) (fun c2 => ?_) (fun c2 => ?_)
    · refine j_iconst (pc := 29) (v := (nI 0)) F dX6_isLike_29 (by decide) ?_
      exact j_iret F hQ rfl rfl (by omega) (by omega) dX6_isLike_30 ⟨by rw [c2, Bool.and_false]; rfl, rfl⟩
    · refine j_iconst (pc := 25) (v := (nI 1)) F dX6_isLike_25 (by decide) ?_
      refine j_goto (pc := 26) F 30 dX6_isLike_26 (by decide) ?_
      exact j_iret F hQ rfl rfl (by omega) (by omega) dX6_isLike_30 ⟨by rw [c2, decide_eq_true c]; rfl, rfl⟩
end ROUTE
end
section
/-! ===== Bgpreplay$Entry, Bgpreplay$Registry, Bgpreplay$Relations ===== -/
def isEntry (h : HF) (en pf q b lo og : Nat) : Prop := h en = some (.inr (0, [.ref pf, .int (nI lo), .int (nI og)])) ∧ isPfx h pf q b
def eOk (q b lo og : Nat) : Prop := q < 512 ∧ b ≤ 8 ∧ lo ≤ 8 ∧ og ≤ 30
def eLike (q lo og q2 lo2 og2 : Nat) : Bool := decide (q = q2 ∧ lo = lo2 ∧ og = og2)
/-- an entry allows the route of prefix q2 / b2, origin og2 -/
def ePerm (q b lo og q2 b2 og2 : Nat) : Bool := decide (cov q b q2 b2 = true ∧ og = og2 ∧ b2 ≤ lo)
theorem pAt_in {z : Nat} {N : Nat → Nat} {j : Nat} (hj : j < z) : pAt z N j = nI (N j) := by unfold pAt; rw [if_pos (by omega)]; rfl
theorem pAt_last {z : Nat} {N : Nat → Nat} (hz : 0 < z) : pAt z N (z - 1) = nI (N (z - 1)) := by
  rw [show ((z : Int) - 1) = ((z - 1 : Nat) : Int) by omega]
  exact pAt_in (by omega)
section REG
variable {l : Launch} {g : GG} {A : Nat → Prop} {h : HF}
theorem c_X0_init {p pf : Nat} {x y : Int32} (hp : h p = some (.inr (0, [.null, .int 0, .int 0]))) : MVo l g A h yX0_init cX0_init 4 1 0 0 [.ref p, .ref pf, .int x, .int y] (fun h1 => h1 p = some (.inr (0, [.ref pf, .int x, .int y])) ∧ ∀ b, b ≠ p → h1 b = h b) := by
  refine j_met (by decide +kernel) (Nat.le_of_ble_eq_true rfl) (fun X F hn hQ => ?_)
  first | refine j_aload_n (pc := 0) F dX0_init_0 rfl ?_ | refine j_aload_nq (pc := 0) F dX0_init_0 rfl ?_
  refine j_objInit (pc := 1) F (by omega) lk_X0_1 (Nat.le_of_ble_eq_true rfl) dX0_init_1 ?_
  first | refine j_aload_n (pc := 4) F dX0_init_4 rfl ?_ | refine j_aload_nq (pc := 4) F dX0_init_4 rfl ?_
  first | refine j_aload_n (pc := 5) F dX0_init_5 rfl ?_ | refine j_aload_nq (pc := 5) F dX0_init_5 rfl ?_
  refine j_putF (pc := 6) F fp_X0_7 hn rfl (by first | assumption | exact hUp_s) (by rfl) (by rfl) (Nat.le_of_ble_eq_true rfl) dX0_init_6 ?_
  first | refine j_aload_n (pc := 9) F dX0_init_9 rfl ?_ | refine j_aload_nq (pc := 9) F dX0_init_9 rfl ?_
  refine j_iload_n (pc := 10) F dX0_init_10 rfl ?_
  refine j_putF (pc := 11) F fp_X0_13 hn rfl (by first | assumption | exact hUp_s) (by rfl) (by rfl) (Nat.le_of_ble_eq_true rfl) dX0_init_11 ?_
  first | refine j_aload_n (pc := 14) F dX0_init_14 rfl ?_ | refine j_aload_nq (pc := 14) F dX0_init_14 rfl ?_
  refine j_iload_n (pc := 15) F dX0_init_15 rfl ?_
  refine j_putF (pc := 16) F fp_X0_17 hn rfl (by first | assumption | exact hUp_s) (by rfl) (by rfl) (Nat.le_of_ble_eq_true rfl) dX0_init_16 ?_
  refine j_vret F hQ rfl (by omega) (by omega) dX0_init_19 ⟨?_, fun b q1 => ?_⟩
  · rw [hUp_s]; rfl
  · rw [hUp_n q1, hUp_n q1, hUp_n q1]
theorem c_X0_isLike {en pf q b lo og en2 pf2 q2 b2 lo2 og2 : Nat} (he : isEntry h en pf q b lo og) (ho : eOk q b lo og) (he2 : isEntry h en2 pf2 q2 b2 lo2 og2) (ho2 : eOk q2 b2 lo2 og2) : MI l g A h yX0_isLike cX0_isLike 2 (some .boolean) 0 0 0 [.ref en, .ref en2] (fun r h1 => r = bI (eLike q lo og q2 lo2 og2) ∧ h1 = h) := by
  obtain ⟨e1, e2⟩ := he
  obtain ⟨f1, f2⟩ := he2
  obtain ⟨o1, o2, o3, o4⟩ := ho
  obtain ⟨p1, p2, p3, p4⟩ := ho2
  unfold isPfx at e2 f2
  refine j_met (by decide +kernel) (Nat.le_of_ble_eq_true rfl) (fun X F hn hQ => ?_)
  first | refine j_aload_n (pc := 0) F dX0_isLike_0 rfl ?_ | refine j_aload_nq (pc := 0) F dX0_isLike_0 rfl ?_
  refine j_get (pc := 1) F fg_X0_7 (by first | assumption | exact hUp_s) (by rfl) dX0_isLike_1 ?_
  refine j_getN (pc := 4) F fn_X0_20 (by first | assumption | exact hUp_s) (by rfl) dX0_isLike_4 ?_
  first | refine j_aload_n (pc := 7) F dX0_isLike_7 rfl ?_ | refine j_aload_nq (pc := 7) F dX0_isLike_7 rfl ?_
  refine j_get (pc := 8) F fg_X0_7 (by first | assumption | exact hUp_s) (by rfl) dX0_isLike_8 ?_
  refine j_getN (pc := 11) F fn_X0_20 (by first | assumption | exact hUp_s) (by rfl) dX0_isLike_11 ?_
  first | refine j_icmp_neN (pc := 14) F 43 dX0_isLike_14 (by decide) (by omega) (by omega) (fun c => ?_) (fun c => ?_) | refine j_icmp_neIN (pc := 14) F 43 dX0_isLike_14 (by decide) (by omega) (fun c => ?_) (fun c => ?_) | refine j_icmp_neNI (pc := 14) F 43 dX0_isLike_14 (by decide) (by omega) (fun c => ?_) (fun c => ?_) | refine j_icmp_ne (pc := 14) F 43 dX0_isLike_14 (by decide) (fun c => ?_) (fun c => ?_)
  · refine j_iconst (pc := 43) (v := (nI 0)) F dX0_isLike_43 (by decide) ?_
    exact j_iret F hQ rfl rfl (by omega) (by omega) dX0_isLike_44 ⟨by rw [eLike, decide_eq_false (by omega)]; rfl, rfl⟩
  · first | refine j_aload_n (pc := 17) F dX0_isLike_17 rfl ?_ | refine j_aload_nq (pc := 17) F dX0_isLike_17 rfl ?_
    refine j_get (pc := 18) F fg_X0_13 (by first | assumption | exact hUp_s) (by rfl) dX0_isLike_18 ?_
    first | refine j_aload_n (pc := 21) F dX0_isLike_21 rfl ?_ | refine j_aload_nq (pc := 21) F dX0_isLike_21 rfl ?_
    refine j_get (pc := 22) F fg_X0_13 (by first | assumption | exact hUp_s) (by rfl) dX0_isLike_22 ?_
    first | refine j_icmp_neN (pc := 25) F 43 dX0_isLike_25 (by decide) (by omega) (by omega) (fun c2 => ?_) (fun c2 => ?_) | refine j_icmp_neIN (pc := 25) F 43 dX0_isLike_25 (by decide) (by omega) (fun c2 => ?_) (fun c2 => ?_) | refine j_icmp_neNI (pc := 25) F 43 dX0_isLike_25 (by decide) (by omega) (fun c2 => ?_) (fun c2 => ?_) | refine j_icmp_ne (pc := 25) F 43 dX0_isLike_25 (by decide) (fun c2 => ?_) (fun c2 => ?_)
    · refine j_iconst (pc := 43) (v := (nI 0)) F dX0_isLike_43 (by decide) ?_
      exact j_iret F hQ rfl rfl (by omega) (by omega) dX0_isLike_44 ⟨by rw [eLike, decide_eq_false (by omega)]; rfl, rfl⟩
    · first | refine j_aload_n (pc := 28) F dX0_isLike_28 rfl ?_ | refine j_aload_nq (pc := 28) F dX0_isLike_28 rfl ?_
      refine j_get (pc := 29) F fg_X0_17 (by first | assumption | exact hUp_s) (by rfl) dX0_isLike_29 ?_
      first | refine j_aload_n (pc := 32) F dX0_isLike_32 rfl ?_ | refine j_aload_nq (pc := 32) F dX0_isLike_32 rfl ?_
      refine j_get (pc := 33) F fg_X0_17 (by first | assumption | exact hUp_s) (by rfl) dX0_isLike_33 ?_
      first | refine j_icmp_neN (pc := 36) F 43 dX0_isLike_36 (by decide) (by omega) (by omega) (fun c3 => ?_) (fun c3 => ?_) | refine j_icmp_neIN (pc := 36) F 43 dX0_isLike_36 (by decide) (by omega) (fun c3 => ?_) (fun c3 => ?_) | refine j_icmp_neNI (pc := 36) F 43 dX0_isLike_36 (by decide) (by omega) (fun c3 => ?_) (fun c3 => ?_) | refine j_icmp_ne (pc := 36) F 43 dX0_isLike_36 (by decide) (fun c3 => ?_) (fun c3 => ?_)
      · refine j_iconst (pc := 43) (v := (nI 0)) F dX0_isLike_43 (by decide) ?_
        exact j_iret F hQ rfl rfl (by omega) (by omega) dX0_isLike_44 ⟨by rw [eLike, decide_eq_false (by omega)]; rfl, rfl⟩
      · refine j_iconst (pc := 39) (v := (nI 1)) F dX0_isLike_39 (by decide) ?_
        refine j_goto (pc := 40) F 44 dX0_isLike_40 (by decide) ?_
        exact j_iret F hQ rfl rfl (by omega) (by omega) dX0_isLike_44 ⟨by rw [eLike, decide_eq_true (by omega)]; rfl, rfl⟩
theorem c_X0_concerns {en pf q b lo og r pf2 pa aa pe q2 b2 z s e : Nat} {N : Nat → Nat} (he : isEntry h en pf q b lo og) (ho : eOk q b lo og) (hr : isRoute g h r pf2 pa aa pe q2 b2 z N s e) (hro : rOk pe q2 b2 z s e) : MI l g A h yX0_concerns cX0_concerns 2 (some .boolean) 1 0 0 [.ref en, .ref r] (fun x h1 => x = bI (cov q b q2 b2) ∧ h1 = h) := by
  obtain ⟨e1, e2⟩ := he
  obtain ⟨hr, h2, h3⟩ := hr
  obtain ⟨o1, o2, o3, o4⟩ := ho
  obtain ⟨p1, p2, p3, p4, p5, p6⟩ := hro
  have e2' := e2
  unfold isPfx at e2'
  refine j_met (by decide +kernel) (Nat.le_of_ble_eq_true rfl) (fun X F hn hQ => ?_)
  first | refine j_aload_n (pc := 0) F dX0_concerns_0 rfl ?_ | refine j_aload_nq (pc := 0) F dX0_concerns_0 rfl ?_
  refine j_get (pc := 1) F fg_X0_7 (by first | assumption | exact hUp_s) (by rfl) dX0_concerns_1 ?_
  first | refine j_aload_n (pc := 4) F dX0_concerns_4 rfl ?_ | refine j_aload_nq (pc := 4) F dX0_concerns_4 rfl ?_
  refine j_getN (pc := 5) F fn_X0_25 (by first | assumption | exact hUp_s) (by rfl) dX0_concerns_5 ?_
  refine j_ri (j_runV (pc := 8) F (c_X3_covers e2 h2 o1 p2 o2 p3) m_X3_covers mv_X3_covers lk_X0_28 (by first | assumption | exact hUp_s) rfl ⟨by decide, by decide⟩ (Nat.le_of_ble_eq_true rfl) ⟨by omega, by omega⟩ rfl dX0_concerns_8) (fun r h1 hp => ?_)
  obtain ⟨rfl, rfl⟩ := hp
  exact j_iret F hQ rfl (bI_n _) (by omega) (by omega) dX0_concerns_11 ⟨rfl, rfl⟩
theorem c_X0_permits {en pf q b lo og r pf2 pa aa pe q2 b2 z s e : Nat} {N : Nat → Nat} (he : isEntry h en pf q b lo og) (ho : eOk q b lo og) (hr : isRoute g h r pf2 pa aa pe q2 b2 z N s e) (hro : rOk pe q2 b2 z s e) (hz : 0 < z) (hN : ∀ j, j < z → N j ≤ 30) : MI l g A h yX0_permits cX0_permits 2 (some .boolean) 2 0 0 [.ref en, .ref r] (fun x h1 => x = bI (ePerm q b lo og q2 b2 (N (z - 1))) ∧ h1 = h) := by
  have he0 := he
  have ho0 := ho
  have hr0 := hr
  have hro0 := hro
  obtain ⟨e1, e2⟩ := he
  obtain ⟨hr, h2, h3⟩ := hr
  obtain ⟨o1, o2, o3, o4⟩ := ho
  obtain ⟨p1, p2, p3, p4, p5, p6⟩ := hro
  have h2' := h2
  unfold isPfx at h2'
  obtain ⟨y1, g1, g2⟩ := id h3
  have hN1 := hN (z - 1) (by omega)
  refine j_met (by decide +kernel) (Nat.le_of_ble_eq_true rfl) (fun X F hn hQ => ?_)
  first | refine j_aload_n (pc := 0) F dX0_permits_0 rfl ?_ | refine j_aload_nq (pc := 0) F dX0_permits_0 rfl ?_
  first | refine j_aload_n (pc := 1) F dX0_permits_1 rfl ?_ | refine j_aload_nq (pc := 1) F dX0_permits_1 rfl ?_
  refine j_ri (j_runV (pc := 2) F (c_X0_concerns he0 ho0 hr0 hro0) m_X0_concerns mv_X0_concerns lk_X0_32 (by first | assumption | exact hUp_s) rfl ⟨by decide, by decide⟩ (Nat.le_of_ble_eq_true rfl) ⟨by omega, by omega⟩ rfl dX0_permits_2) (fun r h1 hp => ?_)
  obtain ⟨rfl, rfl⟩ := hp
  first | refine j_if_eqB (pc := 5) F 40 dX0_permits_5 (by decide) (fun c => ?_) (fun c => ?_) | refine j_if_eqN (pc := 5) F 40 dX0_permits_5 (by decide) (by omega) (fun c => ?_) (fun c => ?_) | refine j_if_eqI (pc := 5) F 40 dX0_permits_5 (by decide) (fun c => ?_) (fun c => ?_)
  · refine j_iconst (pc := 40) (v := (nI 0)) F dX0_permits_40 (by decide) ?_
    exact j_iret F hQ rfl rfl (by omega) (by omega) dX0_permits_41 ⟨by rw [ePerm, decide_eq_false (fun z => by rw [c] at z; cases z.1)]; rfl, rfl⟩
  · first | refine j_aload_n (pc := 8) F dX0_permits_8 rfl ?_ | refine j_aload_nq (pc := 8) F dX0_permits_8 rfl ?_
    refine j_get (pc := 9) F fg_X0_17 (by first | assumption | exact hUp_s) (by rfl) dX0_permits_9 ?_
    first | refine j_aload_n (pc := 12) F dX0_permits_12 rfl ?_ | refine j_aload_nq (pc := 12) F dX0_permits_12 rfl ?_
    refine j_getN (pc := 13) F fn_X0_36 (by first | assumption | exact hUp_s) (by rfl) dX0_permits_13 ?_
    refine j_ri (j_runV (pc := 16) F (c_X2_origin h3) m_X2_origin mv_X2_origin lk_X0_40 (by first | assumption | exact hUp_s) rfl ⟨by decide, by decide⟩ (Nat.le_of_ble_eq_true rfl) ⟨by omega, by omega⟩ rfl dX0_permits_16) (fun r h6 hp => ?_)
    obtain ⟨rfl, rfl⟩ := hp
    refine j_int (pAt_last hz) ?_
    first | refine j_icmp_neN (pc := 19) F 40 dX0_permits_19 (by decide) (by omega) (by omega) (fun c2 => ?_) (fun c2 => ?_) | refine j_icmp_neIN (pc := 19) F 40 dX0_permits_19 (by decide) (by omega) (fun c2 => ?_) (fun c2 => ?_) | refine j_icmp_neNI (pc := 19) F 40 dX0_permits_19 (by decide) (by omega) (fun c2 => ?_) (fun c2 => ?_) | refine j_icmp_ne (pc := 19) F 40 dX0_permits_19 (by decide) (fun c2 => ?_) (fun c2 => ?_)
    · refine j_iconst (pc := 40) (v := (nI 0)) F dX0_permits_40 (by decide) ?_
      exact j_iret F hQ rfl rfl (by omega) (by omega) dX0_permits_41 ⟨by rw [ePerm, decide_eq_false (by omega)]; rfl, rfl⟩
    · first | refine j_aload_n (pc := 22) F dX0_permits_22 rfl ?_ | refine j_aload_nq (pc := 22) F dX0_permits_22 rfl ?_
      refine j_get (pc := 23) F fg_X0_13 (by first | assumption | exact hUp_s) (by rfl) dX0_permits_23 ?_
      first | refine j_aload_n (pc := 26) F dX0_permits_26 rfl ?_ | refine j_aload_nq (pc := 26) F dX0_permits_26 rfl ?_
      refine j_getN (pc := 27) F fn_X0_25 (by first | assumption | exact hUp_s) (by rfl) dX0_permits_27 ?_
      refine j_getN (pc := 30) F fn_X0_45 (by first | assumption | exact hUp_s) (by rfl) dX0_permits_30 ?_
      first | refine j_icmp_ltN (pc := 33) F 40 dX0_permits_33 (by decide) (by omega) (by omega) (fun c3 => ?_) (fun c3 => ?_) | refine j_icmp_ltIN (pc := 33) F 40 dX0_permits_33 (by decide) (by omega) (fun c3 => ?_) (fun c3 => ?_) | refine j_icmp_ltNI (pc := 33) F 40 dX0_permits_33 (by decide) (by omega) (fun c3 => ?_) (fun c3 => ?_) | refine j_icmp_ltI (pc := 33) F 40 dX0_permits_33 (by decide) (fun c3 => ?_) (fun c3 => ?_)
      · refine j_iconst (pc := 40) (v := (nI 0)) F dX0_permits_40 (by decide) ?_
        exact j_iret F hQ rfl rfl (by omega) (by omega) dX0_permits_41 ⟨by rw [ePerm, decide_eq_false (by omega)]; rfl, rfl⟩
      · refine j_iconst (pc := 36) (v := (nI 1)) F dX0_permits_36 (by decide) ?_
        refine j_goto (pc := 37) F 41 dX0_permits_37 (by decide) ?_
        exact j_iret F hQ rfl rfl (by omega) (by omega) dX0_permits_41 ⟨by rw [ePerm, decide_eq_true ⟨c, by omega, by omega⟩]; rfl, rfl⟩
/-- the registry rg, its row ea, of n entries: their addresses, prefixes' addresses, numbers, lengths, longest, origins -/
def isReg (g : GG) (h : HF) (rg ea n : Nat) (ad pf Q B L O : Nat → Nat) : Prop := ∃ r : Nat → Option Nat, h rg = some (.inr (4, [.ref ea, .int (nI n)])) ∧ h ea = some (aE g 20 r) ∧ n ≤ 20 ∧ ∀ i, i < n → r i = some (ad i) ∧ isEntry h (ad i) (pf i) (Q i) (B i) (L i) (O i) ∧ eOk (Q i) (B i) (L i) (O i)
theorem c_X4_init {p : Nat} (hp : h p = some (.inr (4, [.null, .int 0]))) : MVo l g A h yX4_init cX4_init 1 1 1 20 [.ref p] (fun h1 => ∃ a, h a = none ∧ h1 p = some (.inr (4, [.ref a, .int (nI 0)])) ∧ h1 a = some (aE g 20 (fun _ => none)) ∧ ∀ b, b ≠ p → b ≠ a → h1 b = h b) := by
  refine j_met (by decide +kernel) (Nat.le_of_ble_eq_true rfl) (fun X F hn hQ => ?_)
  first | refine j_aload_n (pc := 0) F dX4_init_0 rfl ?_ | refine j_aload_nq (pc := 0) F dX4_init_0 rfl ?_
  refine j_objInit (pc := 1) F (by omega) lk_X4_3 (Nat.le_of_ble_eq_true rfl) dX4_init_1 ?_
  first | refine j_aload_n (pc := 4) F dX4_init_4 rfl ?_ | refine j_aload_nq (pc := 4) F dX4_init_4 rfl ?_
  refine j_bipush (pc := 5) (v := (nI 20)) F dX4_init_5 (by decide) ?_
  refine j_newaE (pc := 7) F (N := 20) lc_X4_9 (by decide) (by decide) (by decide) (by omega) (by omega) dX4_init_7 (fun q hq hA => ?_)
  have hpq : p ≠ q := Ne.symm (ne_of hq hp)
  have e3 : hUp h q (aE g 20 (fun _ => none)) p = some (.inr (4, [.null, .int 0])) := (hUp_n hpq).trans hp
  refine j_putF (pc := 10) F fp_X4_11 hn rfl (by first | assumption | exact hUp_s) (by rfl) (by rfl) (Nat.le_of_ble_eq_true rfl) dX4_init_10 ?_
  first | refine j_aload_n (pc := 13) F dX4_init_13 rfl ?_ | refine j_aload_nq (pc := 13) F dX4_init_13 rfl ?_
  refine j_iconst (pc := 14) (v := (nI 0)) F dX4_init_14 (by decide) ?_
  refine j_put (pc := 15) F fp_X4_17 (by first | assumption | exact hUp_s) (by rfl) (by rfl) (Nat.le_of_ble_eq_true rfl) dX4_init_15 ?_
  refine j_vret F hQ rfl (by omega) (by omega) dX4_init_18 ⟨q, hq, ?_, ?_, fun b q1 q2 => ?_⟩
  · rw [hUp_s]; rfl
  · rw [hUp_n (Ne.symm hpq), hUp_n (Ne.symm hpq), hUp_s]
  · rw [hUp_n q1, hUp_n q1, hUp_n q2]
theorem c_X4_isFull {rg ea n : Nat} {ad pf Q B L O : Nat → Nat} (hr : isReg g h rg ea n ad pf Q B L O) : MI l g A h yX4_isFull cX4_isFull 1 (some .boolean) 0 0 0 [.ref rg] (fun r h1 => r = bI (decide (20 ≤ n)) ∧ h1 = h) := by
  obtain ⟨rr, e1, e2, hn20, he⟩ := hr
  refine j_met (by decide +kernel) (Nat.le_of_ble_eq_true rfl) (fun X F hn hQ => ?_)
  first | refine j_aload_n (pc := 0) F dX4_isFull_0 rfl ?_ | refine j_aload_nq (pc := 0) F dX4_isFull_0 rfl ?_
  refine j_get (pc := 1) F fg_X4_17 (by first | assumption | exact hUp_s) (by rfl) dX4_isFull_1 ?_
  refine j_bipush (pc := 4) (v := (nI 20)) F dX4_isFull_4 (by decide) ?_
  first | refine j_icmp_ltN (pc := 6) F 13 dX4_isFull_6 (by decide) (by omega) (by omega) (fun c => ?_) (fun c => ?_) | refine j_icmp_ltIN (pc := 6) F 13 dX4_isFull_6 (by decide) (by omega) (fun c => ?_) (fun c => ?_) | refine j_icmp_ltNI (pc := 6) F 13 dX4_isFull_6 (by decide) (by omega) (fun c => ?_) (fun c => ?_) | refine j_icmp_ltI (pc := 6) F 13 dX4_isFull_6 (by decide) (fun c => ?_) (fun c => ?_)
  · refine j_iconst (pc := 13) (v := (nI 0)) F dX4_isFull_13 (by decide) ?_
    exact j_iret F hQ rfl rfl (by omega) (by omega) dX4_isFull_14 ⟨by rw [decide_eq_false (by omega)]; rfl, rfl⟩
  · refine j_iconst (pc := 9) (v := (nI 1)) F dX4_isFull_9 (by decide) ?_
    refine j_goto (pc := 10) F 14 dX4_isFull_10 (by decide) ?_
    exact j_iret F hQ rfl rfl (by omega) (by omega) dX4_isFull_14 ⟨by rw [decide_eq_true (by omega)]; rfl, rfl⟩
theorem c_X4_placeOf {rg ea n en pf2 q2 b2 lo2 og2 : Nat} {ad pf Q B L O : Nat → Nat} (hr : isReg g h rg ea n ad pf Q B L O) (he : isEntry h en pf2 q2 b2 lo2 og2) (ho : eOk q2 b2 lo2 og2) : MI l g A h yX4_placeOf cX4_placeOf 3 (some .int) 1 0 0 [.ref rg, .ref en] (fun x h1 => ((∃ i, x = nI i ∧ i < n ∧ eLike (Q i) (L i) (O i) q2 lo2 og2 = true ∧ ∀ j, j < i → eLike (Q j) (L j) (O j) q2 lo2 og2 = false) ∨ (x = -1 ∧ ∀ j, j < n → eLike (Q j) (L j) (O j) q2 lo2 og2 = false)) ∧ h1 = h) := by
  obtain ⟨rr, e1, e2, hn20, hes⟩ := hr
  refine j_met (by decide +kernel) (Nat.le_of_ble_eq_true rfl) (fun X F hn hQ => ?_)
  refine j_iconst (pc := 0) (v := (nI 0)) F dX4_placeOf_0 (by decide) ?_
  refine j_istore_n (pc := 1) F dX4_placeOf_1 (by decide) ?_
  have loop : ∀ m i, n < i + m → i ≤ n → (∀ j, j < i → eLike (Q j) (L j) (O j) q2 lo2 og2 = false) → J l X g A 3 0 0 h 2 [(0, .ref rg), (1, .ref en), (2, .int (nI i))] [] := by
    intro m
    induction m with
    | zero => intro i q1 q2; omega
    | succ m ih =>
      intro i q1 q2 q3
      refine j_iload_n (pc := 2) F dX4_placeOf_2 rfl ?_
      first | refine j_aload_n (pc := 3) F dX4_placeOf_3 rfl ?_ | refine j_aload_nq (pc := 3) F dX4_placeOf_3 rfl ?_
      refine j_get (pc := 4) F fg_X4_17 (by first | assumption | exact hUp_s) (by rfl) dX4_placeOf_4 ?_
      first | refine j_icmp_geN (pc := 7) F 31 dX4_placeOf_7 (by decide) (by omega) (by omega) (fun c => ?_) (fun c => ?_) | refine j_icmp_geIN (pc := 7) F 31 dX4_placeOf_7 (by decide) (by omega) (fun c => ?_) (fun c => ?_) | refine j_icmp_geNI (pc := 7) F 31 dX4_placeOf_7 (by decide) (by omega) (fun c => ?_) (fun c => ?_) | refine j_icmp_geI (pc := 7) F 31 dX4_placeOf_7 (by decide) (fun c => ?_) (fun c => ?_)
      · refine j_iconst (pc := 31) (v := (-1)) F dX4_placeOf_31 (by decide) ?_
        exact j_iret F hQ rfl rfl (by omega) (by omega) dX4_placeOf_32 ⟨Or.inr ⟨rfl, fun j hj => q3 j (by omega)⟩, rfl⟩
      · obtain ⟨w1, w2, w3⟩ := hes i (by omega)
        have w4 := w2.1
        first | refine j_aload_n (pc := 10) F dX4_placeOf_10 rfl ?_ | refine j_aload_nq (pc := 10) F dX4_placeOf_10 rfl ?_
        refine j_get (pc := 11) F fg_X4_11 (by first | assumption | exact hUp_s) (by rfl) dX4_placeOf_11 ?_
        refine j_iload_n (pc := 14) F dX4_placeOf_14 rfl ?_
        first | refine j_aldRN (pc := 15) F (by first | assumption | exact hUp_s) (by omega) (by decide) dX4_placeOf_15 ?_ | refine j_aldEN (pc := 15) F (by first | assumption | exact hUp_s) (by omega) (by decide) dX4_placeOf_15 ?_ | refine j_aldIIN (pc := 15) F (by first | assumption | exact hUp_s) (by omega) (by decide) dX4_placeOf_15 ?_
        refine j_refS w1 ?_
        first | refine j_aload_n (pc := 16) F dX4_placeOf_16 rfl ?_ | refine j_aload_nq (pc := 16) F dX4_placeOf_16 rfl ?_
        refine j_ri (j_runV (pc := 17) F (c_X0_isLike w2 w3 he ho) m_X0_isLike mv_X0_isLike lk_X4_21 (by first | assumption | exact hUp_s) rfl ⟨by decide, by decide⟩ (Nat.le_of_ble_eq_true rfl) ⟨by omega, by omega⟩ rfl dX4_placeOf_17) (fun r h1 hp => ?_)
        obtain ⟨rfl, rfl⟩ := hp
        first | refine j_if_eqB (pc := 20) F 25 dX4_placeOf_20 (by decide) (fun c2 => ?_) (fun c2 => ?_) | refine j_if_eqN (pc := 20) F 25 dX4_placeOf_20 (by decide) (by omega) (fun c2 => ?_) (fun c2 => ?_) | refine j_if_eqI (pc := 20) F 25 dX4_placeOf_20 (by decide) (fun c2 => ?_) (fun c2 => ?_)
        · first | refine j_iincN (pc := 25) F dX4_placeOf_25 rfl (by decide) ?_ | refine j_iincM (pc := 25) F dX4_placeOf_25 rfl (by decide) ?_ | refine j_iinc (pc := 25) F dX4_placeOf_25 rfl rfl (by decide) ?_
          refine j_goto (pc := 28) F 2 dX4_placeOf_28 (by decide) ?_
          refine j_lv [(0, .ref rg), (1, .ref en), (2, .int (nI (i + 1)))] ⟨rfl, rfl, rfl, trivial⟩ ?_
          refine ih (i + 1) (by omega) (by omega) (fun j hj => ?_)
          rcases Nat.lt_or_ge j i with z1 | z1
          · exact q3 j z1
          · rw [show j = i by omega]; exact c2
        · refine j_iload_n (pc := 23) F dX4_placeOf_23 rfl ?_
          exact j_iret F hQ rfl rfl (by omega) (by omega) dX4_placeOf_24 ⟨Or.inl ⟨i, rfl, by omega, c2, q3⟩, rfl⟩
  refine j_lv [(0, .ref rg), (1, .ref en), (2, .int (nI 0))] ⟨rfl, rfl, rfl, trivial⟩ ?_
  exact loop (n + 1) 0 (by omega) (by omega) (fun j hj => by omega)
theorem c_X4_add {rg ea n en : Nat} {ad pf Q B L O : Nat → Nat} {vs : List Value} (hr : isReg g h rg ea n ad pf Q B L O) (hn20 : n < 20) (he : h en = some (.inr (0, vs))) : MVo l g A h yX4_add cX4_add 2 1 0 0 [.ref rg, .ref en] (fun h1 => h1 rg = some (.inr (4, [.ref ea, .int (nI (n + 1))])) ∧ (∃ r, h1 ea = some (aE g 20 r) ∧ (∀ i, i < n → r i = some (ad i)) ∧ r n = some en) ∧ ∀ b, b ≠ rg → b ≠ ea → h1 b = h b) := by
  have hr0 := hr
  obtain ⟨rr, e1, e2, -, hes⟩ := hr
  have hre : rg ≠ ea := ne_of2 e1 e2 (fun z => by cases z)
  refine j_met (by decide +kernel) (Nat.le_of_ble_eq_true rfl) (fun X F hn hQ => ?_)
  first | refine j_aload_n (pc := 0) F dX4_add_0 rfl ?_ | refine j_aload_nq (pc := 0) F dX4_add_0 rfl ?_
  refine j_ri (j_runV (pc := 1) F (c_X4_isFull hr0) m_X4_isFull mv_X4_isFull lk_X4_25 (by first | assumption | exact hUp_s) rfl ⟨by decide, by decide⟩ (Nat.le_of_ble_eq_true rfl) ⟨by omega, by omega⟩ rfl dX4_add_1) (fun r h1 hp => ?_)
  obtain ⟨rfl, rfl⟩ := hp
  first | refine j_if_neB (pc := 4) F 27 dX4_add_4 (by decide) (fun c => ?_) (fun c => ?_) | refine j_if_neN (pc := 4) F 27 dX4_add_4 (by decide) (by omega) (fun c => ?_) (fun c => ?_) | refine j_if_neI (pc := 4) F 27 dX4_add_4 (by decide) (fun c => ?_) (fun c => ?_)
  · simp at c; omega
  · first | refine j_aload_n (pc := 7) F dX4_add_7 rfl ?_ | refine j_aload_nq (pc := 7) F dX4_add_7 rfl ?_
    refine j_get (pc := 8) F fg_X4_11 (by first | assumption | exact hUp_s) (by rfl) dX4_add_8 ?_
    first | refine j_aload_n (pc := 11) F dX4_add_11 rfl ?_ | refine j_aload_nq (pc := 11) F dX4_add_11 rfl ?_
    refine j_get (pc := 12) F fg_X4_17 (by first | assumption | exact hUp_s) (by rfl) dX4_add_12 ?_
    first | refine j_aload_n (pc := 15) F dX4_add_15 rfl ?_ | refine j_aload_nq (pc := 15) F dX4_add_15 rfl ?_
    refine j_astEsN (pc := 16) F e2 he (by omega) (by decide) dX4_add_16 ?_
    have e3 : hUp h1 ea (aE g 20 (va_up rr n (some en))) rg = some (.inr (4, [.ref ea, .int (nI n)])) := (hUp_n hre).trans e1
    first | refine j_aload_n (pc := 17) F dX4_add_17 rfl ?_ | refine j_aload_nq (pc := 17) F dX4_add_17 rfl ?_
    refine j_dup (pc := 18) F dX4_add_18 rfl ?_
    refine j_get (pc := 19) F fg_X4_17 (by first | assumption | exact hUp_s) (by rfl) dX4_add_19 ?_
    refine j_iconst (pc := 22) (v := (nI 1)) F dX4_add_22 (by decide) ?_
    first | refine j_iaddN (pc := 23) F dX4_add_23 ?_ | refine j_iadd (pc := 23) F dX4_add_23 ?_
    refine j_put (pc := 24) F fp_X4_17 (by first | assumption | exact hUp_s) (by rfl) (by rfl) (Nat.le_of_ble_eq_true rfl) dX4_add_24 ?_
    refine j_vret F hQ rfl (by omega) (by omega) dX4_add_27 ⟨?_, ⟨va_up rr n (some en), ?_, fun i hi => ?_, ?_⟩, fun b q1 q2 => ?_⟩
    · rw [hUp_s]; rfl
    · rw [hUp_n (Ne.symm hre), hUp_s]
    · rw [va_up_ne _ _ (by omega)]; exact (hes i hi).1
    · rw [va_up_self]
    · rw [hUp_n q1, hUp_n q2]
theorem c_X4_takeOut {rg ea n i : Nat} {ad pf Q B L O : Nat → Nat} (hr : isReg g h rg ea n ad pf Q B L O) (hi : i < n) : MVo l g A h yX4_takeOut cX4_takeOut 2 0 0 0 [.ref rg, .int (nI i)] (fun h1 => h1 rg = some (.inr (4, [.ref ea, .int (nI (n - 1))])) ∧ (∃ r, h1 ea = some (aE g 20 r) ∧ ∀ j, j < n - 1 → r j = some (if j = i then ad (n - 1) else ad j)) ∧ ∀ b, b ≠ rg → b ≠ ea → h1 b = h b) := by
  obtain ⟨rr, e1, e2, hn20, hes⟩ := hr
  have hre : rg ≠ ea := ne_of2 e1 e2 (fun z => by cases z)
  obtain ⟨v1, ⟨v2, -⟩, -⟩ := hes (n - 1) (by omega)
  have hrv : ad (n - 1) ≠ rg := ne_of2 v2 e1 (fun z => by cases z)
  have hev : ad (n - 1) ≠ ea := ne_of2 v2 e2 (fun z => by cases z)
  refine j_met (by decide +kernel) (Nat.le_of_ble_eq_true rfl) (fun X F hn hQ => ?_)
  refine j_iload_n (pc := 0) F dX4_takeOut_0 rfl ?_
  first | refine j_if_ltN (pc := 1) F 47 dX4_takeOut_1 (by decide) (by omega) (fun c => ?_) (fun c => ?_) | refine j_if_ltI (pc := 1) F 47 dX4_takeOut_1 (by decide) (fun c => ?_) (fun c => ?_)
  · omega
  · refine j_iload_n (pc := 4) F dX4_takeOut_4 rfl ?_
    first | refine j_aload_n (pc := 5) F dX4_takeOut_5 rfl ?_ | refine j_aload_nq (pc := 5) F dX4_takeOut_5 rfl ?_
    refine j_get (pc := 6) F fg_X4_17 (by first | assumption | exact hUp_s) (by rfl) dX4_takeOut_6 ?_
    first | refine j_icmp_geN (pc := 9) F 47 dX4_takeOut_9 (by decide) (by omega) (by omega) (fun c2 => ?_) (fun c2 => ?_) | refine j_icmp_geIN (pc := 9) F 47 dX4_takeOut_9 (by decide) (by omega) (fun c2 => ?_) (fun c2 => ?_) | refine j_icmp_geNI (pc := 9) F 47 dX4_takeOut_9 (by decide) (by omega) (fun c2 => ?_) (fun c2 => ?_) | refine j_icmp_geI (pc := 9) F 47 dX4_takeOut_9 (by decide) (fun c2 => ?_) (fun c2 => ?_)
    · omega
    · first | refine j_aload_n (pc := 12) F dX4_takeOut_12 rfl ?_ | refine j_aload_nq (pc := 12) F dX4_takeOut_12 rfl ?_
      refine j_dup (pc := 13) F dX4_takeOut_13 rfl ?_
      refine j_get (pc := 14) F fg_X4_17 (by first | assumption | exact hUp_s) (by rfl) dX4_takeOut_14 ?_
      refine j_iconst (pc := 17) (v := (nI 1)) F dX4_takeOut_17 (by decide) ?_
      first | refine j_isubN (pc := 18) F dX4_takeOut_18 (by omega) ?_ | refine j_isub (pc := 18) F dX4_takeOut_18 ?_
      refine j_put (pc := 19) F fp_X4_17 (by first | assumption | exact hUp_s) (by rfl) (by rfl) (Nat.le_of_ble_eq_true rfl) dX4_takeOut_19 ?_
      have e3 : hUp h rg (.inr (4, [Value.ref ea, Value.int (nI n)].set 1 (.int (nI (n - 1))))) rg = some (.inr (4, [.ref ea, .int (nI (n - 1))])) := hUp_s
      have e4 : hUp h rg (.inr (4, [Value.ref ea, Value.int (nI n)].set 1 (.int (nI (n - 1))))) ea = some (aE g 20 rr) := (hUp_n (Ne.symm hre)).trans e2
      have e5 : hUp h rg (.inr (4, [Value.ref ea, Value.int (nI n)].set 1 (.int (nI (n - 1))))) (ad (n - 1)) = some (.inr (0, [.ref (pf (n - 1)), .int (nI (L (n - 1))), .int (nI (O (n - 1)))])) := (hUp_n hrv).trans v2
      have e6 : ∀ b, b ≠ rg → hUp h rg (.inr (4, [Value.ref ea, Value.int (nI n)].set 1 (.int (nI (n - 1))))) b = h b := fun b q => hUp_n q
      generalize hUp h rg (.inr (4, [Value.ref ea, Value.int (nI n)].set 1 (.int (nI (n - 1))))) = h2 at e3 e4 e5 e6 ⊢
      first | refine j_aload_n (pc := 22) F dX4_takeOut_22 rfl ?_ | refine j_aload_nq (pc := 22) F dX4_takeOut_22 rfl ?_
      refine j_get (pc := 23) F fg_X4_11 (by first | assumption | exact hUp_s) (by rfl) dX4_takeOut_23 ?_
      refine j_iload_n (pc := 26) F dX4_takeOut_26 rfl ?_
      first | refine j_aload_n (pc := 27) F dX4_takeOut_27 rfl ?_ | refine j_aload_nq (pc := 27) F dX4_takeOut_27 rfl ?_
      refine j_get (pc := 28) F fg_X4_11 (by first | assumption | exact hUp_s) (by rfl) dX4_takeOut_28 ?_
      first | refine j_aload_n (pc := 31) F dX4_takeOut_31 rfl ?_ | refine j_aload_nq (pc := 31) F dX4_takeOut_31 rfl ?_
      refine j_get (pc := 32) F fg_X4_17 (by first | assumption | exact hUp_s) (by rfl) dX4_takeOut_32 ?_
      first | refine j_aldRN (pc := 35) F (by first | assumption | exact hUp_s) (by omega) (by decide) dX4_takeOut_35 ?_ | refine j_aldEN (pc := 35) F (by first | assumption | exact hUp_s) (by omega) (by decide) dX4_takeOut_35 ?_ | refine j_aldIIN (pc := 35) F (by first | assumption | exact hUp_s) (by omega) (by decide) dX4_takeOut_35 ?_
      refine j_refS v1 ?_
      refine j_astEsN (pc := 36) F e4 e5 (by omega) (by decide) dX4_takeOut_36 ?_
      have e7 : hUp h2 ea (aE g 20 (va_up rr i (some (ad (n - 1))))) rg = some (.inr (4, [.ref ea, .int (nI (n - 1))])) := (hUp_n hre).trans e3
      first | refine j_aload_n (pc := 37) F dX4_takeOut_37 rfl ?_ | refine j_aload_nq (pc := 37) F dX4_takeOut_37 rfl ?_
      refine j_get (pc := 38) F fg_X4_11 (by first | assumption | exact hUp_s) (by rfl) dX4_takeOut_38 ?_
      first | refine j_aload_n (pc := 41) F dX4_takeOut_41 rfl ?_ | refine j_aload_nq (pc := 41) F dX4_takeOut_41 rfl ?_
      refine j_get (pc := 42) F fg_X4_17 (by first | assumption | exact hUp_s) (by rfl) dX4_takeOut_42 ?_
      refine j_null (pc := 45) F dX4_takeOut_45 ?_
      refine j_astEnN (pc := 46) F hUp_s (by omega) (by decide) dX4_takeOut_46 ?_
      refine j_vret F hQ rfl (by omega) (by omega) dX4_takeOut_47 ⟨?_, ⟨_, hUp_s, fun j hj => ?_⟩, fun b q1 q2 => ?_⟩
      · rw [hUp_n hre, e7]
      · rw [va_up_ne _ _ (by omega)]
        by_cases hji : j = i
        · subst hji; rw [va_up_self, if_pos rfl]
        · rw [va_up_ne _ _ hji, if_neg hji]; exact (hes j (by omega)).1
      · rw [hUp_n q2, hUp_n q2, e6 b q1]
/-- what a registry of n entries says of a route: 1, 2 or 0 -/
def jud (n : Nat) (Q B L O : Nat → Nat) (q2 b2 og2 : Nat) : Nat := if ∃ i, i < n ∧ ePerm (Q i) (B i) (L i) (O i) q2 b2 og2 = true then 1 else if ∃ i, i < n ∧ cov (Q i) (B i) q2 b2 = true then 2 else 0
theorem c_X4_judge {rg ea n r pf2 pa aa pe q2 b2 z s e : Nat} {N : Nat → Nat} {ad pf Q B L O : Nat → Nat} (hr : isReg g h rg ea n ad pf Q B L O) (ht : isRoute g h r pf2 pa aa pe q2 b2 z N s e) (hro : rOk pe q2 b2 z s e) (hz : 0 < z) (hN : ∀ j, j < z → N j ≤ 30) : MI l g A h yX4_judge cX4_judge 4 (some .int) 3 0 0 [.ref rg, .ref r] (fun x h1 => x = nI (jud n Q B L O q2 b2 (N (z - 1))) ∧ h1 = h) := by
  obtain ⟨rr, e1, e2, hn20, hes⟩ := hr
  refine j_met (by decide +kernel) (Nat.le_of_ble_eq_true rfl) (fun X F hn hQ => ?_)
  refine j_iconst (pc := 0) (v := (nI 0)) F dX4_judge_0 (by decide) ?_
  refine j_istore_n (pc := 1) F dX4_judge_1 (by decide) ?_
  refine j_iconst (pc := 2) (v := (nI 0)) F dX4_judge_2 (by decide) ?_
  refine j_istore_n (pc := 3) F dX4_judge_3 (by decide) ?_
  have loop : ∀ m i (d : Bool), n < i + m → i ≤ n → (∀ j, j < i → ePerm (Q j) (B j) (L j) (O j) q2 b2 (N (z - 1)) = false) → (d = true ↔ ∃ j, j < i ∧ cov (Q j) (B j) q2 b2 = true) → J l X g A 4 0 0 h 4 [(0, .ref rg), (1, .ref r), (2, .int (bI d)), (3, .int (nI i))] [] := by
    intro m
    induction m with
    | zero => intro i d q1 q2; omega
    | succ m ih =>
      intro i d w1 w2 w3 w4
      refine j_iload_n (pc := 4) F dX4_judge_4 rfl ?_
      first | refine j_aload_n (pc := 5) F dX4_judge_5 rfl ?_ | refine j_aload_nq (pc := 5) F dX4_judge_5 rfl ?_
      refine j_get (pc := 6) F fg_X4_17 (by first | assumption | exact hUp_s) (by rfl) dX4_judge_6 ?_
      first | refine j_icmp_geN (pc := 9) F 48 dX4_judge_9 (by decide) (by omega) (by omega) (fun c => ?_) (fun c => ?_) | refine j_icmp_geIN (pc := 9) F 48 dX4_judge_9 (by decide) (by omega) (fun c => ?_) (fun c => ?_) | refine j_icmp_geNI (pc := 9) F 48 dX4_judge_9 (by decide) (by omega) (fun c => ?_) (fun c => ?_) | refine j_icmp_geI (pc := 9) F 48 dX4_judge_9 (by decide) (fun c => ?_) (fun c => ?_)
      · have hin : i = n := by omega
        subst hin
        have hno : ¬ ∃ j, j < i ∧ ePerm (Q j) (B j) (L j) (O j) q2 b2 (N (z - 1)) = true := fun ⟨j, y1, y2⟩ => by rw [w3 j y1] at y2; cases y2
        refine j_iload_n (pc := 48) F dX4_judge_48 rfl ?_
        first | refine j_if_eqB (pc := 49) F 56 dX4_judge_49 (by decide) (fun c2 => ?_) (fun c2 => ?_) | refine j_if_eqN (pc := 49) F 56 dX4_judge_49 (by decide) (by omega) (fun c2 => ?_) (fun c2 => ?_) | refine j_if_eqI (pc := 49) F 56 dX4_judge_49 (by decide) (fun c2 => ?_) (fun c2 => ?_)
        · refine j_iconst (pc := 56) (v := (nI 0)) F dX4_judge_56 (by decide) ?_
          refine j_iret F hQ rfl rfl (by omega) (by omega) dX4_judge_57 ⟨?_, rfl⟩
          rw [jud, if_neg hno, if_neg (fun y => by have := w4.mpr y; rw [c2] at this; cases this)]
        · refine j_iconst (pc := 52) (v := (nI 2)) F dX4_judge_52 (by decide) ?_
          refine j_goto (pc := 53) F 57 dX4_judge_53 (by decide) ?_
          refine j_iret F hQ rfl rfl (by omega) (by omega) dX4_judge_57 ⟨?_, rfl⟩
          rw [jud, if_neg hno, if_pos (w4.mp c2)]
      · obtain ⟨y1, y2, y3⟩ := hes i (by omega)
        have y4 := y2.1
        first | refine j_aload_n (pc := 12) F dX4_judge_12 rfl ?_ | refine j_aload_nq (pc := 12) F dX4_judge_12 rfl ?_
        refine j_get (pc := 13) F fg_X4_11 (by first | assumption | exact hUp_s) (by rfl) dX4_judge_13 ?_
        refine j_iload_n (pc := 16) F dX4_judge_16 rfl ?_
        first | refine j_aldRN (pc := 17) F (by first | assumption | exact hUp_s) (by omega) (by decide) dX4_judge_17 ?_ | refine j_aldEN (pc := 17) F (by first | assumption | exact hUp_s) (by omega) (by decide) dX4_judge_17 ?_ | refine j_aldIIN (pc := 17) F (by first | assumption | exact hUp_s) (by omega) (by decide) dX4_judge_17 ?_
        refine j_refS y1 ?_
        first | refine j_aload_n (pc := 18) F dX4_judge_18 rfl ?_ | refine j_aload_nq (pc := 18) F dX4_judge_18 rfl ?_
        refine j_ri (j_runV (pc := 19) F (c_X0_permits y2 y3 ht hro hz hN) m_X0_permits mv_X0_permits lk_X4_29 (by first | assumption | exact hUp_s) rfl ⟨by decide, by decide⟩ (Nat.le_of_ble_eq_true rfl) ⟨by omega, by omega⟩ rfl dX4_judge_19) (fun r h1 hp => ?_)
        obtain ⟨rfl, rfl⟩ := hp
        first | refine j_if_eqB (pc := 22) F 27 dX4_judge_22 (by decide) (fun c2 => ?_) (fun c2 => ?_) | refine j_if_eqN (pc := 22) F 27 dX4_judge_22 (by decide) (by omega) (fun c2 => ?_) (fun c2 => ?_) | refine j_if_eqI (pc := 22) F 27 dX4_judge_22 (by decide) (fun c2 => ?_) (fun c2 => ?_)
        · first | refine j_aload_n (pc := 27) F dX4_judge_27 rfl ?_ | refine j_aload_nq (pc := 27) F dX4_judge_27 rfl ?_
          refine j_get (pc := 28) F fg_X4_11 (by first | assumption | exact hUp_s) (by rfl) dX4_judge_28 ?_
          refine j_iload_n (pc := 31) F dX4_judge_31 rfl ?_
          first | refine j_aldRN (pc := 32) F (by first | assumption | exact hUp_s) (by omega) (by decide) dX4_judge_32 ?_ | refine j_aldEN (pc := 32) F (by first | assumption | exact hUp_s) (by omega) (by decide) dX4_judge_32 ?_ | refine j_aldIIN (pc := 32) F (by first | assumption | exact hUp_s) (by omega) (by decide) dX4_judge_32 ?_
          refine j_refS y1 ?_
          first | refine j_aload_n (pc := 33) F dX4_judge_33 rfl ?_ | refine j_aload_nq (pc := 33) F dX4_judge_33 rfl ?_
          refine j_ri (j_runV (pc := 34) F (c_X0_concerns y2 y3 ht hro) m_X0_concerns mv_X0_concerns lk_X4_33 (by first | assumption | exact hUp_s) rfl ⟨by decide, by decide⟩ (Nat.le_of_ble_eq_true rfl) ⟨by omega, by omega⟩ rfl dX4_judge_34) (fun r h6 hp => ?_)
          obtain ⟨rfl, rfl⟩ := hp
          have w3' : ∀ j, j < i + 1 → ePerm (Q j) (B j) (L j) (O j) q2 b2 (N (z - 1)) = false := fun j hj => by
            rcases Nat.lt_or_ge j i with z1 | z1
            · exact w3 j z1
            · rw [show j = i by omega]; exact c2
          first | refine j_if_eqB (pc := 37) F 42 dX4_judge_37 (by decide) (fun c3 => ?_) (fun c3 => ?_) | refine j_if_eqN (pc := 37) F 42 dX4_judge_37 (by decide) (by omega) (fun c3 => ?_) (fun c3 => ?_) | refine j_if_eqI (pc := 37) F 42 dX4_judge_37 (by decide) (fun c3 => ?_) (fun c3 => ?_)
          · first | refine j_iincN (pc := 42) F dX4_judge_42 rfl (by decide) ?_ | refine j_iincM (pc := 42) F dX4_judge_42 rfl (by decide) ?_ | refine j_iinc (pc := 42) F dX4_judge_42 rfl rfl (by decide) ?_
            refine j_goto (pc := 45) F 4 dX4_judge_45 (by decide) ?_
            refine j_lv [(0, .ref rg), (1, .ref r), (2, .int (bI d)), (3, .int (nI (i + 1)))] ⟨rfl, rfl, rfl, rfl, trivial⟩ ?_
            refine ih (i + 1) d (by omega) (by omega) w3' ?_
            rw [w4]
            constructor
            · rintro ⟨j, j1, j2⟩
              exact ⟨j, by omega, j2⟩
            · rintro ⟨j, j1, j2⟩
              refine ⟨j, ?_, j2⟩
              rcases Nat.lt_or_ge j i with z1 | z1
              · exact z1
              · rw [show j = i by omega, c3] at j2; cases j2
          · refine j_iconst (pc := 40) (v := (nI 1)) F dX4_judge_40 (by decide) ?_
            refine j_istore_n (pc := 41) F dX4_judge_41 (by decide) ?_
            first | refine j_iincN (pc := 42) F dX4_judge_42 rfl (by decide) ?_ | refine j_iincM (pc := 42) F dX4_judge_42 rfl (by decide) ?_ | refine j_iinc (pc := 42) F dX4_judge_42 rfl rfl (by decide) ?_
            refine j_goto (pc := 45) F 4 dX4_judge_45 (by decide) ?_
            refine j_lv [(0, .ref rg), (1, .ref r), (2, .int (bI true)), (3, .int (nI (i + 1)))] ⟨rfl, rfl, rfl, rfl, trivial⟩ ?_
            exact ih (i + 1) true (by omega) (by omega) w3' ⟨fun _ => ⟨i, by omega, c3⟩, fun _ => rfl⟩
        · refine j_iconst (pc := 25) (v := (nI 1)) F dX4_judge_25 (by decide) ?_
          refine j_iret F hQ rfl rfl (by omega) (by omega) dX4_judge_26 ⟨?_, rfl⟩
          rw [jud, if_pos ⟨i, by omega, c2⟩]
  refine j_lv [(0, .ref rg), (1, .ref r), (2, .int (bI false)), (3, .int (nI 0))] ⟨rfl, rfl, rfl, rfl, trivial⟩ ?_
  exact loop (n + 1) 0 false (by omega) (by omega) (fun j hj => by omega) ⟨(fun y => by cases y), (by rintro ⟨j, j1, -⟩; omega)⟩
end REG
end
section
/-! ===== Bgpreplay$Relations: a square of 31 rows of 31 ===== -/
section JM
variable {l : Launch} {X : Cx} {g : GG} {A : Nat → Prop} {own : String} {cc : ByteArray} {nL : Nat} {ret : Option FieldType} {f mc ms : Nat} {k n : Nat} {h : HF} {pc : Nat} {lv : List (Nat × Value)} {st : List Value}
theorem j_mna (F : Fx l X g A own cc nL ret f mc ms) {index : Nat} (hcw : Cond.classLink own index "[[I" ∈ wU) (hcells : k + 32 ≤ mc) (hslots : n + 992 ≤ ms) (hdg : decode cc pc = .ok (.multianewarray index 2, 4))
    (kk : ∀ (q : Nat) (h' : HF), (∀ i, i < 32 → h (q + i) = none) → h' q = some (aII g 31 (fun i => if i < 31 then some (q + 1 + i) else none)) → (∀ i, i < 31 → h' (q + 1 + i) = some (aI g 31 (fun _ => 0))) → (∀ b, (b < q ∨ q + 31 < b) → h' b = h b) → J l X g A nL (k + 32) (n + 992) h' (pc + 4) lv (.ref q :: st)) : J l X g A nL k n h pc lv (.int (nI 31) :: .int (nI 31) :: st) := fun H locs ls h1 h2 h3 => by
  intro T hT Xs
  obtain ⟨vm₁, cA, comp, -, fA, fC, hO, -, X', step⟩ := Xs.multianewarray2F F.1 (own := own) (index := index) (ty := .int) F.ow (F.w hcw) (va_AOA.use F.E.2.2.2.2.1) (F.w aw_int) (g := F0 (xM X) pc ls (.int (nI 31) :: .int (nI 31) :: st)) rfl (by rw [F.2.1]; exact hdg) rfl (by decide) (by decide) (by decide) (by decide) (by decide) rfl rfl (by rw [F.ce]; exact hcells) (by rw [F.sl]; exact hslots)
  have ec : comp = g.2.1 := Option.some.inj (fC.symm.trans (F.K.2 0 _ rfl).2)
  have eA : cA = g.2.2.2.2.1 := Option.some.inj (fA.symm.trans (F.K.2 3 _ rfl).2)
  subst ec
  subst eA
  have e31 : (nI 31).toNatClampNeg = 31 := by decide
  rw [e31] at X' step
  generalize hF : Jvm.Free.Multi.fill (T.setVm vm₁) g.2.2.2.2.1 g.2.1 31 31 (defaultValue .int) 31 = F' at X' step
  have hTh : (T.setVm vm₁).heap = H := hT
  obtain ⟨f1, f2, -, -⟩ := Jvm.Free.Multi.fill_facts (T.setVm vm₁) g.2.2.2.2.1 g.2.1 31 31 (defaultValue .int) 31
  rw [hF, hTh] at f1 f2
  have hold : ∀ x : Nat, x < H.size → F'.heap[x]? = H[x]? := fun x hx => by
    have := Jvm.Free.Multi.fill_old (T.setVm vm₁) g.2.2.2.2.1 g.2.1 31 31 (defaultValue .int) (a := x) (by rw [hTh]; exact hx) 31
    rw [hF, hTh] at this
    exact this
  have hrow : ∀ j : Nat, j < 31 → F'.heap[H.size + 1 + j]? = some (vp_cell g.2.1 (31, .inl (fun _ => 0))) := fun j hj => by
    have := Jvm.Free.Multi.fill_inner (T.setVm vm₁) g.2.2.2.2.1 g.2.1 31 31 (defaultValue .int) 31 j hj
    rw [hF, hTh] at this
    rw [this, vp_cell_i, ← arrV_new]
    rfl
  have hout : Jvm.Free.Multi.outerC g.2.2.2.2.1 31 H.size 31 = vp_cell g.2.2.2.2.1 (31, .inr (.inr (.inr (.inr (fun i => if i < 31 then some (H.size + 1 + i) else none))))) := by
    rw [vp_cell_q]
    exact vr_outer g.2.2.2.2.1 31 H.size 31
  rw [hout] at f2
  have hA : ∀ q, H.size ≤ q → A q := fun q hq => F.ar q (Nat.le_trans h2.1 hq)
  have hfr : ∀ i, h (H.size + i) = none := fun i => by
    cases e : h (H.size + i) with
    | none => rfl
    | some x => exact absurd (h1 _ x e).1.lt (by show ¬ H.size + i < H.size; omega)
  obtain ⟨t, a1, b1⟩ := kk H.size (fun b => if b = H.size then some (aII g 31 (fun i => if i < 31 then some (H.size + 1 + i) else none)) else if H.size < b ∧ b ≤ H.size + 31 then some (aI g 31 (fun _ => 0)) else h b) (fun i _ => hfr i) (if_pos rfl) (fun i hi => by rw [if_neg (by omega), if_pos (by omega)]) (fun b hb => by rw [if_neg (by omega), if_neg (by omega)]) F'.heap locs ls (fun a e ha => by
    dsimp only at ha
    by_cases ha1 : a = H.size
    · rw [if_pos ha1] at ha
      cases ha
      subst ha1
      exact ⟨f2, hA _ (Nat.le_refl _)⟩
    · rw [if_neg ha1] at ha
      by_cases ha2 : H.size < a ∧ a ≤ H.size + 31
      · rw [if_pos ha2] at ha
        cases ha
        have := hrow (a - H.size - 1) (by omega)
        rw [show H.size + 1 + (a - H.size - 1) = a by omega] at this
        exact ⟨this, hA _ (by omega)⟩
      · rw [if_neg ha2] at ha
        obtain ⟨z1, z2⟩ := h1 a e ha
        exact ⟨z1.kept (hold _ z1.lt), z2⟩) ⟨by rw [f1]; have := h2.1; omega, fun x q1 q2 => (hold x (Nat.lt_of_lt_of_le q1 h2.1)).trans (h2.2.1 x q1 q2), h2.2.2⟩ h3 F' rfl X'
  refine ⟨t, step t ?_, b1⟩
  have e : T.heap.size = H.size := by rw [hT]
  rw [e]
  exact a1
end JM
def isRel (g : GG) (h : HF) (rl ra : Nat) (ad : Nat → Nat) (M : Nat → Nat → Nat) : Prop := h rl = some (.inr (5, [.ref ra])) ∧ (∃ r : Nat → Option Nat, h ra = some (aII g 31 r) ∧ ∀ i, i < 31 → r i = some (ad i)) ∧ (∀ i, i < 31 → ∃ f : Nat → Int32, h (ad i) = some (aI g 31 f) ∧ ∀ j, j < 31 → f j = nI (M i j)) ∧ ∀ i j, i < 31 → j < 31 → ad i = ad j → i = j
def rUp (M : Nat → Nat → Nat) (i j v : Nat) : Nat → Nat → Nat := fun a b => if a = i ∧ b = j then v else M a b
/-- what a path is like, from place i down: 0 without a valley, 1 with one, 2 uncertain -/
def shp (M : Nat → Nat → Nat) (N : Nat → Nat) : Nat → Bool → Bool → Nat
  | 0, _, u => if u = true then 2 else 0
  | i + 1, d, u => if N i = N (i + 1) then shp M N i d u else if M (N i) (N (i + 1)) = 0 then shp M N i d true else if d = true ∧ ¬ M (N i) (N (i + 1)) = 3 then 1 else shp M N i (d || decide (¬ M (N i) (N (i + 1)) = 1)) u
section REL
variable {l : Launch} {g : GG} {A : Nat → Prop} {h : HF}
theorem c_X5_init {p : Nat} (hp : h p = some (.inr (5, [.null]))) : MVo l g A h yX5_init cX5_init 1 1 32 992 [.ref p] (fun h1 => ∃ ra, (∀ i, i < 32 → h (ra + i) = none) ∧ isRel g h1 p ra (fun i => ra + 1 + i) (fun _ _ => 0) ∧ ∀ b, b ≠ p → (b < ra ∨ ra + 31 < b) → h1 b = h b) := by
  refine j_met (by decide +kernel) (Nat.le_of_ble_eq_true rfl) (fun X F hn hQ => ?_)
  first | refine j_aload_n (pc := 0) F dX5_init_0 rfl ?_ | refine j_aload_nq (pc := 0) F dX5_init_0 rfl ?_
  refine j_objInit (pc := 1) F (by omega) lk_X5_3 (Nat.le_of_ble_eq_true rfl) dX5_init_1 ?_
  first | refine j_aload_n (pc := 4) F dX5_init_4 rfl ?_ | refine j_aload_nq (pc := 4) F dX5_init_4 rfl ?_
  refine j_bipush (pc := 5) (v := (nI 31)) F dX5_init_5 (by decide) ?_
  refine j_bipush (pc := 7) (v := (nI 31)) F dX5_init_7 (by decide) ?_
  refine j_mna (pc := 9) F lc_X5_9 (by omega) (by omega) dX5_init_9 (fun q h1 w1 w2 w3 w4 => ?_)
  have hpq : p < q ∨ q + 31 < p := by
    rcases Nat.lt_or_ge p q with z | z
    · exact Or.inl z
    · rcases Nat.lt_or_ge (q + 31) p with z2 | z2
      · exact Or.inr z2
      · have := w1 (p - q) (by omega)
        rw [show q + (p - q) = p by omega, hp] at this
        cases this
  have e3 : h1 p = some (.inr (5, [.null])) := (w4 p hpq).trans hp
  refine j_putF (pc := 13) F fp_X5_11 hn rfl (by first | assumption | exact hUp_s) (by rfl) (by rfl) (Nat.le_of_ble_eq_true rfl) dX5_init_13 ?_
  refine j_vret F hQ rfl (by omega) (by omega) dX5_init_16 ⟨q, w1, ⟨hUp_s, ⟨_, by rw [hUp_n (by omega)]; exact w2, fun i hi => if_pos hi⟩, fun i hi => ⟨_, by rw [hUp_n (show q + 1 + i ≠ p by omega)]; exact w3 i hi, fun j hj => rfl⟩, fun i j _ _ z => by have z2 : q + 1 + i = q + 1 + j := z; omega⟩, fun b q1 q2 => ?_⟩
  rw [hUp_n q1, w4 b q2]
theorem okNet_nI {i : Nat} (h1 : 1 ≤ i) (h2 : i ≤ 30) : okNet (nI i) = true := decide_eq_true (by rw [nI_toInt (by omega)]; omega)
theorem c_X5_between {rl ra i j : Nat} {ad : Nat → Nat} {M : Nat → Nat → Nat} (hr : isRel g h rl ra ad M) (hi : 1 ≤ i ∧ i ≤ 30) (hj : 1 ≤ j ∧ j ≤ 30) : MI l g A h yX5_between cX5_between 3 (some .int) 1 0 0 [.ref rl, .int (nI i), .int (nI j)] (fun r h1 => r = nI (M i j) ∧ h1 = h) := by
  obtain ⟨e1, ⟨rr, e2, e3⟩, e4, e5⟩ := hr
  obtain ⟨ff, e6, e7⟩ := e4 i (by omega)
  refine j_met (by decide +kernel) (Nat.le_of_ble_eq_true rfl) (fun X F hn hQ => ?_)
  refine j_iload_n (pc := 0) F dX5_between_0 rfl ?_
  refine j_ri (j_runSN (pc := 1) F (c_X8_isNetwork (nI i)) m_X8_isNetwork ms_X8_isNetwork ln_X5_16 ⟨by decide, by decide⟩ (Nat.le_of_ble_eq_true rfl) ⟨by omega, by omega⟩ rfl dX5_between_1) (fun r h1 hp => ?_)
  obtain ⟨rfl, rfl⟩ := hp
  refine j_int (congrArg bI (okNet_nI hi.1 hi.2)) ?_
  first | refine j_if_eqB (pc := 4) F 25 dX5_between_4 (by decide) (fun c => ?_) (fun c => ?_) | refine j_if_eqN (pc := 4) F 25 dX5_between_4 (by decide) (by omega) (fun c => ?_) (fun c => ?_) | refine j_if_eqI (pc := 4) F 25 dX5_between_4 (by decide) (fun c => ?_) (fun c => ?_)
  · cases c
  · refine j_iload_n (pc := 7) F dX5_between_7 rfl ?_
    refine j_ri (j_runSN (pc := 8) F (c_X8_isNetwork (nI j)) m_X8_isNetwork ms_X8_isNetwork ln_X5_16 ⟨by decide, by decide⟩ (Nat.le_of_ble_eq_true rfl) ⟨by omega, by omega⟩ rfl dX5_between_8) (fun r h6 hp => ?_)
    obtain ⟨rfl, rfl⟩ := hp
    refine j_int (congrArg bI (okNet_nI hj.1 hj.2)) ?_
    first | refine j_if_eqB (pc := 11) F 25 dX5_between_11 (by decide) (fun c => ?_) (fun c => ?_) | refine j_if_eqN (pc := 11) F 25 dX5_between_11 (by decide) (by omega) (fun c => ?_) (fun c => ?_) | refine j_if_eqI (pc := 11) F 25 dX5_between_11 (by decide) (fun c => ?_) (fun c => ?_)
    · cases c
    · first | refine j_aload_n (pc := 14) F dX5_between_14 rfl ?_ | refine j_aload_nq (pc := 14) F dX5_between_14 rfl ?_
      refine j_get (pc := 15) F fg_X5_11 (by first | assumption | exact hUp_s) (by rfl) dX5_between_15 ?_
      refine j_iload_n (pc := 18) F dX5_between_18 rfl ?_
      first | refine j_aldRN (pc := 19) F (by first | assumption | exact hUp_s) (by omega) (by decide) dX5_between_19 ?_ | refine j_aldEN (pc := 19) F (by first | assumption | exact hUp_s) (by omega) (by decide) dX5_between_19 ?_ | refine j_aldIIN (pc := 19) F (by first | assumption | exact hUp_s) (by omega) (by decide) dX5_between_19 ?_
      refine j_refS (e3 i (by omega)) ?_
      refine j_iload_n (pc := 20) F dX5_between_20 rfl ?_
      refine j_ialdN (pc := 21) F (by first | assumption | exact hUp_s) (by omega) (by decide) dX5_between_21 ?_
      refine j_goto (pc := 22) F 26 dX5_between_22 (by decide) ?_
      exact j_iret F hQ rfl rfl (by omega) (by omega) dX5_between_26 ⟨e7 j (by omega), rfl⟩
theorem c_X5_put {rl ra i j v : Nat} {ad : Nat → Nat} {M : Nat → Nat → Nat} (hr : isRel g h rl ra ad M) (hi : 1 ≤ i ∧ i ≤ 30) (hj : 1 ≤ j ∧ j ≤ 30) : MVo l g A h yX5_put cX5_put 4 1 0 0 [.ref rl, .int (nI i), .int (nI j), .int (nI v)] (fun h1 => isRel g h1 rl ra ad (rUp M i j v) ∧ ∀ b, b ≠ ad i → h1 b = h b) := by
  obtain ⟨e1, ⟨rr, e2, e3⟩, e4, e5⟩ := hr
  obtain ⟨ff, e6, e7⟩ := e4 i (by omega)
  have n1 : rl ≠ ad i := ne_of2 e1 e6 (fun z => by cases z)
  refine j_met (by decide +kernel) (Nat.le_of_ble_eq_true rfl) (fun X F hn hQ => ?_)
  refine j_iload_n (pc := 0) F dX5_put_0 rfl ?_
  refine j_ri (j_runSN (pc := 1) F (c_X8_isNetwork (nI i)) m_X8_isNetwork ms_X8_isNetwork ln_X5_16 ⟨by decide, by decide⟩ (Nat.le_of_ble_eq_true rfl) ⟨by omega, by omega⟩ rfl dX5_put_1) (fun r h1 hp => ?_)
  obtain ⟨rfl, rfl⟩ := hp
  refine j_int (congrArg bI (okNet_nI hi.1 hi.2)) ?_
  first | refine j_if_eqB (pc := 4) F 23 dX5_put_4 (by decide) (fun c => ?_) (fun c => ?_) | refine j_if_eqN (pc := 4) F 23 dX5_put_4 (by decide) (by omega) (fun c => ?_) (fun c => ?_) | refine j_if_eqI (pc := 4) F 23 dX5_put_4 (by decide) (fun c => ?_) (fun c => ?_)
  · cases c
  · refine j_iload_n (pc := 7) F dX5_put_7 rfl ?_
    refine j_ri (j_runSN (pc := 8) F (c_X8_isNetwork (nI j)) m_X8_isNetwork ms_X8_isNetwork ln_X5_16 ⟨by decide, by decide⟩ (Nat.le_of_ble_eq_true rfl) ⟨by omega, by omega⟩ rfl dX5_put_8) (fun r h6 hp => ?_)
    obtain ⟨rfl, rfl⟩ := hp
    refine j_int (congrArg bI (okNet_nI hj.1 hj.2)) ?_
    first | refine j_if_eqB (pc := 11) F 23 dX5_put_11 (by decide) (fun c => ?_) (fun c => ?_) | refine j_if_eqN (pc := 11) F 23 dX5_put_11 (by decide) (by omega) (fun c => ?_) (fun c => ?_) | refine j_if_eqI (pc := 11) F 23 dX5_put_11 (by decide) (fun c => ?_) (fun c => ?_)
    · cases c
    · first | refine j_aload_n (pc := 14) F dX5_put_14 rfl ?_ | refine j_aload_nq (pc := 14) F dX5_put_14 rfl ?_
      refine j_get (pc := 15) F fg_X5_11 (by first | assumption | exact hUp_s) (by rfl) dX5_put_15 ?_
      refine j_iload_n (pc := 18) F dX5_put_18 rfl ?_
      first | refine j_aldRN (pc := 19) F (by first | assumption | exact hUp_s) (by omega) (by decide) dX5_put_19 ?_ | refine j_aldEN (pc := 19) F (by first | assumption | exact hUp_s) (by omega) (by decide) dX5_put_19 ?_ | refine j_aldIIN (pc := 19) F (by first | assumption | exact hUp_s) (by omega) (by decide) dX5_put_19 ?_
      refine j_refS (e3 i (by omega)) ?_
      refine j_iload_n (pc := 20) F dX5_put_20 rfl ?_
      refine j_iload_n (pc := 21) F dX5_put_21 rfl ?_
      refine j_iastN (pc := 22) F (by first | assumption | exact hUp_s) (by omega) (by decide) dX5_put_22 ?_
      have n2 : ra ≠ ad i := fun z => by
        rw [z, e6] at e2
        have := congrArg (fun o : Option va_E => match o with | some (.inl (_, _, .inl _)) => true | _ => false) e2
        simp at this
      refine j_vret F hQ rfl (by omega) (by omega) dX5_put_23 ⟨⟨?_, ⟨rr, ?_, e3⟩, fun i2 hi2 => ?_, e5⟩, fun b q1 => hUp_n q1⟩
      · rw [hUp_n n1, e1]
      · rw [hUp_n n2, e2]
      · by_cases hii : i2 = i
        · subst hii
          refine ⟨_, hUp_s, fun j2 hj2 => ?_⟩
          by_cases hjj : j2 = j
          · subst hjj; rw [pk_us, rUp, if_pos ⟨rfl, rfl⟩]
          · rw [pk_un hjj, e7 j2 hj2, rUp, if_neg (fun z => hjj z.2)]
        · obtain ⟨f2, g1, g2⟩ := e4 i2 hi2
          refine ⟨f2, ?_, fun j2 hj2 => ?_⟩
          · rw [hUp_n (fun z => hii (e5 _ _ hi2 (by omega) z)), g1]
          · rw [g2 j2 hj2, rUp, if_neg (fun z => hii z.1)]
theorem c_X5_shapeOf {rl ra p a z : Nat} {ad N : Nat → Nat} {M : Nat → Nat → Nat} (hr : isRel g h rl ra ad M) (hp : isPath g h p a z N) (hz : 0 < z) (hN : ∀ j, j < z → 1 ≤ N j ∧ N j ≤ 30) (hM : ∀ i j, M i j ≤ 3) : MI l g A h yX5_shapeOf cX5_shapeOf 8 (some .int) 2 0 0 [.ref rl, .ref p] (fun r h1 => r = nI (shp M N (z - 1) false false) ∧ h1 = h) := by
  obtain ⟨rr, e1, e2, hz8, hN2⟩ := id hp
  obtain ⟨w1, w2⟩ := id hr
  refine j_met (by decide +kernel) (Nat.le_of_ble_eq_true rfl) (fun X F hn hQ => ?_)
  refine j_iconst (pc := 0) (v := (nI 0)) F dX5_shapeOf_0 (by decide) ?_
  refine j_istore_n (pc := 1) F dX5_shapeOf_1 (by decide) ?_
  refine j_iconst (pc := 2) (v := (nI 0)) F dX5_shapeOf_2 (by decide) ?_
  refine j_istore_n (pc := 3) F dX5_shapeOf_3 (by decide) ?_
  first | refine j_aload_n (pc := 4) F dX5_shapeOf_4 rfl ?_ | refine j_aload_nq (pc := 4) F dX5_shapeOf_4 rfl ?_
  refine j_ri (j_runV (pc := 5) F (c_X2_size hp) m_X2_size mv_X2_size lk_X5_20 (by first | assumption | exact hUp_s) rfl ⟨by decide, by decide⟩ (Nat.le_of_ble_eq_true rfl) ⟨by omega, by omega⟩ rfl dX5_shapeOf_5) (fun r h1 hp1 => ?_)
  obtain ⟨rfl, rfl⟩ := hp1
  refine j_iconst (pc := 8) (v := (nI 1)) F dX5_shapeOf_8 (by decide) ?_
  first | refine j_isubN (pc := 9) F dX5_shapeOf_9 (by omega) ?_ | refine j_isub (pc := 9) F dX5_shapeOf_9 ?_
  refine j_istore (pc := 10) F dX5_shapeOf_10 (by decide) ?_
  have loop : ∀ i (d u : Bool) (lv : List (Nat × Value)), i < z → lall lv [(0, .ref rl), (1, .ref p), (2, .int (bI d)), (3, .int (bI u)), (4, .int (nI i))] → shp M N i d u = shp M N (z - 1) false false → J l X g A 8 (0 + 0) (0 + 0) h1 12 lv [] := by
    intro i
    induction i with
    | zero =>
      intro d u lv q1 q2 q3
      refine j_lv _ q2 ?_
      refine j_iload (pc := 12) F dX5_shapeOf_12 rfl ?_
      first | refine j_if_leN (pc := 14) F 91 dX5_shapeOf_14 (by decide) (by omega) (fun c => ?_) (fun c => ?_) | refine j_if_leI (pc := 14) F 91 dX5_shapeOf_14 (by decide) (fun c => ?_) (fun c => ?_)
      · refine j_iload_n (pc := 91) F dX5_shapeOf_91 rfl ?_
        first | refine j_if_eqB (pc := 92) F 99 dX5_shapeOf_92 (by decide) (fun c2 => ?_) (fun c2 => ?_) | refine j_if_eqN (pc := 92) F 99 dX5_shapeOf_92 (by decide) (by omega) (fun c2 => ?_) (fun c2 => ?_) | refine j_if_eqI (pc := 92) F 99 dX5_shapeOf_92 (by decide) (fun c2 => ?_) (fun c2 => ?_)
        · refine j_iconst (pc := 99) (v := (nI 0)) F dX5_shapeOf_99 (by decide) ?_
          refine j_iret F hQ rfl rfl (by omega) (by omega) dX5_shapeOf_100 ⟨?_, rfl⟩
          rw [← q3, shp, c2]; rfl
        · refine j_iconst (pc := 95) (v := (nI 2)) F dX5_shapeOf_95 (by decide) ?_
          refine j_goto (pc := 96) F 100 dX5_shapeOf_96 (by decide) ?_
          refine j_iret F hQ rfl rfl (by omega) (by omega) dX5_shapeOf_100 ⟨?_, rfl⟩
          rw [← q3, shp, c2]; rfl
      · omega
    | succ i ih =>
      intro d u lv q1 q2 q3
      have hb1 := hN i (by omega)
      have hb2 := hN (i + 1) (by omega)
      refine j_lv _ q2 ?_
      refine j_iload (pc := 12) F dX5_shapeOf_12 rfl ?_
      first | refine j_if_leN (pc := 14) F 91 dX5_shapeOf_14 (by decide) (by omega) (fun c => ?_) (fun c => ?_) | refine j_if_leI (pc := 14) F 91 dX5_shapeOf_14 (by decide) (fun c => ?_) (fun c => ?_)
      · omega
      · first | refine j_aload_n (pc := 17) F dX5_shapeOf_17 rfl ?_ | refine j_aload_nq (pc := 17) F dX5_shapeOf_17 rfl ?_
        refine j_iload (pc := 18) F dX5_shapeOf_18 rfl ?_
        refine j_ri (j_runV (pc := 20) F (c_X2_networkAt hp) m_X2_networkAt mv_X2_networkAt lk_X5_26 (by first | assumption | exact hUp_s) rfl ⟨by decide, by decide⟩ (Nat.le_of_ble_eq_true rfl) ⟨by omega, by omega⟩ rfl dX5_shapeOf_20) (fun r h6 hp6 => ?_)
        obtain ⟨rfl, rfl⟩ := hp6
        rw [nI_toInt (show i + 1 < 2 ^ 31 by omega), pAt_in (show i + 1 < z by omega)]
        refine j_istore (pc := 23) F dX5_shapeOf_23 (by decide) ?_
        first | refine j_aload_n (pc := 25) F dX5_shapeOf_25 rfl ?_ | refine j_aload_nq (pc := 25) F dX5_shapeOf_25 rfl ?_
        refine j_iload (pc := 26) F dX5_shapeOf_26 rfl ?_
        refine j_iconst (pc := 28) (v := (nI 1)) F dX5_shapeOf_28 (by decide) ?_
        first | refine j_isubN (pc := 29) F dX5_shapeOf_29 (by omega) ?_ | refine j_isub (pc := 29) F dX5_shapeOf_29 ?_
        refine j_ri (j_runV (pc := 30) F (c_X2_networkAt hp) m_X2_networkAt mv_X2_networkAt lk_X5_26 (by first | assumption | exact hUp_s) rfl ⟨by decide, by decide⟩ (Nat.le_of_ble_eq_true rfl) ⟨by omega, by omega⟩ rfl dX5_shapeOf_30) (fun r h7 hp6 => ?_)
        obtain ⟨rfl, rfl⟩ := hp6
        rw [Nat.add_sub_cancel, nI_toInt (show i < 2 ^ 31 by omega), pAt_in (show i < z by omega)]
        refine j_istore (pc := 33) F dX5_shapeOf_33 (by decide) ?_
        refine j_iload (pc := 35) F dX5_shapeOf_35 rfl ?_
        refine j_iload (pc := 37) F dX5_shapeOf_37 rfl ?_
        first | refine j_icmp_neN (pc := 39) F 45 dX5_shapeOf_39 (by decide) (by omega) (by omega) (fun c2 => ?_) (fun c2 => ?_) | refine j_icmp_neIN (pc := 39) F 45 dX5_shapeOf_39 (by decide) (by omega) (fun c2 => ?_) (fun c2 => ?_) | refine j_icmp_neNI (pc := 39) F 45 dX5_shapeOf_39 (by decide) (by omega) (fun c2 => ?_) (fun c2 => ?_) | refine j_icmp_ne (pc := 39) F 45 dX5_shapeOf_39 (by decide) (fun c2 => ?_) (fun c2 => ?_)
        · first | refine j_aload_n (pc := 45) F dX5_shapeOf_45 rfl ?_ | refine j_aload_nq (pc := 45) F dX5_shapeOf_45 rfl ?_
          refine j_iload (pc := 46) F dX5_shapeOf_46 rfl ?_
          refine j_iload (pc := 48) F dX5_shapeOf_48 rfl ?_
          refine j_ri (j_runV (pc := 50) F (c_X5_between hr hb1 hb2) m_X5_between mv_X5_between lk_X5_30 (by first | assumption | exact hUp_s) rfl ⟨by decide, by decide⟩ (Nat.le_of_ble_eq_true rfl) ⟨by omega, by omega⟩ rfl dX5_shapeOf_50) (fun r h8 hp6 => ?_)
          obtain ⟨rfl, rfl⟩ := hp6
          have hM1 := hM (N i) (N (i + 1))
          refine j_istore (pc := 53) F dX5_shapeOf_53 (by decide) ?_
          refine j_iload (pc := 55) F dX5_shapeOf_55 rfl ?_
          first | refine j_if_neB (pc := 57) F 65 dX5_shapeOf_57 (by decide) (fun c3 => ?_) (fun c3 => ?_) | refine j_if_neN (pc := 57) F 65 dX5_shapeOf_57 (by decide) (by omega) (fun c3 => ?_) (fun c3 => ?_) | refine j_if_neI (pc := 57) F 65 dX5_shapeOf_57 (by decide) (fun c3 => ?_) (fun c3 => ?_)
          · refine j_iload_n (pc := 65) F dX5_shapeOf_65 rfl ?_
            first | refine j_if_eqB (pc := 66) F 77 dX5_shapeOf_66 (by decide) (fun c4 => ?_) (fun c4 => ?_) | refine j_if_eqN (pc := 66) F 77 dX5_shapeOf_66 (by decide) (by omega) (fun c4 => ?_) (fun c4 => ?_) | refine j_if_eqI (pc := 66) F 77 dX5_shapeOf_66 (by decide) (fun c4 => ?_) (fun c4 => ?_)
            · refine j_iload (pc := 77) F dX5_shapeOf_77 rfl ?_
              refine j_iconst (pc := 79) (v := (nI 1)) F dX5_shapeOf_79 (by decide) ?_
              first | refine j_icmp_eqN (pc := 80) F 85 dX5_shapeOf_80 (by decide) (by omega) (by omega) (fun c5 => ?_) (fun c5 => ?_) | refine j_icmp_eqIN (pc := 80) F 85 dX5_shapeOf_80 (by decide) (by omega) (fun c5 => ?_) (fun c5 => ?_) | refine j_icmp_eqNI (pc := 80) F 85 dX5_shapeOf_80 (by decide) (by omega) (fun c5 => ?_) (fun c5 => ?_) | refine j_icmp_eq (pc := 80) F 85 dX5_shapeOf_80 (by decide) (fun c5 => ?_) (fun c5 => ?_)
              · first | refine j_iincN (pc := 85) F dX5_shapeOf_85 rfl (by decide) ?_ | refine j_iincM (pc := 85) F dX5_shapeOf_85 rfl (by decide) ?_ | refine j_iinc (pc := 85) F dX5_shapeOf_85 rfl rfl (by decide) ?_
                refine j_goto (pc := 88) F 12 dX5_shapeOf_88 (by decide) ?_
                refine ih d u _ (by omega) ⟨rfl, rfl, rfl, rfl, rfl, trivial⟩ ?_
                rw [← q3, shp, if_neg c2, if_neg c3, if_neg (by rw [c4]; simp), c4, c5]
                rfl
              · refine j_iconst (pc := 83) (v := (nI 1)) F dX5_shapeOf_83 (by decide) ?_
                refine j_istore_n (pc := 84) F dX5_shapeOf_84 (by decide) ?_
                first | refine j_iincN (pc := 85) F dX5_shapeOf_85 rfl (by decide) ?_ | refine j_iincM (pc := 85) F dX5_shapeOf_85 rfl (by decide) ?_ | refine j_iinc (pc := 85) F dX5_shapeOf_85 rfl rfl (by decide) ?_
                refine j_goto (pc := 88) F 12 dX5_shapeOf_88 (by decide) ?_
                refine ih true u _ (by omega) ⟨rfl, rfl, rfl, rfl, rfl, trivial⟩ ?_
                rw [← q3, shp, if_neg c2, if_neg c3, if_neg (by rw [c4]; simp), decide_eq_true c5, Bool.or_true]
            · refine j_iload (pc := 69) F dX5_shapeOf_69 rfl ?_
              refine j_iconst (pc := 71) (v := (nI 3)) F dX5_shapeOf_71 (by decide) ?_
              first | refine j_icmp_eqN (pc := 72) F 77 dX5_shapeOf_72 (by decide) (by omega) (by omega) (fun c5 => ?_) (fun c5 => ?_) | refine j_icmp_eqIN (pc := 72) F 77 dX5_shapeOf_72 (by decide) (by omega) (fun c5 => ?_) (fun c5 => ?_) | refine j_icmp_eqNI (pc := 72) F 77 dX5_shapeOf_72 (by decide) (by omega) (fun c5 => ?_) (fun c5 => ?_) | refine j_icmp_eq (pc := 72) F 77 dX5_shapeOf_72 (by decide) (fun c5 => ?_) (fun c5 => ?_)
              · refine j_iload (pc := 77) F dX5_shapeOf_77 rfl ?_
                refine j_iconst (pc := 79) (v := (nI 1)) F dX5_shapeOf_79 (by decide) ?_
                first | refine j_icmp_eqN (pc := 80) F 85 dX5_shapeOf_80 (by decide) (by omega) (by omega) (fun c6 => ?_) (fun c6 => ?_) | refine j_icmp_eqIN (pc := 80) F 85 dX5_shapeOf_80 (by decide) (by omega) (fun c6 => ?_) (fun c6 => ?_) | refine j_icmp_eqNI (pc := 80) F 85 dX5_shapeOf_80 (by decide) (by omega) (fun c6 => ?_) (fun c6 => ?_) | refine j_icmp_eq (pc := 80) F 85 dX5_shapeOf_80 (by decide) (fun c6 => ?_) (fun c6 => ?_)
                · omega
                · refine j_iconst (pc := 83) (v := (nI 1)) F dX5_shapeOf_83 (by decide) ?_
                  refine j_istore_n (pc := 84) F dX5_shapeOf_84 (by decide) ?_
                  first | refine j_iincN (pc := 85) F dX5_shapeOf_85 rfl (by decide) ?_ | refine j_iincM (pc := 85) F dX5_shapeOf_85 rfl (by decide) ?_ | refine j_iinc (pc := 85) F dX5_shapeOf_85 rfl rfl (by decide) ?_
                  refine j_goto (pc := 88) F 12 dX5_shapeOf_88 (by decide) ?_
                  refine ih true u _ (by omega) ⟨rfl, rfl, rfl, rfl, rfl, trivial⟩ ?_
                  rw [← q3, shp, if_neg c2, if_neg c3, if_neg (fun z => z.2 c5), decide_eq_true c6, Bool.or_true]
              · refine j_iconst (pc := 75) (v := (nI 1)) F dX5_shapeOf_75 (by decide) ?_
                refine j_iret F hQ rfl rfl (by omega) (by omega) dX5_shapeOf_76 ⟨?_, rfl⟩
                rw [← q3, shp, if_neg c2, if_neg c3, if_pos ⟨c4, c5⟩]
          · refine j_iconst (pc := 60) (v := (nI 1)) F dX5_shapeOf_60 (by decide) ?_
            refine j_istore_n (pc := 61) F dX5_shapeOf_61 (by decide) ?_
            refine j_goto (pc := 62) F 85 dX5_shapeOf_62 (by decide) ?_
            first | refine j_iincN (pc := 85) F dX5_shapeOf_85 rfl (by decide) ?_ | refine j_iincM (pc := 85) F dX5_shapeOf_85 rfl (by decide) ?_ | refine j_iinc (pc := 85) F dX5_shapeOf_85 rfl rfl (by decide) ?_
            refine j_goto (pc := 88) F 12 dX5_shapeOf_88 (by decide) ?_
            refine ih d true _ (by omega) ⟨rfl, rfl, rfl, rfl, rfl, trivial⟩ ?_
            rw [← q3, shp, if_neg c2, if_pos c3]
        · refine j_goto (pc := 42) F 85 dX5_shapeOf_42 (by decide) ?_
          first | refine j_iincN (pc := 85) F dX5_shapeOf_85 rfl (by decide) ?_ | refine j_iincM (pc := 85) F dX5_shapeOf_85 rfl (by decide) ?_ | refine j_iinc (pc := 85) F dX5_shapeOf_85 rfl rfl (by decide) ?_
          refine j_goto (pc := 88) F 12 dX5_shapeOf_88 (by decide) ?_
          refine ih d u _ (by omega) ⟨rfl, rfl, rfl, rfl, rfl, trivial⟩ ?_
          rw [← q3, shp, if_pos c2]
  exact loop (z - 1) false false _ (by omega) ⟨rfl, rfl, rfl, rfl, rfl, trivial⟩ rfl
end REL
end
section
/-! ===== Bgpreplay$Tree ===== -/
def cnt (f : Nat → Bool) : Nat → Nat
  | 0 => 0
  | n + 1 => cnt f n + (if f n = true then 1 else 0)
theorem cnt_le (f : Nat → Bool) : ∀ n, cnt f n ≤ n
  | 0 => Nat.le_refl _
  | n + 1 => by have := cnt_le f n; unfold cnt; split <;> omega
theorem cnt_congr {f f2 : Nat → Bool} : ∀ {n : Nat}, (∀ i, i < n → f i = f2 i) → cnt f n = cnt f2 n
  | 0, _ => rfl
  | n + 1, h => by unfold cnt; rw [cnt_congr (fun i hi => h i (by omega)), h n (by omega)]
theorem cnt_set {f f2 : Nat → Bool} {k : Nat} : ∀ {n : Nat}, k < n → (∀ i, i < n → i ≠ k → f2 i = f i) → f k = false → f2 k = true → cnt f2 n = cnt f n + 1
  | 0, h, _, _, _ => by omega
  | n + 1, h, h1, h2, h3 => by
    unfold cnt
    by_cases hk : k = n
    · subst hk
      rw [cnt_congr (fun i hi => h1 i (by omega) (by omega)), h2, h3]
      rfl
    · rw [cnt_set (k := k) (by omega) (fun i hi => h1 i (by omega)) h2 h3, h1 n (by omega) (Ne.symm hk)]
      omega
theorem cnt_pos {f : Nat → Bool} : ∀ {n : Nat}, 0 < cnt f n ↔ ∃ i, i < n ∧ f i = true
  | 0 => ⟨fun h => absurd h (Nat.lt_irrefl 0), fun ⟨i, h, _⟩ => absurd h (Nat.not_lt_zero i)⟩
  | n + 1 => by
    have ih := cnt_pos (f := f) (n := n)
    unfold cnt
    constructor
    · intro h
      by_cases hf : f n = true
      · exact ⟨n, by omega, hf⟩
      · rw [if_neg hf] at h
        obtain ⟨i, h1, h2⟩ := ih.mp (by omega)
        exact ⟨i, by omega, h2⟩
    · rintro ⟨i, h1, h2⟩
      by_cases hi : i = n
      · subst hi; rw [if_pos h2]; omega
      · have := ih.mpr ⟨i, by omega, h2⟩
        omega
/-- the routes by the number of their update: where they, their prefixes, paths and rows lie -/
abbrev RF : Type := (Nat → Nat) × (Nat → Nat) × (Nat → Nat) × (Nat → Nat)
/-- the updates by their number: peer, prefix, size of the path, networks -/
abbrev UD : Type := (Nat → Nat) × (Nat → Nat) × (Nat → Nat) × (Nat → Nat → Nat)
def isRt (g : GG) (h : HF) (T : RF) (D : UD) (E : Nat → Nat) (u : Nat) : Prop := isRoute g h (T.1 u) (T.2.1 u) (T.2.2.1 u) (T.2.2.2 u) (D.1 u) (D.2.1 u) (Nat.log2 (D.2.1 u)) (D.2.2.1 u) (D.2.2.2 u) u (E u)
def dOk (D : UD) (u : Nat) : Prop := D.1 u < 6 ∧ (1 ≤ D.2.1 u ∧ D.2.1 u < 512) ∧ (0 < D.2.2.1 u ∧ D.2.2.1 u ≤ 8) ∧ ∀ j, j < D.2.2.1 u → 1 ≤ D.2.2.2 u j ∧ D.2.2.2 u j ≤ 30
theorem log2_le {q : Nat} (h : q < 512) : Nat.log2 q ≤ 8 := by
  by_cases h0 : q = 0
  · subst h0; decide
  · have : Nat.log2 q < 9 := (Nat.log2_lt h0).mpr (by omega)
    omega
theorem dOk.r {D : UD} {u : Nat} {e : Nat} (h : dOk D u) (hu : u < 300) (he : e ≤ 300) : rOk (D.1 u) (D.2.1 u) (Nat.log2 (D.2.1 u)) (D.2.2.1 u) u e := ⟨h.1, h.2.1.2, log2_le h.2.1.2, h.2.2.1.2, by omega, he⟩
def cntQ (C : Nat → Nat → Option Nat) (q : Nat) : Nat := cnt (fun p => (C p q).isSome) 6
def cntP (C : Nat → Nat → Option Nat) (p : Nat) : Nat := cnt (fun q => (C p q).isSome) 512
def isTree (g : GG) (h : HF) (tr ca cp cb : Nat) (rA : Nat → Nat) (C : Nat → Nat → Option Nat) : Prop := h tr = some (.inr (7, [.ref ca, .ref cp, .ref cb])) ∧ (∃ f : Nat → Option Nat, h ca = some (aR g 3072 f) ∧ ∀ p q, p < 6 → q < 512 → f (p * 512 + q) = (C p q).map rA) ∧ (∃ f : Nat → Int32, h cp = some (aI g 512 f) ∧ ∀ q, q < 512 → f q = nI (cntQ C q)) ∧ ∃ f : Nat → Int32, h cb = some (aI g 6 f) ∧ ∀ p, p < 6 → f p = nI (cntP C p)
/-- the routes of a table stand in the heap -/
def isLive (g : GG) (h : HF) (T : RF) (D : UD) (E : Nat → Nat) (C : Nat → Nat → Option Nat) : Prop := ∀ p q u, p < 6 → q < 512 → C p q = some u → isRt g h T D E u ∧ dOk D u ∧ D.1 u = p ∧ D.2.1 u = q ∧ u < 300 ∧ E u ≤ 300
theorem okPeer_nI {i : Nat} (h2 : i < 6) : okPeer (nI i) = true := decide_eq_true (by rw [nI_toInt (by omega)]; omega)
theorem okPn_nI {i : Nat} (h1 : 1 ≤ i) (h2 : i < 512) : okPn (nI i) = true := decide_eq_true (by rw [nI_toInt (by omega)]; omega)
/-- the best route of the first n peers -/
def bst (Z : Nat → Nat) (c : Nat → Option Nat) : Nat → Option Nat
  | 0 => none
  | n + 1 => match c n with
    | none => bst Z c n
    | some u => match bst Z c n with
      | none => some u
      | some v => if Z u < Z v then some u else some v
theorem bst_in {Z : Nat → Nat} {c : Nat → Option Nat} : ∀ {n u : Nat}, bst Z c n = some u → ∃ p, p < n ∧ c p = some u
  | 0, u, h => by cases h
  | n + 1, u, h => by
    unfold bst at h
    cases hc : c n with
    | none =>
      rw [hc] at h
      obtain ⟨p, h1, h2⟩ := bst_in h
      exact ⟨p, by omega, h2⟩
    | some w =>
      rw [hc] at h
      cases hb : bst Z c n with
      | none => rw [hb] at h; exact ⟨n, by omega, by rw [hc]; exact h⟩
      | some v =>
        rw [hb] at h
        obtain ⟨p, h1, h2⟩ := bst_in hb
        dsimp only at h
        by_cases hz : Z w < Z v
        · rw [if_pos hz] at h; exact ⟨n, by omega, by rw [hc]; exact h⟩
        · rw [if_neg hz] at h; exact ⟨p, by omega, by rw [h2]; exact h⟩
theorem bst_none {Z : Nat → Nat} {c : Nat → Option Nat} : ∀ {n : Nat}, bst Z c n = none ↔ ∀ p, p < n → c p = none
  | 0 => ⟨fun _ p hp => absurd hp (Nat.not_lt_zero p), fun _ => rfl⟩
  | n + 1 => by
    have ih := bst_none (Z := Z) (c := c) (n := n)
    unfold bst
    cases hc : c n with
    | none =>
      dsimp only
      rw [ih]
      constructor
      · intro h p hp
        by_cases hpn : p = n
        · rw [hpn]; exact hc
        · exact h p (by omega)
      · intro h p hp
        exact h p (by omega)
    | some w =>
      constructor
      · intro h
        cases hb : bst Z c n with
        | none => rw [hb] at h; cases h
        | some v => rw [hb] at h; dsimp only at h; split at h <;> cases h
      · intro h
        have := h n (by omega)
        rw [hc] at this
        cases this
theorem cntQ_bst {C : Nat → Nat → Option Nat} {q : Nat} (Z : Nat → Nat) : 0 < cntQ C q ↔ ¬ bst Z (fun p => C p q) 6 = none := by
  unfold cntQ
  rw [cnt_pos, bst_none]
  constructor
  · rintro ⟨i, h1, h2⟩ h
    rw [h i h1] at h2
    cases h2
  · intro h
    apply Classical.byContradiction
    intro h2
    refine h (fun p hp => ?_)
    cases hc : C p q with
    | none => rfl
    | some u => exact absurd ⟨p, hp, by rw [hc]; rfl⟩ h2
section TREE
variable {l : Launch} {g : GG} {A : Nat → Prop} {h : HF}
theorem c_X7_init {p : Nat} (hp : h p = some (.inr (7, [.null, .null, .null]))) : MVo l g A h yX7_init cX7_init 1 1 3 3590 [.ref p] (fun h1 => ∃ ca cp cb, h ca = none ∧ h cp = none ∧ h cb = none ∧ ca ≠ cp ∧ ca ≠ cb ∧ cp ≠ cb ∧ (∀ rA, isTree g h1 p ca cp cb rA (fun _ _ => none)) ∧ ∀ b, b ≠ p → b ≠ ca → b ≠ cp → b ≠ cb → h1 b = h b) := by
  refine j_met (by decide +kernel) (Nat.le_of_ble_eq_true rfl) (fun X F hn hQ => ?_)
  first | refine j_aload_n (pc := 0) F dX7_init_0 rfl ?_ | refine j_aload_nq (pc := 0) F dX7_init_0 rfl ?_
  refine j_objInit (pc := 1) F (by omega) lk_X7_3 (Nat.le_of_ble_eq_true rfl) dX7_init_1 ?_
  first | refine j_aload_n (pc := 4) F dX7_init_4 rfl ?_ | refine j_aload_nq (pc := 4) F dX7_init_4 rfl ?_
  refine j_sipush (pc := 5) (v := (nI 3072)) F dX7_init_5 (by decide) ?_
  refine j_newaR (pc := 8) F (N := 3072) lc_X7_9 (by decide) (by decide) (by decide) (by omega) (by omega) dX7_init_8 (fun ca hca _ => ?_)
  have n1 : p ≠ ca := Ne.symm (ne_of hca hp)
  have e1 : hUp h ca (aR g 3072 (fun _ => none)) p = some (.inr (7, [.null, .null, .null])) := (hUp_n n1).trans hp
  refine j_putF (pc := 11) F fp_X7_11 hn rfl (by first | assumption | exact hUp_s) (by rfl) (by rfl) (Nat.le_of_ble_eq_true rfl) dX7_init_11 ?_
  first | refine j_aload_n (pc := 14) F dX7_init_14 rfl ?_ | refine j_aload_nq (pc := 14) F dX7_init_14 rfl ?_
  refine j_sipush (pc := 15) (v := (nI 512)) F dX7_init_15 (by decide) ?_
  refine j_newaI (pc := 18) F (N := 512) (by decide) (by decide) (by decide) (by omega) (by omega) dX7_init_18 (fun cp hcp _ => ?_)
  have n2 : p ≠ cp := fun z => by rw [← z, hUp_s] at hcp; cases hcp
  have n3 : ca ≠ cp := fun z => by rw [← z, hUp_n (Ne.symm n1), hUp_s] at hcp; cases hcp
  have hcp0 : h cp = none := by rw [hUp_n (Ne.symm n2), hUp_n (Ne.symm n3)] at hcp; exact hcp
  have e2 : hUp (hUp (hUp h ca (aR g 3072 (fun _ => none))) p (.inr (7, [Value.null, Value.null, Value.null].set 0 (.ref ca)))) cp (aI g 512 (fun _ => 0)) p = some (.inr (7, [.ref ca, .null, .null])) := (hUp_n n2).trans hUp_s
  refine j_putF (pc := 20) F fp_X7_17 hn rfl (by first | assumption | exact hUp_s) (by rfl) (by rfl) (Nat.le_of_ble_eq_true rfl) dX7_init_20 ?_
  first | refine j_aload_n (pc := 23) F dX7_init_23 rfl ?_ | refine j_aload_nq (pc := 23) F dX7_init_23 rfl ?_
  refine j_bipush (pc := 24) (v := (nI 6)) F dX7_init_24 (by decide) ?_
  refine j_newaI (pc := 26) F (N := 6) (by decide) (by decide) (by decide) (by omega) (by omega) dX7_init_26 (fun cb hcb _ => ?_)
  have n4 : p ≠ cb := fun z => by rw [← z, hUp_s] at hcb; cases hcb
  have n6 : cp ≠ cb := fun z => by rw [← z, hUp_n (Ne.symm n2), hUp_s] at hcb; cases hcb
  have n5 : ca ≠ cb := fun z => by rw [← z, hUp_n (Ne.symm n1), hUp_n n3, hUp_n (Ne.symm n1), hUp_s] at hcb; cases hcb
  have hcb0 : h cb = none := by rw [hUp_n (Ne.symm n4), hUp_n (Ne.symm n6), hUp_n (Ne.symm n4), hUp_n (Ne.symm n5)] at hcb; exact hcb
  have e3 : hUp (hUp (hUp (hUp (hUp h ca (aR g 3072 (fun _ => none))) p (.inr (7, [Value.null, Value.null, Value.null].set 0 (.ref ca)))) cp (aI g 512 (fun _ => 0))) p (.inr (7, [Value.ref ca, Value.null, Value.null].set 1 (.ref cp)))) cb (aI g 6 (fun _ => 0)) p = some (.inr (7, [.ref ca, .ref cp, .null])) := (hUp_n n4).trans hUp_s
  refine j_putF (pc := 28) F fp_X7_21 hn rfl (by first | assumption | exact hUp_s) (by rfl) (by rfl) (Nat.le_of_ble_eq_true rfl) dX7_init_28 ?_
  refine j_vret F hQ rfl (by omega) (by omega) dX7_init_31 ⟨ca, cp, cb, hca, hcp0, hcb0, n3, n5, n6, fun rA => ⟨hUp_s, ⟨fun _ => none, ?_, fun _ _ _ _ => rfl⟩, ⟨fun _ => 0, ?_, fun q hq => ?_⟩, ⟨fun _ => 0, ?_, fun p hp => ?_⟩⟩, fun b q1 q2 q3 q4 => ?_⟩
  · rw [hUp_n (Ne.symm n1), hUp_n n5, hUp_n (Ne.symm n1), hUp_n n3, hUp_n (Ne.symm n1), hUp_s]
  · rw [hUp_n (Ne.symm n2), hUp_n n6, hUp_n (Ne.symm n2), hUp_s]
  · show (0 : Int32) = nI (cntQ (fun _ _ => none) q)
    rfl
  · rw [hUp_n (Ne.symm n4), hUp_s]
  · show (0 : Int32) = nI (cnt (fun _ => false) 512)
    have : ∀ n, cnt (fun _ => false) n = 0 := fun n => by induction n with
      | zero => rfl
      | succ n ih => unfold cnt; rw [ih]; rfl
    rw [this]; rfl
  · rw [hUp_n q1, hUp_n q4, hUp_n q1, hUp_n q3, hUp_n q1, hUp_n q2]
theorem c_X7_cellOf {p q : Nat} (hp : p < 6) (hq : 1 ≤ q ∧ q < 512) : MI l g A h yX7_cellOf cX7_cellOf 2 (some .int) 1 0 0 [.int (nI p), .int (nI q)] (fun r h1 => r = nI (p * 512 + q) ∧ h1 = h) := by
  refine j_met (by decide +kernel) (Nat.le_of_ble_eq_true rfl) (fun X F hn hQ => ?_)
  refine j_iload_n (pc := 0) F dX7_cellOf_0 rfl ?_
  refine j_ri (j_runSN (pc := 1) F (c_X8_isPeer (nI p)) m_X8_isPeer ms_X8_isPeer ln_X7_41 ⟨by decide, by decide⟩ (Nat.le_of_ble_eq_true rfl) ⟨by omega, by omega⟩ rfl dX7_cellOf_1) (fun r h1 hp1 => ?_)
  obtain ⟨rfl, rfl⟩ := hp1
  refine j_int (congrArg bI (okPeer_nI hp)) ?_
  first | refine j_if_eqB (pc := 4) F 24 dX7_cellOf_4 (by decide) (fun c => ?_) (fun c => ?_) | refine j_if_eqN (pc := 4) F 24 dX7_cellOf_4 (by decide) (by omega) (fun c => ?_) (fun c => ?_) | refine j_if_eqI (pc := 4) F 24 dX7_cellOf_4 (by decide) (fun c => ?_) (fun c => ?_)
  · cases c
  · refine j_iload_n (pc := 7) F dX7_cellOf_7 rfl ?_
    refine j_ri (j_runSN (pc := 8) F (c_X8_isPrefixNumber (nI q)) m_X8_isPrefixNumber ms_X8_isPrefixNumber ln_X7_78 ⟨by decide, by decide⟩ (Nat.le_of_ble_eq_true rfl) ⟨by omega, by omega⟩ rfl dX7_cellOf_8) (fun r h2 hp1 => ?_)
    obtain ⟨rfl, rfl⟩ := hp1
    refine j_int (congrArg bI (okPn_nI hq.1 hq.2)) ?_
    first | refine j_if_eqB (pc := 11) F 24 dX7_cellOf_11 (by decide) (fun c => ?_) (fun c => ?_) | refine j_if_eqN (pc := 11) F 24 dX7_cellOf_11 (by decide) (by omega) (fun c => ?_) (fun c => ?_) | refine j_if_eqI (pc := 11) F 24 dX7_cellOf_11 (by decide) (fun c => ?_) (fun c => ?_)
    · cases c
    · refine j_iload_n (pc := 14) F dX7_cellOf_14 rfl ?_
      refine j_sipush (pc := 15) (v := (nI 512)) F dX7_cellOf_15 (by decide) ?_
      first | refine j_imulN (pc := 18) F dX7_cellOf_18 ?_ | refine j_imul (pc := 18) F dX7_cellOf_18 ?_
      refine j_iload_n (pc := 19) F dX7_cellOf_19 rfl ?_
      first | refine j_iaddN (pc := 20) F dX7_cellOf_20 ?_ | refine j_iadd (pc := 20) F dX7_cellOf_20 ?_
      refine j_goto (pc := 21) F 25 dX7_cellOf_21 (by decide) ?_
      exact j_iret F hQ rfl rfl (by omega) (by omega) dX7_cellOf_25 ⟨rfl, rfl⟩
theorem c_X7_routeOf {tr ca cp cb p q : Nat} {rA : Nat → Nat} {C : Nat → Nat → Option Nat} (ht : isTree g h tr ca cp cb rA C) (hp : p < 6) (hq : 1 ≤ q ∧ q < 512) : MQo l g A h yX7_routeOf cX7_routeOf 4 (some (.object "Bgpreplay$Route")) 2 0 0 [.ref tr, .int (nI p), .int (nI q)] (fun r h1 => r = (C p q).map rA ∧ h1 = h) := by
  obtain ⟨e1, ⟨f1, e2, e3⟩, e4, e5⟩ := ht
  refine j_met (by decide +kernel) (Nat.le_of_ble_eq_true rfl) (fun X F hn hQ => ?_)
  refine j_iload_n (pc := 0) F dX7_routeOf_0 rfl ?_
  refine j_iload_n (pc := 1) F dX7_routeOf_1 rfl ?_
  refine j_ri (j_runS (pc := 2) F (c_X7_cellOf hp hq) m_X7_cellOf ms_X7_cellOf lk_X7_24 ⟨by decide, by decide⟩ (Nat.le_of_ble_eq_true rfl) ⟨by omega, by omega⟩ rfl dX7_routeOf_2) (fun r h1 hp1 => ?_)
  obtain ⟨rfl, rfl⟩ := hp1
  refine j_istore_n (pc := 5) F dX7_routeOf_5 (by decide) ?_
  refine j_iload_n (pc := 6) F dX7_routeOf_6 rfl ?_
  refine j_iconst (pc := 7) (v := (-1)) F dX7_routeOf_7 (by decide) ?_
  refine j_icmp_neNI (pc := 8) F 15 dX7_routeOf_8 (by decide) (by omega) (fun c => ?_) (fun c => ?_)
  · first | refine j_aload_n (pc := 15) F dX7_routeOf_15 rfl ?_ | refine j_aload_nq (pc := 15) F dX7_routeOf_15 rfl ?_
    refine j_get (pc := 16) F fg_X7_11 (by first | assumption | exact hUp_s) (by rfl) dX7_routeOf_16 ?_
    refine j_iload_n (pc := 19) F dX7_routeOf_19 rfl ?_
    first | refine j_aldRN (pc := 20) F (by first | assumption | exact hUp_s) (by omega) (by decide) dX7_routeOf_20 ?_ | refine j_aldEN (pc := 20) F (by first | assumption | exact hUp_s) (by omega) (by decide) dX7_routeOf_20 ?_ | refine j_aldIIN (pc := 20) F (by first | assumption | exact hUp_s) (by omega) (by decide) dX7_routeOf_20 ?_
    rw [e3 p q hp hq.2]
    exact j_aret F hQ rfl (by omega) (by omega) dX7_routeOf_21 ⟨rfl, rfl⟩
  · rw [q_m1] at c; omega
theorem c_X7_isThere {tr ca cp cb q : Nat} {rA : Nat → Nat} {C : Nat → Nat → Option Nat} (ht : isTree g h tr ca cp cb rA C) (hq : 1 ≤ q ∧ q < 512) : MI l g A h yX7_isThere cX7_isThere 2 (some .boolean) 1 0 0 [.ref tr, .int (nI q)] (fun r h1 => r = bI (decide (0 < cntQ C q)) ∧ h1 = h) := by
  obtain ⟨e1, e2, ⟨f1, e3, e4⟩, e5⟩ := ht
  have hb : cntQ C q ≤ 6 := cnt_le _ _
  refine j_met (by decide +kernel) (Nat.le_of_ble_eq_true rfl) (fun X F hn hQ => ?_)
  refine j_iload_n (pc := 0) F dX7_isThere_0 rfl ?_
  refine j_ri (j_runSN (pc := 1) F (c_X8_isPrefixNumber (nI q)) m_X8_isPrefixNumber ms_X8_isPrefixNumber ln_X7_78 ⟨by decide, by decide⟩ (Nat.le_of_ble_eq_true rfl) ⟨by omega, by omega⟩ rfl dX7_isThere_1) (fun r h1 hp1 => ?_)
  obtain ⟨rfl, rfl⟩ := hp1
  refine j_int (congrArg bI (okPn_nI hq.1 hq.2)) ?_
  first | refine j_if_eqB (pc := 4) F 20 dX7_isThere_4 (by decide) (fun c => ?_) (fun c => ?_) | refine j_if_eqN (pc := 4) F 20 dX7_isThere_4 (by decide) (by omega) (fun c => ?_) (fun c => ?_) | refine j_if_eqI (pc := 4) F 20 dX7_isThere_4 (by decide) (fun c => ?_) (fun c => ?_)
  · cases c
  · first | refine j_aload_n (pc := 7) F dX7_isThere_7 rfl ?_ | refine j_aload_nq (pc := 7) F dX7_isThere_7 rfl ?_
    refine j_get (pc := 8) F fg_X7_17 (by first | assumption | exact hUp_s) (by rfl) dX7_isThere_8 ?_
    refine j_iload_n (pc := 11) F dX7_isThere_11 rfl ?_
    refine j_ialdN (pc := 12) F (by first | assumption | exact hUp_s) (by omega) (by decide) dX7_isThere_12 ?_
    rw [e4 q hq.2]
    first | refine j_if_leN (pc := 13) F 20 dX7_isThere_13 (by decide) (by omega) (fun c2 => ?_) (fun c2 => ?_) | refine j_if_leI (pc := 13) F 20 dX7_isThere_13 (by decide) (fun c2 => ?_) (fun c2 => ?_)
    · refine j_iconst (pc := 20) (v := (nI 0)) F dX7_isThere_20 (by decide) ?_
      exact j_iret F hQ rfl rfl (by omega) (by omega) dX7_isThere_21 ⟨by rw [decide_eq_false (by omega)]; rfl, rfl⟩
    · refine j_iconst (pc := 16) (v := (nI 1)) F dX7_isThere_16 (by decide) ?_
      refine j_goto (pc := 17) F 21 dX7_isThere_17 (by decide) ?_
      exact j_iret F hQ rfl rfl (by omega) (by omega) dX7_isThere_21 ⟨by rw [decide_eq_true (by omega)]; rfl, rfl⟩
theorem c_X7_countOfPeer {tr ca cp cb p : Nat} {rA : Nat → Nat} {C : Nat → Nat → Option Nat} (ht : isTree g h tr ca cp cb rA C) (hp : p < 6) : MI l g A h yX7_countOfPeer cX7_countOfPeer 2 (some .int) 1 0 0 [.ref tr, .int (nI p)] (fun r h1 => r = nI (cntP C p) ∧ h1 = h) := by
  obtain ⟨e1, e2, e3, ⟨f1, e4, e5⟩⟩ := ht
  refine j_met (by decide +kernel) (Nat.le_of_ble_eq_true rfl) (fun X F hn hQ => ?_)
  refine j_iload_n (pc := 0) F dX7_countOfPeer_0 rfl ?_
  refine j_ri (j_runSN (pc := 1) F (c_X8_isPeer (nI p)) m_X8_isPeer ms_X8_isPeer ln_X7_41 ⟨by decide, by decide⟩ (Nat.le_of_ble_eq_true rfl) ⟨by omega, by omega⟩ rfl dX7_countOfPeer_1) (fun r h1 hp1 => ?_)
  obtain ⟨rfl, rfl⟩ := hp1
  refine j_int (congrArg bI (okPeer_nI hp)) ?_
  first | refine j_if_eqB (pc := 4) F 16 dX7_countOfPeer_4 (by decide) (fun c => ?_) (fun c => ?_) | refine j_if_eqN (pc := 4) F 16 dX7_countOfPeer_4 (by decide) (by omega) (fun c => ?_) (fun c => ?_) | refine j_if_eqI (pc := 4) F 16 dX7_countOfPeer_4 (by decide) (fun c => ?_) (fun c => ?_)
  · cases c
  · first | refine j_aload_n (pc := 7) F dX7_countOfPeer_7 rfl ?_ | refine j_aload_nq (pc := 7) F dX7_countOfPeer_7 rfl ?_
    refine j_get (pc := 8) F fg_X7_21 (by first | assumption | exact hUp_s) (by rfl) dX7_countOfPeer_8 ?_
    refine j_iload_n (pc := 11) F dX7_countOfPeer_11 rfl ?_
    refine j_ialdN (pc := 12) F (by first | assumption | exact hUp_s) (by omega) (by decide) dX7_countOfPeer_12 ?_
    refine j_goto (pc := 13) F 17 dX7_countOfPeer_13 (by decide) ?_
    exact j_iret F hQ rfl rfl (by omega) (by omega) dX7_countOfPeer_17 ⟨e5 p hp, rfl⟩
theorem c_X7_countPrefixes {tr ca cp cb : Nat} {rA : Nat → Nat} {C : Nat → Nat → Option Nat} (ht : isTree g h tr ca cp cb rA C) : MI l g A h yX7_countPrefixes cX7_countPrefixes 3 (some .int) 2 0 0 [.ref tr] (fun r h1 => r = nI (cnt (fun j => decide (0 < cntQ C (j + 1))) 511) ∧ h1 = h) := by
  have e1 := ht.1
  refine j_met (by decide +kernel) (Nat.le_of_ble_eq_true rfl) (fun X F hn hQ => ?_)
  refine j_iconst (pc := 0) (v := (nI 0)) F dX7_countPrefixes_0 (by decide) ?_
  refine j_istore_n (pc := 1) F dX7_countPrefixes_1 (by decide) ?_
  refine j_iconst (pc := 2) (v := (nI 1)) F dX7_countPrefixes_2 (by decide) ?_
  refine j_istore_n (pc := 3) F dX7_countPrefixes_3 (by decide) ?_
  have loop : ∀ m i (lv : List (Nat × Value)), 511 < i + m → i ≤ 511 → lall lv [(0, .ref tr), (1, .int (nI (cnt (fun j => decide (0 < cntQ C (j + 1))) i))), (2, .int (nI (i + 1)))] → J l X g A 3 0 0 h 4 lv [] := by
    intro m
    induction m with
    | zero => intro i lv q1 q2; omega
    | succ m ih =>
      intro i lv q1 q2 q3
      refine j_lv _ q3 ?_
      refine j_iload_n (pc := 4) F dX7_countPrefixes_4 rfl ?_
      refine j_sipush (pc := 5) (v := (nI 512)) F dX7_countPrefixes_5 (by decide) ?_
      first | refine j_icmp_geN (pc := 8) F 28 dX7_countPrefixes_8 (by decide) (by omega) (by omega) (fun c => ?_) (fun c => ?_) | refine j_icmp_geIN (pc := 8) F 28 dX7_countPrefixes_8 (by decide) (by omega) (fun c => ?_) (fun c => ?_) | refine j_icmp_geNI (pc := 8) F 28 dX7_countPrefixes_8 (by decide) (by omega) (fun c => ?_) (fun c => ?_) | refine j_icmp_geI (pc := 8) F 28 dX7_countPrefixes_8 (by decide) (fun c => ?_) (fun c => ?_)
      · have : i = 511 := by omega
        subst this
        refine j_iload_n (pc := 28) F dX7_countPrefixes_28 rfl ?_
        exact j_iret F hQ rfl rfl (by omega) (by omega) dX7_countPrefixes_29 ⟨rfl, rfl⟩
      · first | refine j_aload_n (pc := 11) F dX7_countPrefixes_11 rfl ?_ | refine j_aload_nq (pc := 11) F dX7_countPrefixes_11 rfl ?_
        refine j_iload_n (pc := 12) F dX7_countPrefixes_12 rfl ?_
        refine j_ri (j_runV (pc := 13) F (c_X7_isThere ht ⟨by omega, by omega⟩) m_X7_isThere mv_X7_isThere lk_X7_45 (by first | assumption | exact hUp_s) rfl ⟨by decide, by decide⟩ (Nat.le_of_ble_eq_true rfl) ⟨by omega, by omega⟩ rfl dX7_countPrefixes_13) (fun r h1 hp1 => ?_)
        obtain ⟨rfl, rfl⟩ := hp1
        first | refine j_if_eqB (pc := 16) F 22 dX7_countPrefixes_16 (by decide) (fun c2 => ?_) (fun c2 => ?_) | refine j_if_eqN (pc := 16) F 22 dX7_countPrefixes_16 (by decide) (by omega) (fun c2 => ?_) (fun c2 => ?_) | refine j_if_eqI (pc := 16) F 22 dX7_countPrefixes_16 (by decide) (fun c2 => ?_) (fun c2 => ?_)
        · first | refine j_iincN (pc := 22) F dX7_countPrefixes_22 rfl (by decide) ?_ | refine j_iincM (pc := 22) F dX7_countPrefixes_22 rfl (by decide) ?_ | refine j_iinc (pc := 22) F dX7_countPrefixes_22 rfl rfl (by decide) ?_
          refine j_goto (pc := 25) F 4 dX7_countPrefixes_25 (by decide) ?_
          refine ih (i + 1) _ (by omega) (by omega) ⟨rfl, ?_, rfl, trivial⟩
          rw [show cnt (fun j => decide (0 < cntQ C (j + 1))) (i + 1) = cnt (fun j => decide (0 < cntQ C (j + 1))) i by rw [cnt, if_neg (by rw [c2]; simp)]; rfl]
          rfl
        · first | refine j_iincN (pc := 19) F dX7_countPrefixes_19 rfl (by decide) ?_ | refine j_iincM (pc := 19) F dX7_countPrefixes_19 rfl (by decide) ?_ | refine j_iinc (pc := 19) F dX7_countPrefixes_19 rfl rfl (by decide) ?_
          first | refine j_iincN (pc := 22) F dX7_countPrefixes_22 rfl (by decide) ?_ | refine j_iincM (pc := 22) F dX7_countPrefixes_22 rfl (by decide) ?_ | refine j_iinc (pc := 22) F dX7_countPrefixes_22 rfl rfl (by decide) ?_
          refine j_goto (pc := 25) F 4 dX7_countPrefixes_25 (by decide) ?_
          refine ih (i + 1) _ (by omega) (by omega) ⟨rfl, ?_, rfl, trivial⟩
          rw [show cnt (fun j => decide (0 < cntQ C (j + 1))) (i + 1) = cnt (fun j => decide (0 < cntQ C (j + 1))) i + 1 by rw [cnt, if_pos c2]]
          rfl
  exact loop 512 0 _ (by omega) (by omega) ⟨rfl, rfl, rfl, trivial⟩
theorem c_X7_bestOf {tr ca cp cb q : Nat} {T : RF} {D : UD} {E : Nat → Nat} {C : Nat → Nat → Option Nat} (ht : isTree g h tr ca cp cb T.1 C) (hL : isLive g h T D E C) (hq : 1 ≤ q ∧ q < 512) : MQo l g A h yX7_bestOf cX7_bestOf 5 (some (.object "Bgpreplay$Route")) 3 0 0 [.ref tr, .int (nI q)] (fun r h1 => r = (bst D.2.2.1 (fun p => C p q) 6).map T.1 ∧ h1 = h) := by
  have e1 := ht.1
  refine j_met (by decide +kernel) (Nat.le_of_ble_eq_true rfl) (fun X F hn hQ => ?_)
  refine j_null (pc := 0) F dX7_bestOf_0 ?_
  first | refine j_astore_n (pc := 1) F dX7_bestOf_1 (by decide) ?_ | refine j_astore_nq (pc := 1) F dX7_bestOf_1 (by decide) ?_ | refine j_astore_nN (pc := 1) F dX7_bestOf_1 (by decide) ?_
  refine j_iconst (pc := 2) (v := (nI 0)) F dX7_bestOf_2 (by decide) ?_
  refine j_istore_n (pc := 3) F dX7_bestOf_3 (by decide) ?_
  have loop : ∀ m i (lv : List (Nat × Value)), 6 < i + m → i ≤ 6 → lall lv [(0, .ref tr), (1, .int (nI q)), (2, va_rf ((bst D.2.2.1 (fun p => C p q) i).map T.1)), (3, .int (nI i))] → J l X g A 5 0 0 h 4 lv [] := by
    intro m
    induction m with
    | zero => intro i lv q1 q2; omega
    | succ m ih =>
      intro i lv q1 q2 q3
      refine j_lv _ q3 ?_
      refine j_iload_n (pc := 4) F dX7_bestOf_4 rfl ?_
      refine j_bipush (pc := 5) (v := (nI 6)) F dX7_bestOf_5 (by decide) ?_
      first | refine j_icmp_geN (pc := 7) F 41 dX7_bestOf_7 (by decide) (by omega) (by omega) (fun c => ?_) (fun c => ?_) | refine j_icmp_geIN (pc := 7) F 41 dX7_bestOf_7 (by decide) (by omega) (fun c => ?_) (fun c => ?_) | refine j_icmp_geNI (pc := 7) F 41 dX7_bestOf_7 (by decide) (by omega) (fun c => ?_) (fun c => ?_) | refine j_icmp_geI (pc := 7) F 41 dX7_bestOf_7 (by decide) (fun c => ?_) (fun c => ?_)
      · have : i = 6 := by omega
        subst this
        first | refine j_aload_n (pc := 41) F dX7_bestOf_41 rfl ?_ | refine j_aload_nq (pc := 41) F dX7_bestOf_41 rfl ?_
        exact j_aret F hQ rfl (by omega) (by omega) dX7_bestOf_42 ⟨rfl, rfl⟩
      · first | refine j_aload_n (pc := 10) F dX7_bestOf_10 rfl ?_ | refine j_aload_nq (pc := 10) F dX7_bestOf_10 rfl ?_
        refine j_iload_n (pc := 11) F dX7_bestOf_11 rfl ?_
        refine j_iload_n (pc := 12) F dX7_bestOf_12 rfl ?_
        refine j_rq (j_runV (pc := 13) F (c_X7_routeOf ht (show i < 6 by omega) hq) m_X7_routeOf mv_X7_routeOf lk_X7_48 (by first | assumption | exact hUp_s) rfl ⟨by decide, by decide⟩ (Nat.le_of_ble_eq_true rfl) ⟨by omega, by omega⟩ rfl dX7_bestOf_13) (fun r h1 hp1 => ?_)
        obtain ⟨rfl, rfl⟩ := hp1
        cases hc : C i q with
        | none =>
          refine j_refN rfl ?_
          first | refine j_astore (pc := 16) F dX7_bestOf_16 (by decide) ?_ | refine j_astoreq (pc := 16) F dX7_bestOf_16 (by decide) ?_ | refine j_astoreN (pc := 16) F dX7_bestOf_16 (by decide) ?_
          refine j_aloadN (pc := 18) F dX7_bestOf_18 rfl ?_
          refine j_ifnullN (pc := 20) F 35 dX7_bestOf_20 (by decide) ?_
          first | refine j_iincN (pc := 35) F dX7_bestOf_35 rfl (by decide) ?_ | refine j_iincM (pc := 35) F dX7_bestOf_35 rfl (by decide) ?_ | refine j_iinc (pc := 35) F dX7_bestOf_35 rfl rfl (by decide) ?_
          refine j_goto (pc := 38) F 4 dX7_bestOf_38 (by decide) ?_
          refine ih (i + 1) _ (by omega) (by omega) ⟨rfl, rfl, ?_, rfl, trivial⟩
          rw [show bst D.2.2.1 (fun p => C p q) (i + 1) = bst D.2.2.1 (fun p => C p q) i by rw [bst, hc]]
          rfl
        | some u =>
          obtain ⟨w1, w2, w3, w4, w5, w6⟩ := hL i q u (by omega) hq.2 hc
          have w7 := w1.1
          refine j_refS rfl ?_
          first | refine j_astore (pc := 16) F dX7_bestOf_16 (by decide) ?_ | refine j_astoreq (pc := 16) F dX7_bestOf_16 (by decide) ?_ | refine j_astoreN (pc := 16) F dX7_bestOf_16 (by decide) ?_
          first | refine j_aload (pc := 18) F dX7_bestOf_18 rfl ?_ | refine j_aloadq (pc := 18) F dX7_bestOf_18 rfl ?_
          refine j_ifnull (pc := 20) F dX7_bestOf_20 ?_
          cases hb : bst D.2.2.1 (fun p => C p q) i with
          | none =>
            first | refine j_aload (pc := 23) F dX7_bestOf_23 rfl ?_ | refine j_aloadq (pc := 23) F dX7_bestOf_23 rfl ?_
            refine j_aload_nN (pc := 25) F dX7_bestOf_25 ?_ ?_
            · rfl
            · refine j_ri (j_runV (pc := 26) F (c_X6_isBetterThanN) m_X6_isBetterThan mv_X6_isBetterThan lk_X7_52 (by first | assumption | exact hUp_s) rfl ⟨by decide, by decide⟩ (Nat.le_of_ble_eq_true rfl) ⟨by omega, by omega⟩ rfl dX7_bestOf_26) (fun r h6 hp1 => ?_)
              obtain ⟨rfl, rfl⟩ := hp1
              first | refine j_if_eqB (pc := 29) F 35 dX7_bestOf_29 (by decide) (fun c2 => ?_) (fun c2 => ?_) | refine j_if_eqN (pc := 29) F 35 dX7_bestOf_29 (by decide) (by omega) (fun c2 => ?_) (fun c2 => ?_) | refine j_if_eqI (pc := 29) F 35 dX7_bestOf_29 (by decide) (fun c2 => ?_) (fun c2 => ?_)
              · cases c2
              · first | refine j_aload (pc := 32) F dX7_bestOf_32 rfl ?_ | refine j_aloadq (pc := 32) F dX7_bestOf_32 rfl ?_
                first | refine j_astore_n (pc := 34) F dX7_bestOf_34 (by decide) ?_ | refine j_astore_nq (pc := 34) F dX7_bestOf_34 (by decide) ?_ | refine j_astore_nN (pc := 34) F dX7_bestOf_34 (by decide) ?_
                first | refine j_iincN (pc := 35) F dX7_bestOf_35 rfl (by decide) ?_ | refine j_iincM (pc := 35) F dX7_bestOf_35 rfl (by decide) ?_ | refine j_iinc (pc := 35) F dX7_bestOf_35 rfl rfl (by decide) ?_
                refine j_goto (pc := 38) F 4 dX7_bestOf_38 (by decide) ?_
                refine ih (i + 1) _ (by omega) (by omega) ⟨rfl, rfl, ?_, rfl, trivial⟩
                rw [show bst D.2.2.1 (fun p => C p q) (i + 1) = some u by rw [bst, hc, hb]]
                rfl
          | some v =>
            obtain ⟨p2, y1, y2⟩ := bst_in hb
            obtain ⟨v1, v2, v3, v4, v5, v6⟩ := hL p2 q v (by omega) hq.2 y2
            first | refine j_aload (pc := 23) F dX7_bestOf_23 rfl ?_ | refine j_aloadq (pc := 23) F dX7_bestOf_23 rfl ?_
            refine j_aload_n (pc := 25) (x := T.1 v) F dX7_bestOf_25 ?_ ?_
            · rfl
            · refine j_ri (j_runV (pc := 26) F (c_X6_isBetterThan w1 (w2.r w5 w6) v1 (v2.r v5 v6)) m_X6_isBetterThan mv_X6_isBetterThan lk_X7_52 (by first | assumption | exact hUp_s) rfl ⟨by decide, by decide⟩ (Nat.le_of_ble_eq_true rfl) ⟨by omega, by omega⟩ rfl dX7_bestOf_26) (fun r h6 hp1 => ?_)
              obtain ⟨rfl, rfl⟩ := hp1
              have hbt : better (D.2.2.1 u) (D.1 u) (D.2.2.1 v) (D.1 v) = decide (D.2.2.1 u < D.2.2.1 v) := by
                rw [better]
                congr 1
                rw [w3, v3, eq_iff_iff]
                omega
              rw [hbt]
              first | refine j_if_eqB (pc := 29) F 35 dX7_bestOf_29 (by decide) (fun c2 => ?_) (fun c2 => ?_) | refine j_if_eqN (pc := 29) F 35 dX7_bestOf_29 (by decide) (by omega) (fun c2 => ?_) (fun c2 => ?_) | refine j_if_eqI (pc := 29) F 35 dX7_bestOf_29 (by decide) (fun c2 => ?_) (fun c2 => ?_)
              · first | refine j_iincN (pc := 35) F dX7_bestOf_35 rfl (by decide) ?_ | refine j_iincM (pc := 35) F dX7_bestOf_35 rfl (by decide) ?_ | refine j_iinc (pc := 35) F dX7_bestOf_35 rfl rfl (by decide) ?_
                refine j_goto (pc := 38) F 4 dX7_bestOf_38 (by decide) ?_
                refine ih (i + 1) _ (by omega) (by omega) ⟨rfl, rfl, ?_, rfl, trivial⟩
                rw [show bst D.2.2.1 (fun p => C p q) (i + 1) = some v by rw [bst, hc, hb]; dsimp only; rw [if_neg (of_decide_eq_false c2)]]
                rfl
              · first | refine j_aload (pc := 32) F dX7_bestOf_32 rfl ?_ | refine j_aloadq (pc := 32) F dX7_bestOf_32 rfl ?_
                first | refine j_astore_n (pc := 34) F dX7_bestOf_34 (by decide) ?_ | refine j_astore_nq (pc := 34) F dX7_bestOf_34 (by decide) ?_ | refine j_astore_nN (pc := 34) F dX7_bestOf_34 (by decide) ?_
                first | refine j_iincN (pc := 35) F dX7_bestOf_35 rfl (by decide) ?_ | refine j_iincM (pc := 35) F dX7_bestOf_35 rfl (by decide) ?_ | refine j_iinc (pc := 35) F dX7_bestOf_35 rfl rfl (by decide) ?_
                refine j_goto (pc := 38) F 4 dX7_bestOf_38 (by decide) ?_
                refine ih (i + 1) _ (by omega) (by omega) ⟨rfl, rfl, ?_, rfl, trivial⟩
                rw [show bst D.2.2.1 (fun p => C p q) (i + 1) = some u by rw [bst, hc, hb]; dsimp only; rw [if_pos (of_decide_eq_true c2)]]
                rfl
  exact loop 7 0 _ (by omega) (by omega) ⟨rfl, rfl, rfl, rfl, trivial⟩
end TREE
end
section
/-! ===== Bgpreplay$Tree: its writes, look-ups and origins ===== -/
theorem fa_and (a b : Nat) : nI a &&& nI b = nI (a &&& b) := by
  apply Int32.toBitVec_inj.1
  show BitVec.ofNat 32 a &&& BitVec.ofNat 32 b = BitVec.ofNat 32 (a &&& b)
  apply BitVec.eq_of_getLsbD_eq
  intro i hi
  simp [hi]
theorem fa_or (a b : Nat) : nI a ||| nI b = nI (a ||| b) := by
  apply Int32.toBitVec_inj.1
  show BitVec.ofNat 32 a ||| BitVec.ofNat 32 b = BitVec.ofNat 32 (a ||| b)
  apply BitVec.eq_of_getLsbD_eq
  intro i hi
  simp [hi]
theorem nd_bit (n j : Nat) : n &&& 2 ^ j = 0 ↔ n.testBit j = false := by
  constructor
  · intro h
    have h1 : (n &&& 2 ^ j).testBit j = false := by rw [h]; simp
    rw [Nat.testBit_and] at h1
    simpa using h1
  · intro h
    apply Nat.eq_of_testBit_eq
    intro i
    rw [Nat.testBit_and, Nat.zero_testBit]
    by_cases hij : j = i
    · subst hij; simp [h]
    · rw [Nat.testBit_two_pow_of_ne hij, Bool.and_false]
def cUp (C : Nat → Nat → Option Nat) (p q : Nat) (v : Option Nat) : Nat → Nat → Option Nat := fun a b => if a = p ∧ b = q then v else C a b
theorem cUp_s {C : Nat → Nat → Option Nat} {p q : Nat} {v : Option Nat} : cUp C p q v p q = v := if_pos ⟨rfl, rfl⟩
theorem cUp_n {C : Nat → Nat → Option Nat} {p q : Nat} {v : Option Nat} {a b : Nat} (h : ¬ (a = p ∧ b = q)) : cUp C p q v a b = C a b := if_neg h
theorem cntQ_in {C : Nat → Nat → Option Nat} {p q u : Nat} (hp : p < 6) (h : C p q = none) (b : Nat) : cntQ (cUp C p q (some u)) b = if b = q then cntQ C b + 1 else cntQ C b := by
  by_cases hb : b = q
  · subst hb
    rw [if_pos rfl]
    exact cnt_set hp (fun i _ hi => by rw [cUp_n (fun z => hi z.1)]) (by rw [h]; rfl) (by rw [cUp_s]; rfl)
  · rw [if_neg hb]
    exact cnt_congr (fun i _ => by rw [cUp_n (fun z => hb z.2)])
theorem cntP_in {C : Nat → Nat → Option Nat} {p q u : Nat} (hq : q < 512) (h : C p q = none) (a : Nat) : cntP (cUp C p q (some u)) a = if a = p then cntP C a + 1 else cntP C a := by
  by_cases ha : a = p
  · subst ha
    rw [if_pos rfl]
    exact cnt_set hq (fun i _ hi => by rw [cUp_n (fun z => hi z.2)]) (by rw [h]; rfl) (by rw [cUp_s]; rfl)
  · rw [if_neg ha]
    exact cnt_congr (fun i _ => by rw [cUp_n (fun z => ha z.1)])
theorem cUp_back {C : Nat → Nat → Option Nat} {p q u : Nat} (h : C p q = some u) : cUp (cUp C p q none) p q (some u) = C := by
  funext a b
  by_cases hab : a = p ∧ b = q
  · rw [hab.1, hab.2, cUp_s, h]
  · rw [cUp_n hab, cUp_n hab]
theorem cntQ_out {C : Nat → Nat → Option Nat} {p q u : Nat} (hp : p < 6) (h : C p q = some u) (b : Nat) : cntQ C b = if b = q then cntQ (cUp C p q none) b + 1 else cntQ (cUp C p q none) b := by
  have := cntQ_in (C := cUp C p q none) (u := u) hp cUp_s b
  rw [cUp_back h] at this
  exact this
theorem cntP_out {C : Nat → Nat → Option Nat} {p q u : Nat} (hq : q < 512) (h : C p q = some u) (a : Nat) : cntP C a = if a = p then cntP (cUp C p q none) a + 1 else cntP (cUp C p q none) a := by
  have := cntP_in (C := cUp C p q none) (u := u) hq cUp_s a
  rw [cUp_back h] at this
  exact this
def pnN (a b : Nat) : Nat := (256 + a) / 2 ^ (8 - b)
theorem sh8_ok : ∀ b, b < 9 → (((nI 8 - nI b) &&& 31).toBitVec.smod 32).toNat = 8 - b := by decide +kernel
theorem pnum_nI {a b : Nat} (ha : a < 256) (hb : b ≤ 8) : pnum (nI a) (nI b) = nI (pnN a b) := by
  unfold pnum pnN
  rw [nI_add]
  exact pk_shrN (by omega) _ _ (sh8_ok b (by omega))
theorem pnN_in {a b : Nat} (ha : a < 256) (hb : b ≤ 8) : 1 ≤ pnN a b ∧ pnN a b < 512 := by
  unfold pnN
  have h1 : 0 < 2 ^ (8 - b) := Nat.two_pow_pos _
  have h2 : 2 ^ (8 - b) ≤ 2 ^ 8 := Nat.pow_le_pow_right (by omega) (by omega)
  refine ⟨(Nat.le_div_iff_mul_le h1).mpr (by omega), Nat.lt_of_le_of_lt (Nat.div_le_self _ _) (by omega)⟩
def lastL (f : Nat → Bool) : Nat → Int32
  | 0 => -1
  | n + 1 => if f n = true then nI n else lastL f n
def nab (f : Nat → Bool) : Nat → Nat → Nat
  | 0, _ => 0
  | m + 1, a => if a = 0 then 0 else if f a = true then a else nab f m (a / 2)
def obits (O : Nat → Nat) (c : Nat → Option Nat) : Nat → Nat
  | 0 => 0
  | n + 1 => match c n with
    | none => obits O c n
    | some u => obits O c n ||| 2 ^ O u
theorem obits_0 {O : Nat → Nat} {c : Nat → Option Nat} : ∀ {n : Nat}, (∀ p, p < n → c p = none) → obits O c n = 0
  | 0, _ => rfl
  | n + 1, h => by unfold obits; rw [h n (by omega)]; exact obits_0 (fun p hp => h p (by omega))
theorem obits_lt {O : Nat → Nat} {c : Nat → Option Nat} : ∀ {n : Nat}, (∀ p u, p < n → c p = some u → O u ≤ 30) → obits O c n < 2 ^ 31
  | 0, _ => (by decide : (0 : Nat) < 2 ^ 31)
  | n + 1, h => by
    unfold obits
    cases hc : c n with
    | none => exact obits_lt (fun p u hp => h p u (by omega))
    | some u => exact Nat.or_lt_two_pow (obits_lt (fun p u hp => h p u (by omega))) (Nat.pow_lt_pow_right (by omega) (by have := h n u (by omega) hc; omega))
/-- the origin of an update's route -/
def ogn (D : UD) (u : Nat) : Nat := D.2.2.2 u (D.2.2.1 u - 1)
def bcI (x : Int32) : Int32 :=
  let x1 := x - ((x.toUInt32 >>> ((nI 1).toUInt32 &&& Int32.toUInt32 31)).toInt32 &&& 1431655765)
  let x2 := (x1 &&& 858993459) + ((x1.toUInt32 >>> ((nI 2).toUInt32 &&& Int32.toUInt32 31)).toInt32 &&& 858993459)
  let x3 := (x2 + (x2.toUInt32 >>> ((nI 4).toUInt32 &&& Int32.toUInt32 31)).toInt32) &&& 252645135
  let x4 := x3 + (x3.toUInt32 >>> ((nI 8).toUInt32 &&& Int32.toUInt32 31)).toInt32
  let x5 := x4 + (x4.toUInt32 >>> ((nI 16).toUInt32 &&& Int32.toUInt32 31)).toInt32
  x5 &&& nI 63
section TREE2
variable {l : Launch} {g : GG} {A : Nat → Prop} {h : HF}
theorem c_J6_bitCount (x : Int32) : MI l g A h yJ6_bitCount_0f7a4 cJ6_bitCount_0f7a4 1 (some .int) 0 0 0 [.int x] (fun r h1 => r = bcI x ∧ h1 = h) := by
  refine j_met (by decide +kernel) (Nat.le_of_ble_eq_true rfl) (fun X F hn hQ => ?_)
  refine j_iload_n (pc := 0) F dJ6_bitCount_0f7a4_0 rfl ?_
  refine j_iload_n (pc := 1) F dJ6_bitCount_0f7a4_1 rfl ?_
  refine j_iconst (pc := 2) (v := (nI 1)) F dJ6_bitCount_0f7a4_2 (by decide) ?_
  refine j_iushr (pc := 3) F dJ6_bitCount_0f7a4_3 rfl ?_
  refine j_ldcw (pc := 4) F cw_J6_265 dJ6_bitCount_0f7a4_4 ?_
  refine j_iand (pc := 7) F dJ6_bitCount_0f7a4_7 ?_
  first | refine j_isubN (pc := 8) F dJ6_bitCount_0f7a4_8 (by omega) ?_ | refine j_isub (pc := 8) F dJ6_bitCount_0f7a4_8 ?_
  refine j_istore_n (pc := 9) F dJ6_bitCount_0f7a4_9 (by decide) ?_
  refine j_iload_n (pc := 10) F dJ6_bitCount_0f7a4_10 rfl ?_
  refine j_ldcw (pc := 11) F cw_J6_266 dJ6_bitCount_0f7a4_11 ?_
  refine j_iand (pc := 14) F dJ6_bitCount_0f7a4_14 ?_
  refine j_iload_n (pc := 15) F dJ6_bitCount_0f7a4_15 rfl ?_
  refine j_iconst (pc := 16) (v := (nI 2)) F dJ6_bitCount_0f7a4_16 (by decide) ?_
  refine j_iushr (pc := 17) F dJ6_bitCount_0f7a4_17 rfl ?_
  refine j_ldcw (pc := 18) F cw_J6_266 dJ6_bitCount_0f7a4_18 ?_
  refine j_iand (pc := 21) F dJ6_bitCount_0f7a4_21 ?_
  first | refine j_iaddN (pc := 22) F dJ6_bitCount_0f7a4_22 ?_ | refine j_iadd (pc := 22) F dJ6_bitCount_0f7a4_22 ?_
  refine j_istore_n (pc := 23) F dJ6_bitCount_0f7a4_23 (by decide) ?_
  refine j_iload_n (pc := 24) F dJ6_bitCount_0f7a4_24 rfl ?_
  refine j_iload_n (pc := 25) F dJ6_bitCount_0f7a4_25 rfl ?_
  refine j_iconst (pc := 26) (v := (nI 4)) F dJ6_bitCount_0f7a4_26 (by decide) ?_
  refine j_iushr (pc := 27) F dJ6_bitCount_0f7a4_27 rfl ?_
  first | refine j_iaddN (pc := 28) F dJ6_bitCount_0f7a4_28 ?_ | refine j_iadd (pc := 28) F dJ6_bitCount_0f7a4_28 ?_
  refine j_ldcw (pc := 29) F cw_J6_267 dJ6_bitCount_0f7a4_29 ?_
  refine j_iand (pc := 32) F dJ6_bitCount_0f7a4_32 ?_
  refine j_istore_n (pc := 33) F dJ6_bitCount_0f7a4_33 (by decide) ?_
  refine j_iload_n (pc := 34) F dJ6_bitCount_0f7a4_34 rfl ?_
  refine j_iload_n (pc := 35) F dJ6_bitCount_0f7a4_35 rfl ?_
  refine j_bipush (pc := 36) (v := (nI 8)) F dJ6_bitCount_0f7a4_36 (by decide) ?_
  refine j_iushr (pc := 38) F dJ6_bitCount_0f7a4_38 rfl ?_
  first | refine j_iaddN (pc := 39) F dJ6_bitCount_0f7a4_39 ?_ | refine j_iadd (pc := 39) F dJ6_bitCount_0f7a4_39 ?_
  refine j_istore_n (pc := 40) F dJ6_bitCount_0f7a4_40 (by decide) ?_
  refine j_iload_n (pc := 41) F dJ6_bitCount_0f7a4_41 rfl ?_
  refine j_iload_n (pc := 42) F dJ6_bitCount_0f7a4_42 rfl ?_
  refine j_bipush (pc := 43) (v := (nI 16)) F dJ6_bitCount_0f7a4_43 (by decide) ?_
  refine j_iushr (pc := 45) F dJ6_bitCount_0f7a4_45 rfl ?_
  first | refine j_iaddN (pc := 46) F dJ6_bitCount_0f7a4_46 ?_ | refine j_iadd (pc := 46) F dJ6_bitCount_0f7a4_46 ?_
  refine j_istore_n (pc := 47) F dJ6_bitCount_0f7a4_47 (by decide) ?_
  refine j_iload_n (pc := 48) F dJ6_bitCount_0f7a4_48 rfl ?_
  refine j_bipush (pc := 49) (v := (nI 63)) F dJ6_bitCount_0f7a4_49 (by decide) ?_
  refine j_iand (pc := 51) F dJ6_bitCount_0f7a4_51 ?_
  exact j_iret F hQ rfl rfl (by omega) (by omega) dJ6_bitCount_0f7a4_52 ⟨rfl, rfl⟩
theorem c_X7_put {tr ca cp cb u : Nat} {T : RF} {D : UD} {E : Nat → Nat} {C : Nat → Nat → Option Nat} (ht : isTree g h tr ca cp cb T.1 C) (hr : isRt g h T D E u) (hD : dOk D u) (hC : C (D.1 u) (D.2.1 u) = none) : MVo l g A h yX7_put cX7_put 4 2 0 0 [.ref tr, .ref (T.1 u)] (fun h1 => isTree g h1 tr ca cp cb T.1 (cUp C (D.1 u) (D.2.1 u) (some u)) ∧ ∀ b, b ≠ ca → b ≠ cp → b ≠ cb → h1 b = h b) := by
  obtain ⟨e1, ⟨f1, e2, e3⟩, ⟨f2, e4, e5⟩, ⟨f3, e6, e7⟩⟩ := ht
  obtain ⟨r1, r2, r3⟩ := hr
  unfold isPfx at r2
  obtain ⟨o1, o2, o3, o4⟩ := hD
  generalize hpe : D.1 u = pe at *
  generalize hq : D.2.1 u = q at *
  have n1 : tr ≠ ca := ne_of2 e1 e2 (fun z => by cases z)
  have n2 : tr ≠ cp := ne_of2 e1 e4 (fun z => by cases z)
  have n3 : tr ≠ cb := ne_of2 e1 e6 (fun z => by cases z)
  have n4 : ca ≠ cp := fun z => by
    rw [z, e4] at e2
    have := congrArg (fun o : Option va_E => match o with | some (.inl (_, _, .inl _)) => true | _ => false) e2
    simp at this
  have n5 : ca ≠ cb := fun z => by
    rw [z, e6] at e2
    have := congrArg (fun o : Option va_E => match o with | some (.inl (_, _, .inl _)) => true | _ => false) e2
    simp at this
  have n6 : cp ≠ cb := fun z => by
    rw [z, e6] at e4
    have := congrArg (fun o : Option va_E => match o with | some (.inl (_, n, _)) => n | _ => 0) e4
    simp at this
  have n7 : T.1 u ≠ ca := ne_of2 r1 e2 (fun z => by cases z)
  have n8 : T.1 u ≠ cp := ne_of2 r1 e4 (fun z => by cases z)
  refine j_met (by decide +kernel) (Nat.le_of_ble_eq_true rfl) (fun X F hn hQ => ?_)
  first | refine j_aload_n (pc := 0) F dX7_put_0 rfl ?_ | refine j_aload_nq (pc := 0) F dX7_put_0 rfl ?_
  refine j_getN (pc := 1) F fn_X7_28 (by first | assumption | exact hUp_s) (by rfl) dX7_put_1 ?_
  refine j_getN (pc := 4) F fn_X7_32 (by first | assumption | exact hUp_s) (by rfl) dX7_put_4 ?_
  refine j_istore_n (pc := 7) F dX7_put_7 (by decide) ?_
  first | refine j_aload_n (pc := 8) F dX7_put_8 rfl ?_ | refine j_aload_nq (pc := 8) F dX7_put_8 rfl ?_
  refine j_getN (pc := 9) F fn_X7_38 (by first | assumption | exact hUp_s) (by rfl) dX7_put_9 ?_
  refine j_iload_n (pc := 12) F dX7_put_12 rfl ?_
  refine j_ri (j_runS (pc := 13) F (c_X7_cellOf o1 o2) m_X7_cellOf ms_X7_cellOf lk_X7_24 ⟨by decide, by decide⟩ (Nat.le_of_ble_eq_true rfl) ⟨by omega, by omega⟩ rfl dX7_put_13) (fun r h1 hp1 => ?_)
  obtain ⟨rfl, rfl⟩ := hp1
  refine j_istore_n (pc := 16) F dX7_put_16 (by decide) ?_
  refine j_iload_n (pc := 17) F dX7_put_17 rfl ?_
  refine j_iconst (pc := 18) (v := (-1)) F dX7_put_18 (by decide) ?_
  refine j_icmp_eqNI (pc := 19) F 61 dX7_put_19 (by decide) (by omega) (fun c => ?_) (fun c => ?_)
  · rw [q_m1] at c; omega
  · first | refine j_aload_n (pc := 22) F dX7_put_22 rfl ?_ | refine j_aload_nq (pc := 22) F dX7_put_22 rfl ?_
    refine j_get (pc := 23) F fg_X7_11 (by first | assumption | exact hUp_s) (by rfl) dX7_put_23 ?_
    refine j_iload_n (pc := 26) F dX7_put_26 rfl ?_
    first | refine j_aldRN (pc := 27) F (by first | assumption | exact hUp_s) (by omega) (by decide) dX7_put_27 ?_ | refine j_aldEN (pc := 27) F (by first | assumption | exact hUp_s) (by omega) (by decide) dX7_put_27 ?_ | refine j_aldIIN (pc := 27) F (by first | assumption | exact hUp_s) (by omega) (by decide) dX7_put_27 ?_
    refine j_refN (by rw [e3 pe q o1 o2.2, hC]; rfl) ?_
    refine j_ifnonnullN (pc := 28) F dX7_put_28 ?_
    first | refine j_aload_n (pc := 31) F dX7_put_31 rfl ?_ | refine j_aload_nq (pc := 31) F dX7_put_31 rfl ?_
    refine j_get (pc := 32) F fg_X7_11 (by first | assumption | exact hUp_s) (by rfl) dX7_put_32 ?_
    refine j_iload_n (pc := 35) F dX7_put_35 rfl ?_
    first | refine j_aload_n (pc := 36) F dX7_put_36 rfl ?_ | refine j_aload_nq (pc := 36) F dX7_put_36 rfl ?_
    refine j_astRsN (pc := 37) F e2 r1 (by omega) (by decide) dX7_put_37 ?_
    have g1 : hUp h1 ca (aR g 3072 (va_up f1 (pe * 512 + q) (some (T.1 u)))) tr = some (.inr (7, [.ref ca, .ref cp, .ref cb])) := (hUp_n n1).trans e1
    have g2 : hUp h1 ca (aR g 3072 (va_up f1 (pe * 512 + q) (some (T.1 u)))) cp = some (aI g 512 f2) := (hUp_n (Ne.symm n4)).trans e4
    have g3 : hUp h1 ca (aR g 3072 (va_up f1 (pe * 512 + q) (some (T.1 u)))) cb = some (aI g 6 f3) := (hUp_n (Ne.symm n5)).trans e6
    have g4 : hUp h1 ca (aR g 3072 (va_up f1 (pe * 512 + q) (some (T.1 u)))) (T.1 u) = some (.inr (6, [.int (nI pe), .ref (T.2.1 u), .ref (T.2.2.1 u), .int (nI u), .int (nI (E u))])) := (hUp_n n7).trans r1
    have g5 : hUp h1 ca (aR g 3072 (va_up f1 (pe * 512 + q) (some (T.1 u)))) ca = some (aR g 3072 (va_up f1 (pe * 512 + q) (some (T.1 u)))) := hUp_s
    have g6 : ∀ b, b ≠ ca → hUp h1 ca (aR g 3072 (va_up f1 (pe * 512 + q) (some (T.1 u)))) b = h1 b := fun b q => hUp_n q
    generalize hUp h1 ca (aR g 3072 (va_up f1 (pe * 512 + q) (some (T.1 u)))) = h2 at g1 g2 g3 g4 g5 g6 ⊢
    first | refine j_aload_n (pc := 38) F dX7_put_38 rfl ?_ | refine j_aload_nq (pc := 38) F dX7_put_38 rfl ?_
    refine j_get (pc := 39) F fg_X7_17 (by first | assumption | exact hUp_s) (by rfl) dX7_put_39 ?_
    refine j_iload_n (pc := 42) F dX7_put_42 rfl ?_
    refine j_dup2_11 (pc := 43) F dX7_put_43 rfl rfl ?_
    refine j_ialdN (pc := 44) F g2 (by omega) (by decide) dX7_put_44 ?_
    rw [e5 q o2.2]
    refine j_iconst (pc := 45) (v := (nI 1)) F dX7_put_45 (by decide) ?_
    first | refine j_iaddN (pc := 46) F dX7_put_46 ?_ | refine j_iadd (pc := 46) F dX7_put_46 ?_
    refine j_iastN (pc := 47) F (by first | assumption | exact hUp_s) (by omega) (by decide) dX7_put_47 ?_
    have k1 : hUp h2 cp (aI g 512 (upd f2 q (nI (cntQ C q + 1)))) tr = some (.inr (7, [.ref ca, .ref cp, .ref cb])) := (hUp_n n2).trans g1
    have k3 : hUp h2 cp (aI g 512 (upd f2 q (nI (cntQ C q + 1)))) cb = some (aI g 6 f3) := (hUp_n (Ne.symm n6)).trans g3
    have k4 : hUp h2 cp (aI g 512 (upd f2 q (nI (cntQ C q + 1)))) (T.1 u) = some (.inr (6, [.int (nI pe), .ref (T.2.1 u), .ref (T.2.2.1 u), .int (nI u), .int (nI (E u))])) := (hUp_n n8).trans g4
    have k5 : hUp h2 cp (aI g 512 (upd f2 q (nI (cntQ C q + 1)))) ca = some (aR g 3072 (va_up f1 (pe * 512 + q) (some (T.1 u)))) := (hUp_n n4).trans g5
    have k2 : hUp h2 cp (aI g 512 (upd f2 q (nI (cntQ C q + 1)))) cp = some (aI g 512 (upd f2 q (nI (cntQ C q + 1)))) := hUp_s
    have k6 : ∀ b, b ≠ ca → b ≠ cp → hUp h2 cp (aI g 512 (upd f2 q (nI (cntQ C q + 1)))) b = h1 b := fun b q1 q2 => (hUp_n q2).trans (g6 b q1)
    generalize hUp h2 cp (aI g 512 (upd f2 q (nI (cntQ C q + 1)))) = h3 at k1 k2 k3 k4 k5 k6 ⊢
    first | refine j_aload_n (pc := 48) F dX7_put_48 rfl ?_ | refine j_aload_nq (pc := 48) F dX7_put_48 rfl ?_
    refine j_get (pc := 49) F fg_X7_21 (by first | assumption | exact hUp_s) (by rfl) dX7_put_49 ?_
    first | refine j_aload_n (pc := 52) F dX7_put_52 rfl ?_ | refine j_aload_nq (pc := 52) F dX7_put_52 rfl ?_
    refine j_getN (pc := 53) F fn_X7_38 (by first | assumption | exact hUp_s) (by rfl) dX7_put_53 ?_
    refine j_dup2_11 (pc := 56) F dX7_put_56 rfl rfl ?_
    refine j_ialdN (pc := 57) F (by first | assumption | exact hUp_s) (by omega) (by decide) dX7_put_57 ?_
    rw [e7 pe o1]
    refine j_iconst (pc := 58) (v := (nI 1)) F dX7_put_58 (by decide) ?_
    first | refine j_iaddN (pc := 59) F dX7_put_59 ?_ | refine j_iadd (pc := 59) F dX7_put_59 ?_
    refine j_iastN (pc := 60) F (by first | assumption | exact hUp_s) (by omega) (by decide) dX7_put_60 ?_
    refine j_vret F hQ rfl (by omega) (by omega) dX7_put_61 ⟨⟨?_, ⟨va_up f1 (pe * 512 + q) (some (T.1 u)), ?_, fun a b ha hb => ?_⟩, ⟨upd f2 q (nI (cntQ C q + 1)), ?_, fun b hb => ?_⟩, ⟨_, hUp_s, fun a ha => ?_⟩⟩, fun b q1 q2 q3 => ?_⟩
    · rw [hUp_n n3, k1]
    · rw [hUp_n n5, k5]
    · by_cases hab : a = pe ∧ b = q
      · rw [hab.1, hab.2, va_up_self, cUp_s]; rfl
      · rw [va_up_ne _ _ (by omega), cUp_n hab]; exact e3 a b ha hb
    · rw [hUp_n n6, k2]
    · rw [cntQ_in o1 hC]
      by_cases hbq : b = q
      · subst hbq; rw [pk_us, if_pos rfl]
      · rw [pk_un hbq, if_neg hbq]; exact e5 b hb
    · rw [cntP_in o2.2 hC]
      by_cases hap : a = pe
      · subst hap; rw [pk_us, if_pos rfl]
      · rw [pk_un hap, if_neg hap]; exact e7 a ha
    · rw [hUp_n q3, k6 b q1 q2]
theorem c_X7_remove {tr ca cp cb u : Nat} {T : RF} {D : UD} {E : Nat → Nat} {C : Nat → Nat → Option Nat} (ht : isTree g h tr ca cp cb T.1 C) (hr : isRt g h T D E u) (hD : dOk D u) (hC : C (D.1 u) (D.2.1 u) = some u) : MVo l g A h yX7_remove cX7_remove 4 2 0 0 [.ref tr, .ref (T.1 u)] (fun h1 => isTree g h1 tr ca cp cb T.1 (cUp C (D.1 u) (D.2.1 u) none) ∧ ∀ b, b ≠ ca → b ≠ cp → b ≠ cb → h1 b = h b) := by
  obtain ⟨e1, ⟨f1, e2, e3⟩, ⟨f2, e4, e5⟩, ⟨f3, e6, e7⟩⟩ := ht
  obtain ⟨r1, r2, r3⟩ := hr
  unfold isPfx at r2
  obtain ⟨o1, o2, o3, o4⟩ := hD
  generalize hpe : D.1 u = pe at *
  generalize hq : D.2.1 u = q at *
  have n1 : tr ≠ ca := ne_of2 e1 e2 (fun z => by cases z)
  have n2 : tr ≠ cp := ne_of2 e1 e4 (fun z => by cases z)
  have n3 : tr ≠ cb := ne_of2 e1 e6 (fun z => by cases z)
  have n4 : ca ≠ cp := fun z => by
    rw [z, e4] at e2
    have := congrArg (fun o : Option va_E => match o with | some (.inl (_, _, .inl _)) => true | _ => false) e2
    simp at this
  have n5 : ca ≠ cb := fun z => by
    rw [z, e6] at e2
    have := congrArg (fun o : Option va_E => match o with | some (.inl (_, _, .inl _)) => true | _ => false) e2
    simp at this
  have n6 : cp ≠ cb := fun z => by
    rw [z, e6] at e4
    have := congrArg (fun o : Option va_E => match o with | some (.inl (_, n, _)) => n | _ => 0) e4
    simp at this
  have n7 : T.1 u ≠ ca := ne_of2 r1 e2 (fun z => by cases z)
  have n8 : T.1 u ≠ cp := ne_of2 r1 e4 (fun z => by cases z)
  have cQ := cntQ_out (C := C) (p := pe) (q := q) (u := u) o1 hC
  have cP := cntP_out (C := C) (p := pe) (q := q) (u := u) o2.2 hC
  have cq := cQ q
  rw [if_pos rfl] at cq
  have cp' := cP pe
  rw [if_pos rfl] at cp'
  refine j_met (by decide +kernel) (Nat.le_of_ble_eq_true rfl) (fun X F hn hQ => ?_)
  first | refine j_aload_n (pc := 0) F dX7_remove_0 rfl ?_ | refine j_aload_nq (pc := 0) F dX7_remove_0 rfl ?_
  refine j_getN (pc := 1) F fn_X7_28 (by first | assumption | exact hUp_s) (by rfl) dX7_remove_1 ?_
  refine j_getN (pc := 4) F fn_X7_32 (by first | assumption | exact hUp_s) (by rfl) dX7_remove_4 ?_
  refine j_istore_n (pc := 7) F dX7_remove_7 (by decide) ?_
  first | refine j_aload_n (pc := 8) F dX7_remove_8 rfl ?_ | refine j_aload_nq (pc := 8) F dX7_remove_8 rfl ?_
  refine j_getN (pc := 9) F fn_X7_38 (by first | assumption | exact hUp_s) (by rfl) dX7_remove_9 ?_
  refine j_iload_n (pc := 12) F dX7_remove_12 rfl ?_
  refine j_ri (j_runS (pc := 13) F (c_X7_cellOf o1 o2) m_X7_cellOf ms_X7_cellOf lk_X7_24 ⟨by decide, by decide⟩ (Nat.le_of_ble_eq_true rfl) ⟨by omega, by omega⟩ rfl dX7_remove_13) (fun r h1 hp1 => ?_)
  obtain ⟨rfl, rfl⟩ := hp1
  refine j_istore_n (pc := 16) F dX7_remove_16 (by decide) ?_
  refine j_iload_n (pc := 17) F dX7_remove_17 rfl ?_
  refine j_iconst (pc := 18) (v := (-1)) F dX7_remove_18 (by decide) ?_
  refine j_icmp_eqNI (pc := 19) F 62 dX7_remove_19 (by decide) (by omega) (fun c => ?_) (fun c => ?_)
  · rw [q_m1] at c; omega
  · first | refine j_aload_n (pc := 22) F dX7_remove_22 rfl ?_ | refine j_aload_nq (pc := 22) F dX7_remove_22 rfl ?_
    refine j_get (pc := 23) F fg_X7_11 (by first | assumption | exact hUp_s) (by rfl) dX7_remove_23 ?_
    refine j_iload_n (pc := 26) F dX7_remove_26 rfl ?_
    first | refine j_aldRN (pc := 27) F (by first | assumption | exact hUp_s) (by omega) (by decide) dX7_remove_27 ?_ | refine j_aldEN (pc := 27) F (by first | assumption | exact hUp_s) (by omega) (by decide) dX7_remove_27 ?_ | refine j_aldIIN (pc := 27) F (by first | assumption | exact hUp_s) (by omega) (by decide) dX7_remove_27 ?_
    refine j_refS (a := T.1 u) (by rw [e3 pe q o1 o2.2, hC]; rfl) ?_
    first | refine j_aload_n (pc := 28) F dX7_remove_28 rfl ?_ | refine j_aload_nq (pc := 28) F dX7_remove_28 rfl ?_
    refine j_acmp_ne (pc := 29) (rx := some (T.1 u)) (ry := some (T.1 u)) F 62 dX7_remove_29 (by decide) (fun c => absurd rfl c) (fun _ => ?_)
    first | refine j_aload_n (pc := 32) F dX7_remove_32 rfl ?_ | refine j_aload_nq (pc := 32) F dX7_remove_32 rfl ?_
    refine j_get (pc := 33) F fg_X7_11 (by first | assumption | exact hUp_s) (by rfl) dX7_remove_33 ?_
    refine j_iload_n (pc := 36) F dX7_remove_36 rfl ?_
    refine j_null (pc := 37) F dX7_remove_37 ?_
    refine j_astRnN (pc := 38) F e2 (by omega) (by decide) dX7_remove_38 ?_
    have g1 : hUp h1 ca (aR g 3072 (va_up f1 (pe * 512 + q) none)) tr = some (.inr (7, [.ref ca, .ref cp, .ref cb])) := (hUp_n n1).trans e1
    have g2 : hUp h1 ca (aR g 3072 (va_up f1 (pe * 512 + q) none)) cp = some (aI g 512 f2) := (hUp_n (Ne.symm n4)).trans e4
    have g3 : hUp h1 ca (aR g 3072 (va_up f1 (pe * 512 + q) none)) cb = some (aI g 6 f3) := (hUp_n (Ne.symm n5)).trans e6
    have g4 : hUp h1 ca (aR g 3072 (va_up f1 (pe * 512 + q) none)) (T.1 u) = some (.inr (6, [.int (nI pe), .ref (T.2.1 u), .ref (T.2.2.1 u), .int (nI u), .int (nI (E u))])) := (hUp_n n7).trans r1
    have g5 : hUp h1 ca (aR g 3072 (va_up f1 (pe * 512 + q) none)) ca = some (aR g 3072 (va_up f1 (pe * 512 + q) none)) := hUp_s
    have g6 : ∀ b, b ≠ ca → hUp h1 ca (aR g 3072 (va_up f1 (pe * 512 + q) none)) b = h1 b := fun b q => hUp_n q
    generalize hUp h1 ca (aR g 3072 (va_up f1 (pe * 512 + q) none)) = h2 at g1 g2 g3 g4 g5 g6 ⊢
    first | refine j_aload_n (pc := 39) F dX7_remove_39 rfl ?_ | refine j_aload_nq (pc := 39) F dX7_remove_39 rfl ?_
    refine j_get (pc := 40) F fg_X7_17 (by first | assumption | exact hUp_s) (by rfl) dX7_remove_40 ?_
    refine j_iload_n (pc := 43) F dX7_remove_43 rfl ?_
    refine j_dup2_11 (pc := 44) F dX7_remove_44 rfl rfl ?_
    refine j_ialdN (pc := 45) F g2 (by omega) (by decide) dX7_remove_45 ?_
    rw [e5 q o2.2]
    refine j_iconst (pc := 46) (v := (nI 1)) F dX7_remove_46 (by decide) ?_
    first | refine j_isubN (pc := 47) F dX7_remove_47 (by omega) ?_ | refine j_isub (pc := 47) F dX7_remove_47 ?_
    refine j_iastN (pc := 48) F (by first | assumption | exact hUp_s) (by omega) (by decide) dX7_remove_48 ?_
    have k1 : hUp h2 cp (aI g 512 (upd f2 q (nI (cntQ C q - 1)))) tr = some (.inr (7, [.ref ca, .ref cp, .ref cb])) := (hUp_n n2).trans g1
    have k3 : hUp h2 cp (aI g 512 (upd f2 q (nI (cntQ C q - 1)))) cb = some (aI g 6 f3) := (hUp_n (Ne.symm n6)).trans g3
    have k4 : hUp h2 cp (aI g 512 (upd f2 q (nI (cntQ C q - 1)))) (T.1 u) = some (.inr (6, [.int (nI pe), .ref (T.2.1 u), .ref (T.2.2.1 u), .int (nI u), .int (nI (E u))])) := (hUp_n n8).trans g4
    have k5 : hUp h2 cp (aI g 512 (upd f2 q (nI (cntQ C q - 1)))) ca = some (aR g 3072 (va_up f1 (pe * 512 + q) none)) := (hUp_n n4).trans g5
    have k2 : hUp h2 cp (aI g 512 (upd f2 q (nI (cntQ C q - 1)))) cp = some (aI g 512 (upd f2 q (nI (cntQ C q - 1)))) := hUp_s
    have k6 : ∀ b, b ≠ ca → b ≠ cp → hUp h2 cp (aI g 512 (upd f2 q (nI (cntQ C q - 1)))) b = h1 b := fun b q1 q2 => (hUp_n q2).trans (g6 b q1)
    generalize hUp h2 cp (aI g 512 (upd f2 q (nI (cntQ C q - 1)))) = h3 at k1 k2 k3 k4 k5 k6 ⊢
    first | refine j_aload_n (pc := 49) F dX7_remove_49 rfl ?_ | refine j_aload_nq (pc := 49) F dX7_remove_49 rfl ?_
    refine j_get (pc := 50) F fg_X7_21 (by first | assumption | exact hUp_s) (by rfl) dX7_remove_50 ?_
    first | refine j_aload_n (pc := 53) F dX7_remove_53 rfl ?_ | refine j_aload_nq (pc := 53) F dX7_remove_53 rfl ?_
    refine j_getN (pc := 54) F fn_X7_38 (by first | assumption | exact hUp_s) (by rfl) dX7_remove_54 ?_
    refine j_dup2_11 (pc := 57) F dX7_remove_57 rfl rfl ?_
    refine j_ialdN (pc := 58) F (by first | assumption | exact hUp_s) (by omega) (by decide) dX7_remove_58 ?_
    rw [e7 pe o1]
    refine j_iconst (pc := 59) (v := (nI 1)) F dX7_remove_59 (by decide) ?_
    first | refine j_isubN (pc := 60) F dX7_remove_60 (by omega) ?_ | refine j_isub (pc := 60) F dX7_remove_60 ?_
    refine j_iastN (pc := 61) F (by first | assumption | exact hUp_s) (by omega) (by decide) dX7_remove_61 ?_
    refine j_vret F hQ rfl (by omega) (by omega) dX7_remove_62 ⟨⟨?_, ⟨va_up f1 (pe * 512 + q) none, ?_, fun a b ha hb => ?_⟩, ⟨upd f2 q (nI (cntQ C q - 1)), ?_, fun b hb => ?_⟩, ⟨_, hUp_s, fun a ha => ?_⟩⟩, fun b q1 q2 q3 => ?_⟩
    · rw [hUp_n n3, k1]
    · rw [hUp_n n5, k5]
    · by_cases hab : a = pe ∧ b = q
      · rw [hab.1, hab.2, va_up_self, cUp_s]; rfl
      · rw [va_up_ne _ _ (by omega), cUp_n hab]; exact e3 a b ha hb
    · rw [hUp_n n6, k2]
    · have := cQ b
      by_cases hbq : b = q
      · subst hbq; rw [pk_us, cq, Nat.add_sub_cancel]
      · rw [if_neg hbq] at this; rw [pk_un hbq, e5 b hb, this]
    · have := cP a
      by_cases hap : a = pe
      · subst hap; rw [pk_us, cp', Nat.add_sub_cancel]
      · rw [if_neg hap] at this; rw [pk_un hap, e7 a ha, this]
    · rw [hUp_n q3, k6 b q1 q2]
theorem c_X7_longestLengthFor {tr ca cp cb a : Nat} {rA : Nat → Nat} {C : Nat → Nat → Option Nat} (ht : isTree g h tr ca cp cb rA C) (ha : a < 256) : MI l g A h yX7_longestLengthFor cX7_longestLengthFor 4 (some .int) 2 0 0 [.ref tr, .int (nI a)] (fun r h1 => r = lastL (fun i => decide (0 < cntQ C (pnN a i))) 9 ∧ h1 = h) := by
  have e1 := ht.1
  refine j_met (by decide +kernel) (Nat.le_of_ble_eq_true rfl) (fun X F hn hQ => ?_)
  refine j_iconst (pc := 0) (v := (-1)) F dX7_longestLengthFor_0 (by decide) ?_
  refine j_istore_n (pc := 1) F dX7_longestLengthFor_1 (by decide) ?_
  refine j_iconst (pc := 2) (v := (nI 0)) F dX7_longestLengthFor_2 (by decide) ?_
  refine j_istore_n (pc := 3) F dX7_longestLengthFor_3 (by decide) ?_
  have loop : ∀ m i (lv : List (Nat × Value)), 9 < i + m → i ≤ 9 → lall lv [(0, .ref tr), (1, .int (nI a)), (2, .int (lastL (fun i => decide (0 < cntQ C (pnN a i))) i)), (3, .int (nI i))] → J l X g A 4 0 0 h 4 lv [] := by
    intro m
    induction m with
    | zero => intro i lv q1 q2; omega
    | succ m ih =>
      intro i lv q1 q2 q3
      refine j_lv _ q3 ?_
      refine j_iload_n (pc := 4) F dX7_longestLengthFor_4 rfl ?_
      refine j_bipush (pc := 5) (v := (nI 8)) F dX7_longestLengthFor_5 (by decide) ?_
      first | refine j_icmp_gtN (pc := 7) F 30 dX7_longestLengthFor_7 (by decide) (by omega) (by omega) (fun c => ?_) (fun c => ?_) | refine j_icmp_gtIN (pc := 7) F 30 dX7_longestLengthFor_7 (by decide) (by omega) (fun c => ?_) (fun c => ?_) | refine j_icmp_gtNI (pc := 7) F 30 dX7_longestLengthFor_7 (by decide) (by omega) (fun c => ?_) (fun c => ?_) | refine j_icmp_gtI (pc := 7) F 30 dX7_longestLengthFor_7 (by decide) (fun c => ?_) (fun c => ?_)
      · have : i = 9 := by omega
        subst this
        refine j_iload_n (pc := 30) F dX7_longestLengthFor_30 rfl ?_
        exact j_iret F hQ rfl rfl (by omega) (by omega) dX7_longestLengthFor_31 ⟨rfl, rfl⟩
      · first | refine j_aload_n (pc := 10) F dX7_longestLengthFor_10 rfl ?_ | refine j_aload_nq (pc := 10) F dX7_longestLengthFor_10 rfl ?_
        refine j_iload_n (pc := 11) F dX7_longestLengthFor_11 rfl ?_
        refine j_iload_n (pc := 12) F dX7_longestLengthFor_12 rfl ?_
        refine j_ri (j_runSN (pc := 13) F (c_X8_prefixNumber (nI a) (nI i)) m_X8_prefixNumber ms_X8_prefixNumber ln_X7_56 ⟨by decide, by decide⟩ (Nat.le_of_ble_eq_true rfl) ⟨by omega, by omega⟩ rfl dX7_longestLengthFor_13) (fun r h1 hp1 => ?_)
        obtain ⟨rfl, rfl⟩ := hp1
        rw [pnum_nI ha (by omega)]
        refine j_ri (j_runV (pc := 16) F (c_X7_isThere ht (pnN_in ha (by omega))) m_X7_isThere mv_X7_isThere lk_X7_45 (by first | assumption | exact hUp_s) rfl ⟨by decide, by decide⟩ (Nat.le_of_ble_eq_true rfl) ⟨by omega, by omega⟩ rfl dX7_longestLengthFor_16) (fun r h2 hp1 => ?_)
        obtain ⟨rfl, rfl⟩ := hp1
        first | refine j_if_eqB (pc := 19) F 24 dX7_longestLengthFor_19 (by decide) (fun c2 => ?_) (fun c2 => ?_) | refine j_if_eqN (pc := 19) F 24 dX7_longestLengthFor_19 (by decide) (by omega) (fun c2 => ?_) (fun c2 => ?_) | refine j_if_eqI (pc := 19) F 24 dX7_longestLengthFor_19 (by decide) (fun c2 => ?_) (fun c2 => ?_)
        · first | refine j_iincN (pc := 24) F dX7_longestLengthFor_24 rfl (by decide) ?_ | refine j_iincM (pc := 24) F dX7_longestLengthFor_24 rfl (by decide) ?_ | refine j_iinc (pc := 24) F dX7_longestLengthFor_24 rfl rfl (by decide) ?_
          refine j_goto (pc := 27) F 4 dX7_longestLengthFor_27 (by decide) ?_
          refine ih (i + 1) _ (by omega) (by omega) ⟨rfl, rfl, ?_, rfl, trivial⟩
          rw [show lastL (fun i => decide (0 < cntQ C (pnN a i))) (i + 1) = lastL (fun i => decide (0 < cntQ C (pnN a i))) i by rw [lastL, if_neg (by rw [c2]; simp)]]
          rfl
        · refine j_iload_n (pc := 22) F dX7_longestLengthFor_22 rfl ?_
          refine j_istore_n (pc := 23) F dX7_longestLengthFor_23 (by decide) ?_
          first | refine j_iincN (pc := 24) F dX7_longestLengthFor_24 rfl (by decide) ?_ | refine j_iincM (pc := 24) F dX7_longestLengthFor_24 rfl (by decide) ?_ | refine j_iinc (pc := 24) F dX7_longestLengthFor_24 rfl rfl (by decide) ?_
          refine j_goto (pc := 27) F 4 dX7_longestLengthFor_27 (by decide) ?_
          refine ih (i + 1) _ (by omega) (by omega) ⟨rfl, rfl, ?_, rfl, trivial⟩
          rw [show lastL (fun i => decide (0 < cntQ C (pnN a i))) (i + 1) = nI i by rw [lastL, if_pos c2]]
          rfl
  exact loop 10 0 _ (by omega) (by omega) ⟨rfl, rfl, rfl, rfl, trivial⟩
theorem c_X7_nearestAbove {tr ca cp cb q : Nat} {rA : Nat → Nat} {C : Nat → Nat → Option Nat} (ht : isTree g h tr ca cp cb rA C) (hq : 1 ≤ q ∧ q < 512) : MI l g A h yX7_nearestAbove cX7_nearestAbove 3 (some .int) 2 0 0 [.ref tr, .int (nI q)] (fun r h1 => r = (if nab (fun a => decide (0 < cntQ C a)) 9 (q / 2) = 0 then -1 else nI (nab (fun a => decide (0 < cntQ C a)) 9 (q / 2))) ∧ h1 = h) := by
  have e1 := ht.1
  have dv : ∀ a, a < 2 ^ 31 → nI a / nI 2 = nI (a / 2) := fun a ha => pk_div ha (by decide) (by decide)
  refine j_met (by decide +kernel) (Nat.le_of_ble_eq_true rfl) (fun X F hn hQ => ?_)
  refine j_iload_n (pc := 0) F dX7_nearestAbove_0 rfl ?_
  refine j_iconst (pc := 1) (v := (nI 2)) F dX7_nearestAbove_1 (by decide) ?_
  refine j_idiv (pc := 2) F dX7_nearestAbove_2 (by decide) ?_
  rw [dv q (by omega)]
  refine j_istore_n (pc := 3) F dX7_nearestAbove_3 (by decide) ?_
  have loop : ∀ m a (lv : List (Nat × Value)), a < 2 ^ m → a < 512 → lall lv [(0, .ref tr), (1, .int (nI q)), (2, .int (nI a))] → (if nab (fun a => decide (0 < cntQ C a)) (m + 1) a = 0 then (-1 : Int32) else nI (nab (fun a => decide (0 < cntQ C a)) (m + 1) a)) = (if nab (fun a => decide (0 < cntQ C a)) 9 (q / 2) = 0 then -1 else nI (nab (fun a => decide (0 < cntQ C a)) 9 (q / 2))) → J l X g A 3 0 0 h 4 lv [] := by
    intro m
    induction m with
    | zero =>
      intro a lv q1 q2 q3 q4
      have : a = 0 := by omega
      subst this
      refine j_lv _ q3 ?_
      refine j_iload_n (pc := 4) F dX7_nearestAbove_4 rfl ?_
      refine j_iconst (pc := 5) (v := (nI 1)) F dX7_nearestAbove_5 (by decide) ?_
      refine j_icmp_ltN (pc := 6) F 26 dX7_nearestAbove_6 (by decide) (by omega) (by omega) (fun c => ?_) (fun c => ?_)
      · refine j_iconst (pc := 26) (v := (-1)) F dX7_nearestAbove_26 (by decide) ?_
        exact j_iret F hQ rfl rfl (by omega) (by omega) dX7_nearestAbove_27 ⟨by rw [← q4]; rfl, rfl⟩
      · omega
    | succ m ih =>
      intro a lv q1 q2 q3 q4
      refine j_lv _ q3 ?_
      refine j_iload_n (pc := 4) F dX7_nearestAbove_4 rfl ?_
      refine j_iconst (pc := 5) (v := (nI 1)) F dX7_nearestAbove_5 (by decide) ?_
      refine j_icmp_ltN (pc := 6) F 26 dX7_nearestAbove_6 (by decide) (by omega) (by omega) (fun c => ?_) (fun c => ?_)
      · have : a = 0 := by omega
        subst this
        refine j_iconst (pc := 26) (v := (-1)) F dX7_nearestAbove_26 (by decide) ?_
        exact j_iret F hQ rfl rfl (by omega) (by omega) dX7_nearestAbove_27 ⟨by rw [← q4]; rfl, rfl⟩
      · first | refine j_aload_n (pc := 9) F dX7_nearestAbove_9 rfl ?_ | refine j_aload_nq (pc := 9) F dX7_nearestAbove_9 rfl ?_
        refine j_iload_n (pc := 10) F dX7_nearestAbove_10 rfl ?_
        refine j_ri (j_runV (pc := 11) F (c_X7_isThere ht ⟨c, q2⟩) m_X7_isThere mv_X7_isThere lk_X7_45 (by first | assumption | exact hUp_s) rfl ⟨by decide, by decide⟩ (Nat.le_of_ble_eq_true rfl) ⟨by omega, by omega⟩ rfl dX7_nearestAbove_11) (fun r h1 hp1 => ?_)
        obtain ⟨rfl, rfl⟩ := hp1
        first | refine j_if_eqB (pc := 14) F 19 dX7_nearestAbove_14 (by decide) (fun c2 => ?_) (fun c2 => ?_) | refine j_if_eqN (pc := 14) F 19 dX7_nearestAbove_14 (by decide) (by omega) (fun c2 => ?_) (fun c2 => ?_) | refine j_if_eqI (pc := 14) F 19 dX7_nearestAbove_14 (by decide) (fun c2 => ?_) (fun c2 => ?_)
        · refine j_iload_n (pc := 19) F dX7_nearestAbove_19 rfl ?_
          refine j_iconst (pc := 20) (v := (nI 2)) F dX7_nearestAbove_20 (by decide) ?_
          refine j_idiv (pc := 21) F dX7_nearestAbove_21 (by decide) ?_
          rw [dv a (by omega)]
          refine j_istore_n (pc := 22) F dX7_nearestAbove_22 (by decide) ?_
          refine j_goto (pc := 23) F 4 dX7_nearestAbove_23 (by decide) ?_
          refine ih (a / 2) _ (by rw [Nat.pow_succ] at q1; omega) (by omega) ⟨rfl, rfl, rfl, trivial⟩ ?_
          rw [← q4, show nab (fun a => decide (0 < cntQ C a)) (m + 1 + 1) a = nab (fun a => decide (0 < cntQ C a)) (m + 1) (a / 2) by rw [nab, if_neg (by omega), if_neg (by rw [c2]; simp)]]
        · refine j_iload_n (pc := 17) F dX7_nearestAbove_17 rfl ?_
          refine j_iret F hQ rfl rfl (by omega) (by omega) dX7_nearestAbove_18 ⟨?_, rfl⟩
          rw [← q4, show nab (fun a => decide (0 < cntQ C a)) (m + 1 + 1) a = a by rw [nab, if_neg (by omega), if_pos c2], if_neg (by omega)]
  exact loop 8 (q / 2) _ (by omega) (by omega) ⟨rfl, rfl, rfl, trivial⟩ rfl
theorem c_X7_originBits {tr ca cp cb q : Nat} {T : RF} {D : UD} {E : Nat → Nat} {C : Nat → Nat → Option Nat} (ht : isTree g h tr ca cp cb T.1 C) (hL : isLive g h T D E C) (hq : 1 ≤ q ∧ q < 512) : MI l g A h yX7_originBits cX7_originBits 5 (some .int) 3 0 0 [.ref tr, .int (nI q)] (fun r h1 => r = nI (obits (ogn D) (fun p => C p q) 6) ∧ h1 = h) := by
  have e1 := ht.1
  refine j_met (by decide +kernel) (Nat.le_of_ble_eq_true rfl) (fun X F hn hQ => ?_)
  first | refine j_aload_n (pc := 0) F dX7_originBits_0 rfl ?_ | refine j_aload_nq (pc := 0) F dX7_originBits_0 rfl ?_
  refine j_iload_n (pc := 1) F dX7_originBits_1 rfl ?_
  refine j_ri (j_runV (pc := 2) F (c_X7_isThere ht hq) m_X7_isThere mv_X7_isThere lk_X7_45 (by first | assumption | exact hUp_s) rfl ⟨by decide, by decide⟩ (Nat.le_of_ble_eq_true rfl) ⟨by omega, by omega⟩ rfl dX7_originBits_2) (fun r h1 hp1 => ?_)
  obtain ⟨rfl, rfl⟩ := hp1
  first | refine j_if_neB (pc := 5) F 10 dX7_originBits_5 (by decide) (fun c => ?_) (fun c => ?_) | refine j_if_neN (pc := 5) F 10 dX7_originBits_5 (by decide) (by omega) (fun c => ?_) (fun c => ?_) | refine j_if_neI (pc := 5) F 10 dX7_originBits_5 (by decide) (fun c => ?_) (fun c => ?_)
  · refine j_iconst (pc := 10) (v := (nI 0)) F dX7_originBits_10 (by decide) ?_
    refine j_istore_n (pc := 11) F dX7_originBits_11 (by decide) ?_
    refine j_iconst (pc := 12) (v := (nI 0)) F dX7_originBits_12 (by decide) ?_
    refine j_istore_n (pc := 13) F dX7_originBits_13 (by decide) ?_
    have loop : ∀ m i (lv : List (Nat × Value)), 6 < i + m → i ≤ 6 → lall lv [(0, .ref tr), (1, .int (nI q)), (2, .int (nI (obits (ogn D) (fun p => C p q) i))), (3, .int (nI i))] → J l X g A 5 (0 + 0) (0 + 0) h1 14 lv [] := by
      intro m
      induction m with
      | zero => intro i lv q1 q2; omega
      | succ m ih =>
        intro i lv q1 q2 q3
        refine j_lv _ q3 ?_
        refine j_iload_n (pc := 14) F dX7_originBits_14 rfl ?_
        refine j_bipush (pc := 15) (v := (nI 6)) F dX7_originBits_15 (by decide) ?_
        first | refine j_icmp_geN (pc := 17) F 52 dX7_originBits_17 (by decide) (by omega) (by omega) (fun c2 => ?_) (fun c2 => ?_) | refine j_icmp_geIN (pc := 17) F 52 dX7_originBits_17 (by decide) (by omega) (fun c2 => ?_) (fun c2 => ?_) | refine j_icmp_geNI (pc := 17) F 52 dX7_originBits_17 (by decide) (by omega) (fun c2 => ?_) (fun c2 => ?_) | refine j_icmp_geI (pc := 17) F 52 dX7_originBits_17 (by decide) (fun c2 => ?_) (fun c2 => ?_)
        · have : i = 6 := by omega
          subst this
          refine j_iload_n (pc := 52) F dX7_originBits_52 rfl ?_
          exact j_iret F hQ rfl rfl (by omega) (by omega) dX7_originBits_53 ⟨rfl, rfl⟩
        · first | refine j_aload_n (pc := 20) F dX7_originBits_20 rfl ?_ | refine j_aload_nq (pc := 20) F dX7_originBits_20 rfl ?_
          refine j_iload_n (pc := 21) F dX7_originBits_21 rfl ?_
          refine j_iload_n (pc := 22) F dX7_originBits_22 rfl ?_
          refine j_rq (j_runV (pc := 23) F (c_X7_routeOf ht (show i < 6 by omega) hq) m_X7_routeOf mv_X7_routeOf lk_X7_48 (by first | assumption | exact hUp_s) rfl ⟨by decide, by decide⟩ (Nat.le_of_ble_eq_true rfl) ⟨by omega, by omega⟩ rfl dX7_originBits_23) (fun r h2 hp1 => ?_)
          obtain ⟨rfl, rfl⟩ := hp1
          cases hc : C i q with
          | none =>
            refine j_refN rfl ?_
            first | refine j_astore (pc := 26) F dX7_originBits_26 (by decide) ?_ | refine j_astoreq (pc := 26) F dX7_originBits_26 (by decide) ?_ | refine j_astoreN (pc := 26) F dX7_originBits_26 (by decide) ?_
            refine j_aloadN (pc := 28) F dX7_originBits_28 rfl ?_
            refine j_ifnullN (pc := 30) F 46 dX7_originBits_30 (by decide) ?_
            first | refine j_iincN (pc := 46) F dX7_originBits_46 rfl (by decide) ?_ | refine j_iincM (pc := 46) F dX7_originBits_46 rfl (by decide) ?_ | refine j_iinc (pc := 46) F dX7_originBits_46 rfl rfl (by decide) ?_
            refine j_goto (pc := 49) F 14 dX7_originBits_49 (by decide) ?_
            refine ih (i + 1) _ (by omega) (by omega) ⟨rfl, rfl, ?_, rfl, trivial⟩
            rw [show obits (ogn D) (fun p => C p q) (i + 1) = obits (ogn D) (fun p => C p q) i by rw [obits, hc]]
            rfl
          | some u =>
            obtain ⟨w1, w2, w3, w4, w5, w6⟩ := hL i q u (by omega) hq.2 hc
            have w7 := w1.1
            have w8 := w1.2.2
            obtain ⟨y1, w9, y3⟩ := id w8
            have hz := w2.2.2.1.1
            have hog := (w2.2.2.2 (D.2.2.1 u - 1) (by omega)).2
            refine j_refS rfl ?_
            first | refine j_astore (pc := 26) F dX7_originBits_26 (by decide) ?_ | refine j_astoreq (pc := 26) F dX7_originBits_26 (by decide) ?_ | refine j_astoreN (pc := 26) F dX7_originBits_26 (by decide) ?_
            first | refine j_aload (pc := 28) F dX7_originBits_28 rfl ?_ | refine j_aloadq (pc := 28) F dX7_originBits_28 rfl ?_
            refine j_ifnull (pc := 30) F dX7_originBits_30 ?_
            refine j_iload_n (pc := 33) F dX7_originBits_33 rfl ?_
            refine j_iconst (pc := 34) (v := (nI 1)) F dX7_originBits_34 (by decide) ?_
            first | refine j_aload (pc := 35) F dX7_originBits_35 rfl ?_ | refine j_aloadq (pc := 35) F dX7_originBits_35 rfl ?_
            refine j_getN (pc := 37) F fn_X7_68 (by first | assumption | exact hUp_s) (by rfl) dX7_originBits_37 ?_
            refine j_ri (j_runV (pc := 40) F (c_X2_origin w8) m_X2_origin mv_X2_origin lk_X7_72 (by first | assumption | exact hUp_s) rfl ⟨by decide, by decide⟩ (Nat.le_of_ble_eq_true rfl) ⟨by omega, by omega⟩ rfl dX7_originBits_40) (fun r h6 hp1 => ?_)
            obtain ⟨rfl, rfl⟩ := hp1
            rw [pAt_last hz]
            refine j_ishl (pc := 43) F dX7_originBits_43 ?_
            refine j_int (pk_shlN _ (D.2.2.2 u (D.2.2.1 u - 1)) (sh_ok _ (by omega)) ?_) ?_
            · rw [Nat.one_mul]; exact Nat.pow_lt_pow_right (by omega) (by omega)
            · rw [Nat.one_mul]
              refine j_ior (pc := 44) F dX7_originBits_44 ?_
              refine j_int (fa_or _ _) ?_
              refine j_istore_n (pc := 45) F dX7_originBits_45 (by decide) ?_
              first | refine j_iincN (pc := 46) F dX7_originBits_46 rfl (by decide) ?_ | refine j_iincM (pc := 46) F dX7_originBits_46 rfl (by decide) ?_ | refine j_iinc (pc := 46) F dX7_originBits_46 rfl rfl (by decide) ?_
              refine j_goto (pc := 49) F 14 dX7_originBits_49 (by decide) ?_
              refine ih (i + 1) _ (by omega) (by omega) ⟨rfl, rfl, ?_, rfl, trivial⟩
              rw [show obits (ogn D) (fun p => C p q) (i + 1) = obits (ogn D) (fun p => C p q) i ||| 2 ^ ogn D u by rw [obits, hc]]
              rfl
    exact loop 7 0 _ (by omega) (by omega) ⟨rfl, rfl, rfl, rfl, trivial⟩
  · refine j_iconst (pc := 8) (v := (nI 0)) F dX7_originBits_8 (by decide) ?_
    refine j_iret F hQ rfl rfl (by omega) (by omega) dX7_originBits_9 ⟨?_, rfl⟩
    rw [obits_0 (fun p hp => ?_)]
    have h0 := of_decide_eq_false c
    unfold cntQ at h0
    rw [cnt_pos] at h0
    cases hc : C p q with
    | none => rfl
    | some u => exact absurd ⟨p, hp, by rw [hc]; rfl⟩ h0
theorem c_X7_countOrigins {tr ca cp cb q : Nat} {T : RF} {D : UD} {E : Nat → Nat} {C : Nat → Nat → Option Nat} (ht : isTree g h tr ca cp cb T.1 C) (hL : isLive g h T D E C) (hq : 1 ≤ q ∧ q < 512) : MI l g A h yX7_countOrigins cX7_countOrigins 2 (some .int) 4 0 0 [.ref tr, .int (nI q)] (fun r h1 => r = bcI (nI (obits (ogn D) (fun p => C p q) 6)) ∧ h1 = h) := by
  have e1 := ht.1
  refine j_met (by decide +kernel) (Nat.le_of_ble_eq_true rfl) (fun X F hn hQ => ?_)
  first | refine j_aload_n (pc := 0) F dX7_countOrigins_0 rfl ?_ | refine j_aload_nq (pc := 0) F dX7_countOrigins_0 rfl ?_
  refine j_iload_n (pc := 1) F dX7_countOrigins_1 rfl ?_
  refine j_ri (j_runV (pc := 2) F (c_X7_originBits ht hL hq) m_X7_originBits mv_X7_originBits lk_X7_59 (by first | assumption | exact hUp_s) rfl ⟨by decide, by decide⟩ (Nat.le_of_ble_eq_true rfl) ⟨by omega, by omega⟩ rfl dX7_countOrigins_2) (fun r h1 hp1 => ?_)
  obtain ⟨rfl, rfl⟩ := hp1
  refine j_ri (j_runS (pc := 5) F (c_J6_bitCount _) m_J6_bitCount_0f7a4 ms_J6_bitCount_0f7a4 lk_X7_63 ⟨by decide, by decide⟩ (Nat.le_of_ble_eq_true rfl) ⟨by omega, by omega⟩ rfl dX7_countOrigins_5) (fun r h2 hp1 => ?_)
  obtain ⟨rfl, rfl⟩ := hp1
  exact j_iret F hQ rfl rfl (by omega) (by omega) dX7_countOrigins_8 ⟨rfl, rfl⟩
theorem c_X7_hasOrigin {tr ca cp cb q o : Nat} {T : RF} {D : UD} {E : Nat → Nat} {C : Nat → Nat → Option Nat} (ht : isTree g h tr ca cp cb T.1 C) (hL : isLive g h T D E C) (hq : 1 ≤ q ∧ q < 512) (ho : o ≤ 30) : MI l g A h yX7_hasOrigin cX7_hasOrigin 3 (some .boolean) 4 0 0 [.ref tr, .int (nI q), .int (nI o)] (fun r h1 => r = bI ((obits (ogn D) (fun p => C p q) 6).testBit o) ∧ h1 = h) := by
  have e1 := ht.1
  have hb : obits (ogn D) (fun p => C p q) 6 < 2 ^ 31 := obits_lt (fun p u hp hc => by
    obtain ⟨w1, w2, w3, w4, w5, w6⟩ := hL p q u hp hq.2 hc
    have hz := w2.2.2.1.1
    exact (w2.2.2.2 (D.2.2.1 u - 1) (by omega)).2)
  have hb2 : obits (ogn D) (fun p => C p q) 6 &&& 2 ^ o < 2 ^ 31 := Nat.lt_of_le_of_lt Nat.and_le_left hb
  refine j_met (by decide +kernel) (Nat.le_of_ble_eq_true rfl) (fun X F hn hQ => ?_)
  first | refine j_aload_n (pc := 0) F dX7_hasOrigin_0 rfl ?_ | refine j_aload_nq (pc := 0) F dX7_hasOrigin_0 rfl ?_
  refine j_iload_n (pc := 1) F dX7_hasOrigin_1 rfl ?_
  refine j_ri (j_runV (pc := 2) F (c_X7_originBits ht hL hq) m_X7_originBits mv_X7_originBits lk_X7_59 (by first | assumption | exact hUp_s) rfl ⟨by decide, by decide⟩ (Nat.le_of_ble_eq_true rfl) ⟨by omega, by omega⟩ rfl dX7_hasOrigin_2) (fun r h1 hp1 => ?_)
  obtain ⟨rfl, rfl⟩ := hp1
  refine j_iconst (pc := 5) (v := (nI 1)) F dX7_hasOrigin_5 (by decide) ?_
  refine j_iload_n (pc := 6) F dX7_hasOrigin_6 rfl ?_
  refine j_ishl (pc := 7) F dX7_hasOrigin_7 ?_
  refine j_int (pk_shlN _ o (sh_ok _ (by omega)) ?_) ?_
  · rw [Nat.one_mul]; exact Nat.pow_lt_pow_right (by omega) (by omega)
  · rw [Nat.one_mul]
    refine j_iand (pc := 8) F dX7_hasOrigin_8 ?_
    refine j_int (fa_and _ _) ?_
    first | refine j_if_eqB (pc := 9) F 16 dX7_hasOrigin_9 (by decide) (fun c => ?_) (fun c => ?_) | refine j_if_eqN (pc := 9) F 16 dX7_hasOrigin_9 (by decide) (by omega) (fun c => ?_) (fun c => ?_) | refine j_if_eqI (pc := 9) F 16 dX7_hasOrigin_9 (by decide) (fun c => ?_) (fun c => ?_)
    · refine j_iconst (pc := 16) (v := (nI 0)) F dX7_hasOrigin_16 (by decide) ?_
      refine j_iret F hQ rfl rfl (by omega) (by omega) dX7_hasOrigin_17 ⟨?_, rfl⟩
      rw [(nd_bit _ _).mp c]; rfl
    · refine j_iconst (pc := 12) (v := (nI 1)) F dX7_hasOrigin_12 (by decide) ?_
      refine j_goto (pc := 13) F 17 dX7_hasOrigin_13 (by decide) ?_
      refine j_iret F hQ rfl rfl (by omega) (by omega) dX7_hasOrigin_17 ⟨?_, rfl⟩
      cases hb3 : (obits (ogn D) (fun p => C p q) 6).testBit o with
      | true => rfl
      | false => exact absurd ((nd_bit _ _).mpr hb3) c
end TREE2
end
