theorem up_mg {h1 : HF} {y : Nat} {e : va_E} (hy : h1 y = none) : hUp h1 y e = mg h1 (sg y e) ∧ dj h1 (sg y e) := by
  refine ⟨?_, fun a x ha => ?_⟩
  · funext a
    unfold mg
    by_cases c : a = y
    · subst c
      rw [hy, hUp_s, show sg a e a = some e from hUp_s]
    · rw [hUp_n c, show sg y e a = none from hUp_n c]
      cases h1 a <;> rfl
  · by_cases c : a = y
    · rw [c]; exact hy
    · rw [show sg y e a = none from hUp_n c] at ha; cases ha
theorem li_0 {h1 u : HF} {o : Nat} {e : va_E} (d : dj h1 u) (ho : mg h1 u o = none) : hUp (mg h1 u) o e = mg u (mg (sg o e) h1) ∧ dj (sg o e) h1 ∧ dj u (mg (sg o e) h1) := by
  have z : h1 o = none ∧ u o = none := by
    unfold mg at ho
    cases c : h1 o with
    | none => rw [c] at ho; exact ⟨rfl, ho⟩
    | some x => rw [c] at ho; cases ho
  refine ⟨?_, fun a x ha => ?_, fun a x ha => ?_⟩
  · funext a
    by_cases c : a = o
    · subst c
      rw [hUp_s]
      unfold mg
      rw [z.2, show sg a e a = some e from hUp_s]
    · rw [hUp_n c]
      unfold mg
      rw [show sg o e a = none from hUp_n c]
      cases hu : u a with
      | none => cases h1 a <;> rfl
      | some w => rw [d a w hu]
  · by_cases c : a = o
    · rw [c, z.1] at ha; cases ha
    · exact hUp_n c
  · by_cases c : a = o
    · rw [c]; exact z.2
    · unfold mg at ha
      rw [show sg o e a = none from hUp_n c] at ha
      cases hu : u a with
      | none => rfl
      | some w => rw [d a w hu] at ha; cases ha
theorem arr_prim {s : State} {args : Array Value} {ty : FieldType} (h : (Cond.arrayClass ty).before args s = true) : ∃ cA : ClassId, ArrOfT s cA ty ∧ s.vm.findClass ("[" ++ ty.toString) = some cA := by
  obtain ⟨c, k, comp, h1, h2, h3⟩ := Cond.arrayClass_spec (show (Cond.arrayClass ty).holds args s none s [] = true from h)
  exact ⟨c, fun N z => ⟨fun k h => (by cases h), k, h2, comp, h3⟩, h1⟩
theorem arr_obj {s : State} {args : Array Value} {C : String} (h : (Cond.arrayOver (.object C)).before args s = true) : ∃ cA : ClassId, ArrOfT s cA (.object C) ∧ va_RA s cA (.object C) := by
  obtain ⟨comp, c, k, h1, h2, h3, h4, h5⟩ := Cond.arrayOver_spec (show (Cond.arrayOver (.object C)).holds args s none s [] = true from h)
  exact ⟨c, fun N z => ⟨fun k h => (by cases h), k, h3, comp, h4⟩, k, comp, h3, h4, h1, h5⟩
theorem arr_arr {s : State} {args : Array Value} {t : FieldType} (h : (Cond.arrayOver (.array t)).before args s = true) : ∃ cA : ClassId, ArrOfT s cA (.array t) ∧ s.vm.findClass ("[" ++ (FieldType.array t).toString) = some cA := by
  obtain ⟨comp, c, k, h1, h2, h3, h4, h5⟩ := arrayOver_specB (show (Cond.arrayOver (.array t)).holds args s none s [] = true from h)
  exact ⟨c, fun N z => ⟨fun k h => (by cases h), k, h3, comp, h4⟩, h5⟩
theorem eb_t : ∀ w ∈ eBad, w ∈ lw_tbl := by decide +kernel
theorem eb_o : ∀ w ∈ eBad, w.onTables = true := by decide +kernel
theorem es_t : ∀ x ∈ eStr, Cond.stringRef x.1 x.2.1 x.2.2 ∈ lw_tbl ∧ x.1 = RX8 := by decide +kernel
set_option maxHeartbeats 4000000 in
set_option maxRecDepth 100000 in
theorem whole_start {p : Program} {e : Env} {s : State} {m : MethodId} {below : List Frame} {meth : Method} {c : Code} (l : Launch) (hflags : l.flags = flags0) {b L : Nat} {xs : Nat → Int32} (hL : L ≤ 2560) (C0 : lw_At p s m meth c b L xs) : W p l e room_1 s m #[Value.ref b] below meth c s.heap [] 0 0 (lw_Z below #[Value.ref b] s) (entryFrame m ([Value.ref b] : List Value).toArray 7) := by
  obtain ⟨hx, hb, hr, hml, hown, hts, hX, hbl, hlocks, hgv⟩ := id C0
  have hst : l.stackTraces = false := by unfold Launch.stackTraces; rw [hflags]; decide
  have htu : ∀ w ∈ wU, w.before #[Value.ref b] s = true := fun w hw => hts w (wU_tbl w hw)
  obtain ⟨c0, i0, k0⟩ := u_known (C := RX0) (T := TX0) (N := 3) (n := 3) htu fw_X0 (htu _ iw_X0)
  obtain ⟨c1, i1, k1⟩ := u_known (C := RX1) (T := TX1) (N := 6) (n := 6) htu fw_X1 (htu _ iw_X1)
  obtain ⟨c2, i2, k2⟩ := u_known (C := RX2) (T := TX2) (N := 2) (n := 2) htu fw_X2 (htu _ iw_X2)
  obtain ⟨c3, i3, k3⟩ := u_known (C := RX3) (T := TX3) (N := 2) (n := 2) htu fw_X3 (htu _ iw_X3)
  obtain ⟨c4, i4, k4⟩ := u_known (C := RX4) (T := TX4) (N := 2) (n := 2) htu fw_X4 (htu _ iw_X4)
  obtain ⟨c5, i5, k5⟩ := u_known (C := RX5) (T := TX5) (N := 1) (n := 1) htu fw_X5 (htu _ iw_X5)
  obtain ⟨c6, i6, k6⟩ := u_known (C := RX6) (T := TX6) (N := 5) (n := 5) htu fw_X6 (htu _ iw_X6)
  obtain ⟨c7, i7, k7⟩ := u_known (C := RX7) (T := TX7) (N := 3) (n := 3) htu fw_X7 (htu _ iw_X7)
  obtain ⟨c8, i8, k8⟩ := u_known (C := RX8) (T := TX8) (N := 6) (n := 6) htu fw_X8 (htu _ iw_X8)
  obtain ⟨c9, i9, k9⟩ := u_known (C := RX9) (T := TX9) (N := 16) (n := 16) htu fw_X9 (htu _ iw_X9)
  obtain ⟨dC, dI, hKc⟩ : ∃ (dC : Nat → ClassId) (dI : Nat → Nat → Nat), ∀ (k : Nat) (q : vw_C), vwCl[k]? = some q → u_Kn s q.1 q.2.1 q.2.2 (dC k) (dI k) := by
    refine ⟨fun k => if k = 0 then c0 else if k = 1 then c1 else if k = 2 then c2 else if k = 3 then c3 else if k = 4 then c4 else if k = 5 then c5 else if k = 6 then c6 else if k = 7 then c7 else if k = 8 then c8 else c9, fun k => if k = 0 then i0 else if k = 1 then i1 else if k = 2 then i2 else if k = 3 then i3 else if k = 4 then i4 else if k = 5 then i5 else if k = 6 then i6 else if k = 7 then i7 else if k = 8 then i8 else i9, ?_⟩
    intro k q hq
    match k, hq with
    | 0, hq => cases hq; exact k0
    | 1, hq => cases hq; exact k1
    | 2, hq => cases hq; exact k2
    | 3, hq => cases hq; exact k3
    | 4, hq => cases hq; exact k4
    | 5, hq => cases hq; exact k5
    | 6, hq => cases hq; exact k6
    | 7, hq => cases hq; exact k7
    | 8, hq => cases hq; exact k8
    | 9, hq => cases hq; exact k9
    | k + 10, hq => simp [vwCl] at hq
  obtain ⟨cI, aI1, aI2⟩ := arr_prim (ty := .int) (htu _ aw_int)
  obtain ⟨cJ, aJ1, aJ2⟩ := arr_prim (ty := .long) (htu _ aw_long)
  have o6 : (Cond.arrayOver (.object RX6)).before #[Value.ref b] s = true := hts _ (by decide +kernel)
  have o0 : (Cond.arrayOver (.object RX0)).before #[Value.ref b] s = true := hts _ (by decide +kernel)
  have oi : (Cond.arrayOver (.array .int)).before #[Value.ref b] s = true := hts _ (by decide +kernel)
  obtain ⟨cR, aR1, aR2⟩ := arr_obj o6
  obtain ⟨cE, aE1, aE2⟩ := arr_obj o0
  obtain ⟨cII, aII1, aII2⟩ := arr_arr oi
  obtain ⟨g, hg⟩ : ∃ g : GG, g = ((dC, dI), (cI, cR, cE, cII, cJ)) := ⟨_, rfl⟩
  have hK : va_K g.1 vwCl (gT g) s := by
    subst hg
    refine ⟨hKc, fun k q hk => ?_⟩
    match k, hk with
    | 0, hk => cases hk; exact ⟨aI1, aI2⟩
    | 1, hk => cases hk; exact ⟨aR1, aR2⟩
    | 2, hk => cases hk; exact ⟨aE1, aE2⟩
    | 3, hk => cases hk; exact ⟨aII1, aII2⟩
    | 4, hk => cases hk; exact ⟨aJ1, aJ2⟩
    | k + 5, hk => simp [gT] at hk
  have hgf := flat_of_before _ hgv
  have hnA : ∀ a : Nat, a < s.heap.size → ¬ (fun q : Nat => s.heap.size ≤ q) a := fun a h => Nat.not_le.mpr h
  obtain ⟨cB, kB, hfB, -⟩ := Cond.instantiable_spec (htu _ iw_X8)
  have hE : EV (fun q : Nat => s.heap.size ≤ q) s s.heap := by
    refine ⟨fun w hw => va_Nw.of (eb_o w hw) (hts w (eb_t w hw)), fun q hq => ?_, va_AO.of o6, va_AO.of o0, oi, vx_Zqof (hts _ (by decide +kernel)) (hts _ (by decide +kernel)) (hgf _ (by decide +kernel)) hnA, vx_Zqof (hts _ (by decide +kernel)) (hts _ (by decide +kernel)) (hgf _ (by decide +kernel)) hnA⟩
    have h1 := hts _ (es_t q hq).1
    have h2 : s.vm.findClass q.1 = some cB := by rw [(es_t q hq).2]; exact hfB
    obtain ⟨-, -, -, sa, -, -, -, -, -, hev⟩ := Cond.stringRef_spec h2 h1
    exact ⟨sa, vk_R.of h1 hev⟩
  have hNC : NC s := ⟨va_Nc.of (hgf _ (by decide +kernel)), va_Nc.of (hgf _ (by decide +kernel)), va_Nc.of (hgf _ (by decide +kernel)), va_Nc.of (hgf _ (by decide +kernel)), va_Nc.of (hgf _ (by decide +kernel)), va_Nc.of (hgf _ (by decide +kernel))⟩
  obtain ⟨X, eX⟩ : ∃ X : Cx, X = (p, e, room_1, s, m, #[Value.ref b], below, meth, c, lw_Z below #[.ref b] s) := ⟨_, rfl⟩
  have F : Fx l X g (fun q : Nat => s.heap.size ≤ q) RL cL_law 7 (some .boolean) 12 601024 7293034 := by
    subst eX
    exact ⟨hx, hb, hml, hown, htu, hK, fun q hq => hq, hE, hlocks, hr, (show 12 ≤ room_1.frames by decide), (show 35 * 12 ≤ room_1.locals by decide), rfl, rfl⟩
  have K : J l X g (fun q : Nat => s.heap.size ≤ q) 7 0 0 (fun _ => none) 0 [(0, .ref b)] [] := by
    refine j_new (pc := 0) F (ci := 8) (fs := [.null, .null, .null, .null, .null, .int 0]) tyX8_ok fw_X8 lc_L_8 iw_X8 nw_X8 rfl (fun j hj => by rcases (show j = 0 ∨ j = 1 ∨ j = 2 ∨ j = 3 ∨ j = 4 ∨ j = 5 by omega) with rfl | rfl | rfl | rfl | rfl | rfl <;> rfl) (by omega) (by omega) dL_law_0 (fun x hx0 hAx => ?_)
    refine j_dup (pc := 3) F dL_law_3 rfl ?_
    refine j_rv (j_runI (pc := 4) F (c_X8_init hUp_s) m_X8_init rfl mi_X8_init lk_L_77 ⟨by decide, by decide⟩ (Nat.le_of_ble_eq_true rfl) ⟨by omega, by omega⟩ rfl dL_law_4) (fun h1 hp => ?_)
    first | refine j_astore_n (pc := 7) F dL_law_7 (by decide) ?_ | refine j_astore_nq (pc := 7) F dL_law_7 (by decide) ?_ | refine j_astore_nN (pc := 7) F dL_law_7 (by decide) ?_
    refine j_new (pc := 8) F (ci := 9) (fs := [.int 0, .null, .int 0, .int 0, .null, .null, .null, .null, .null, .null, .int 0, .null, .null, .null, .null, .int 0]) tyX9_ok fw_X9 lc_L_78 iw_X9 nw_X9 rfl (fun j hj => by rcases (show j = 0 ∨ j = 1 ∨ j = 2 ∨ j = 3 ∨ j = 4 ∨ j = 5 ∨ j = 6 ∨ j = 7 ∨ j = 8 ∨ j = 9 ∨ j = 10 ∨ j = 11 ∨ j = 12 ∨ j = 13 ∨ j = 14 ∨ j = 15 by omega) with rfl | rfl | rfl | rfl | rfl | rfl | rfl | rfl | rfl | rfl | rfl | rfl | rfl | rfl | rfl | rfl <;> rfl) (by omega) (by omega) dL_law_8 (fun y hy hAy => ?_)
    obtain ⟨eu, du0⟩ := up_mg (e := .inr (9, [.int 0, .null, .int 0, .int 0, .null, .null, .null, .null, .null, .null, .int 0, .null, .null, .null, .null, .int 0])) hy
    rw [eu]
    refine j_dup (pc := 11) F dL_law_11 rfl ?_
    refine jf_rv (jf_runI (pc := 12) F du0 (c_X9_init (A := Ac _ h1) hUp_s) m_X9_init rfl mi_X9_init lk_L_80 ⟨by decide, by decide⟩ (Nat.le_of_ble_eq_true rfl) ⟨by omega, by omega⟩ rfl dL_law_12) (fun u hM du => ?_)
    first | refine j_astore_n (pc := 15) F dL_law_15 (by decide) ?_ | refine j_astore_nq (pc := 15) F dL_law_15 (by decide) ?_ | refine j_astore_nN (pc := 15) F dL_law_15 (by decide) ?_
    refine j_iconst (pc := 16) (v := (nI 1)) F dL_law_16 (by decide) ?_
    refine j_newaJ (pc := 17) F (N := 1) (by decide) (by decide) (by decide) (by omega) (by omega) dL_law_17 (fun o ho _ => ?_)
    obtain ⟨l1, l2, l3⟩ := li_0 (e := aJ g 1 (fun _ => 0)) du ho
    rw [l1]
    first | refine j_astore_n (pc := 19) F dL_law_19 (by decide) ?_ | refine j_astore_nq (pc := 19) F dL_law_19 (by decide) ?_ | refine j_astore_nN (pc := 19) F dL_law_19 (by decide) ?_
    refine j_iconst (pc := 20) (v := (nI 0)) F dL_law_20 (by decide) ?_
    refine j_istore (pc := 21) F dL_law_21 (by decide) ?_
    refine j_widen (k' := 70 + 8 * 0) (n' := 20400 + 48 * 0) (by omega) (by omega) ?_
    exact law_loop (x := x) (y := y) (o := o) hst eX F (by rw [eX]; exact hNC) (by rw [eX]; exact hX) hbl hL 513 0 s0 _ _ (by omega) (Nat.zero_le _) ⟨h1, u, fun _ => 0, 0, rfl, l2, l3, hp, hM, wf0⟩ ⟨rfl, rfl, rfl, rfl, rfl, trivial⟩
  have hl := lv_entry ([.ref b] : List Value) (n := 7) (Nat.le_of_ble_eq_true rfl)
  rw [lg_entry_eq]
  subst eX
  exact K s.heap [] _ (fun a e h => nomatch h) va_S.rf ⟨hl, lvh_args [.ref b] 0 (acat_ok rfl)⟩
