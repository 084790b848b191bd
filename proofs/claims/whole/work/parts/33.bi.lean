def s0 : SG := (0, (0, fun _ => 0), (0, fun _ => 0, (fun _ => 0, fun _ => 0, fun _ => 0, fun _ _ => 0)), (0, fun _ => 0, fun _ => 0, fun _ => 0), fun _ _ => 0)
theorem wf0 : wf s0 := ⟨Nat.zero_le _, ⟨Nat.zero_le _, fun j hj => absurd hj (Nat.not_lt_zero j)⟩, ⟨Nat.zero_le _, fun j hj => absurd hj (Nat.not_lt_zero j), fun u v _ hj => absurd hj (Nat.not_lt_zero v), fun j hj => absurd hj (Nat.not_lt_zero j)⟩, ⟨Nat.zero_le _, fun j hj => absurd hj (Nat.not_lt_zero j)⟩, fun _ _ => Nat.zero_le _, fun _ => rfl⟩
section BI
variable {l : Launch} {g : GG} {A : Nat → Prop} {h : HF} {x : Nat}
theorem c_X8_init (hx : h x = some (.inr (8, [.null, .null, .null, .null, .null, .int 0]))) : MVo l g A h yX8_init cX8_init 1 8 48 6300 [.ref x] (fun h1 => isB g h1 x s0) := by
  refine j_met (by decide +kernel) (Nat.le_of_ble_eq_true rfl) (fun X F hn hQ => ?_)
  first | refine j_aload_n (pc := 0) F dX8_init_0 rfl ?_ | refine j_aload_nq (pc := 0) F dX8_init_0 rfl ?_
  refine j_objInit (pc := 1) F (by omega) lk_X8_3 (Nat.le_of_ble_eq_true rfl) dX8_init_1 ?_
  first | refine j_aload_n (pc := 4) F dX8_init_4 rfl ?_ | refine j_aload_nq (pc := 4) F dX8_init_4 rfl ?_
  refine j_new (pc := 5) F (ci := 2) (fs := [.null, .int 0]) tyX2_ok fw_X2 lc_X8_9 iw_X2 nw_X2 rfl (fun j hj => by rcases (show j = 0 ∨ j = 1 by omega) with rfl | rfl <;> rfl) (by omega) (by omega) dX8_init_5 (fun pm hpm _ => ?_)
  refine j_dup (pc := 8) F dX8_init_8 rfl ?_
  have hx1 : hUp h pm (.inr (2, [.null, .int 0])) x = some (.inr (8, [.null, .null, .null, .null, .null, .int 0])) := (hUp_n (nn_ne hx hpm)).trans hx
  refine j_rv (j_runIN (pc := 9) F (c_X2_init hUp_s) m_X2_init rfl mi_X2_init ln_X8_11 ⟨by decide, by decide⟩ (Nat.le_of_ble_eq_true rfl) ⟨by omega, by omega⟩ rfl dX8_init_9) (fun h1 hp => ?_)
  obtain ⟨am, ham, hP, hf⟩ := hp
  have x1 : h1 x = some (.inr (8, [.null, .null, .null, .null, .null, .int 0])) := (hf x (nn_ne hx hpm) (nn_ne hx1 ham)).trans hx1
  refine j_putF (pc := 12) F fp_X8_12 hn rfl (by first | assumption | exact hUp_s) (by rfl) (by rfl) (Nat.le_of_ble_eq_true rfl) dX8_init_12 ?_
  generalize hh2 : hUp h1 x _ = h2
  have x2 : h2 x = some (.inr (8, [.ref pm, .null, .null, .null, .null, .int 0])) := by rw [← hh2]; exact hUp_s
  have k2 : fk [(0, 8)] h1 h2 := fun b z hb hne => by rw [← hh2]; exact (hUp_n (kd_ne hb hne x1 (by simp [kd]))).trans hb
  have P2 := hP.fk k2 (by decide) (by decide)
  first | refine j_aload_n (pc := 15) F dX8_init_15 rfl ?_ | refine j_aload_nq (pc := 15) F dX8_init_15 rfl ?_
  refine j_new (pc := 16) F (ci := 7) (fs := [.null, .null, .null]) tyX7_ok fw_X7 lc_X8_16 iw_X7 nw_X7 rfl (fun j hj => by rcases (show j = 0 ∨ j = 1 ∨ j = 2 by omega) with rfl | rfl | rfl <;> rfl) (by omega) (by omega) dX8_init_16 (fun tr htr _ => ?_)
  have k3 : fk [] h2 (hUp h2 tr (.inr (7, [.null, .null, .null]))) := fk.new htr (fun b hb => hUp_n hb)
  refine j_dup (pc := 19) F dX8_init_19 rfl ?_
  refine j_rv (j_runIN (pc := 20) F (c_X7_init hUp_s) m_X7_init rfl mi_X7_init ln_X8_18 ⟨by decide, by decide⟩ (Nat.le_of_ble_eq_true rfl) ⟨by omega, by omega⟩ rfl dX8_init_20) (fun h4 hp => ?_)
  obtain ⟨ca, cp, cb, y1, y2, y3, -, -, -, hT, hf4⟩ := hp
  have k4 : fk [] h2 h4 := fun b z hb hne => by
    have z3 := k3 b z hb hne
    rw [hf4 b (nn_ne hb htr) (nn_ne z3 y1) (nn_ne z3 y2) (nn_ne z3 y3)]
    exact z3
  have x4 := k4 _ _ x2 (by simp)
  refine j_putF (pc := 23) F fp_X8_19 hn rfl (by first | assumption | exact hUp_s) (by rfl) (by rfl) (Nat.le_of_ble_eq_true rfl) dX8_init_23 ?_
  generalize hh5 : hUp h4 x _ = h5
  have x5 : h5 x = some (.inr (8, [.ref pm, .ref tr, .null, .null, .null, .int 0])) := by rw [← hh5]; exact hUp_s
  have k5 : fk [(0, 8)] h4 h5 := fun b z hb hne => by rw [← hh5]; exact (hUp_n (kd_ne hb hne x4 (by simp [kd]))).trans hb
  have k25 : fk [(0, 8)] h2 h5 := (k4.mono (by simp)).trans k5
  have P5 := P2.fk k25 (by decide) (by decide)
  have T4 : ∀ T : RF, bTr g h4 tr T (fun _ _ => none) := fun T => ⟨ca, cp, cb, hT T.1⟩
  have T5 : ∀ T : RF, bTr g h5 tr T (fun _ _ => none) := fun T => (T4 T).fk k5 (by decide)
  first | refine j_aload_n (pc := 26) F dX8_init_26 rfl ?_ | refine j_aload_nq (pc := 26) F dX8_init_26 rfl ?_
  refine j_new (pc := 27) F (ci := 1) (fs := [.null, .int 0, .null, .int 0, .null, .null]) tyX1_ok fw_X1 lc_X8_23 iw_X1 nw_X1 rfl (fun j hj => by rcases (show j = 0 ∨ j = 1 ∨ j = 2 ∨ j = 3 ∨ j = 4 ∨ j = 5 by omega) with rfl | rfl | rfl | rfl | rfl | rfl <;> rfl) (by omega) (by omega) dX8_init_27 (fun hi hhi _ => ?_)
  have k6 : fk [] h5 (hUp h5 hi (.inr (1, [.null, .int 0, .null, .int 0, .null, .null]))) := fk.new hhi (fun b hb => hUp_n hb)
  refine j_dup (pc := 30) F dX8_init_30 rfl ?_
  refine j_rv (j_runIN (pc := 31) F (c_X1_init hUp_s) m_X1_init rfl mi_X1_init ln_X8_25 ⟨by decide, by decide⟩ (Nat.le_of_ble_eq_true rfl) ⟨by omega, by omega⟩ rfl dX8_init_31) (fun h7 hp => ?_)
  obtain ⟨ti, ke, bo, bt, y1, y2, y3, y4, -, -, -, -, -, nb, hH, hf7⟩ := hp
  have k7 : fk [] h5 h7 := fun b z hb hne => by
    have z3 := k6 b z hb hne
    rw [hf7 b (nn_ne hb hhi) (nn_ne z3 y1) (nn_ne z3 y2) (nn_ne z3 y3) (nn_ne z3 y4)]
    exact z3
  have x7 := k7 _ _ x5 (by simp)
  refine j_putF (pc := 34) F fp_X8_26 hn rfl (by first | assumption | exact hUp_s) (by rfl) (by rfl) (Nat.le_of_ble_eq_true rfl) dX8_init_34 ?_
  generalize hh8 : hUp h7 x _ = h8
  have x8 : h8 x = some (.inr (8, [.ref pm, .ref tr, .ref hi, .null, .null, .int 0])) := by rw [← hh8]; exact hUp_s
  have k8 : fk [(0, 8)] h7 h8 := fun b z hb hne => by rw [← hh8]; exact (hUp_n (kd_ne hb hne x7 (by simp [kd]))).trans hb
  have k58 : fk [(0, 8)] h5 h8 := (k7.mono (by simp)).trans k8
  have P8 := P5.fk k58 (by decide) (by decide)
  have T8 : ∀ T : RF, bTr g h8 tr T (fun _ _ => none) := fun T => (T5 T).fk k58 (by decide)
  have H7 : ∀ (T : RF) (Tm K : Nat → Nat), bHi g h7 hi T 0 Tm 0 K := fun T Tm K => ⟨ti, ke, bo, bt, nb, hH T.1 Tm K⟩
  have H8 : ∀ (T : RF) (Tm K : Nat → Nat), bHi g h8 hi T 0 Tm 0 K := fun T Tm K => (H7 T Tm K).fk k8 (by decide)
  first | refine j_aload_n (pc := 37) F dX8_init_37 rfl ?_ | refine j_aload_nq (pc := 37) F dX8_init_37 rfl ?_
  refine j_new (pc := 38) F (ci := 4) (fs := [.null, .int 0]) tyX4_ok fw_X4 lc_X8_30 iw_X4 nw_X4 rfl (fun j hj => by rcases (show j = 0 ∨ j = 1 by omega) with rfl | rfl <;> rfl) (by omega) (by omega) dX8_init_38 (fun rg hrg _ => ?_)
  have k9 : fk [] h8 (hUp h8 rg (.inr (4, [.null, .int 0]))) := fk.new hrg (fun b hb => hUp_n hb)
  refine j_dup (pc := 41) F dX8_init_41 rfl ?_
  refine j_rv (j_runIN (pc := 42) F (c_X4_init hUp_s) m_X4_init rfl mi_X4_init ln_X8_32 ⟨by decide, by decide⟩ (Nat.le_of_ble_eq_true rfl) ⟨by omega, by omega⟩ rfl dX8_init_42) (fun hA hp => ?_)
  obtain ⟨ea, y1, g1, g2, hfA⟩ := hp
  have kA : fk [] h8 hA := fun b z hb hne => by
    have z3 := k9 b z hb hne
    rw [hfA b (nn_ne hb hrg) (nn_ne z3 y1)]
    exact z3
  have xA := kA _ _ x8 (by simp)
  refine j_putF (pc := 45) F fp_X8_33 hn rfl (by first | assumption | exact hUp_s) (by rfl) (by rfl) (Nat.le_of_ble_eq_true rfl) dX8_init_45 ?_
  generalize hhB : hUp hA x _ = hB
  have xB : hB x = some (.inr (8, [.ref pm, .ref tr, .ref hi, .ref rg, .null, .int 0])) := by rw [← hhB]; exact hUp_s
  have kB : fk [(0, 8)] hA hB := fun b z hb hne => by rw [← hhB]; exact (hUp_n (kd_ne hb hne xA (by simp [kd]))).trans hb
  have k8B : fk [(0, 8)] h8 hB := (kA.mono (by simp)).trans kB
  have PB := P8.fk k8B (by decide) (by decide)
  have TB : ∀ T : RF, bTr g hB tr T (fun _ _ => none) := fun T => (T8 T).fk k8B (by decide)
  have HB : ∀ (T : RF) (Tm K : Nat → Nat), bHi g hB hi T 0 Tm 0 K := fun T Tm K => (H8 T Tm K).fk k8B (by decide)
  have RA : bRg g hA rg 0 (fun _ => 0) (fun _ => 0) (fun _ => 0) := ⟨ea, fun _ => 0, fun _ => 0, _, g1, g2, Nat.zero_le _, fun i hi => absurd hi (Nat.not_lt_zero i)⟩
  have RB := RA.fk kB (by decide)
  first | refine j_aload_n (pc := 48) F dX8_init_48 rfl ?_ | refine j_aload_nq (pc := 48) F dX8_init_48 rfl ?_
  refine j_new (pc := 49) F (ci := 5) (fs := [.null]) tyX5_ok fw_X5 lc_X8_37 iw_X5 nw_X5 rfl (fun j hj => by rcases (show j = 0 by omega) with rfl <;> rfl) (by omega) (by omega) dX8_init_49 (fun rl hrl _ => ?_)
  have kC : fk [] hB (hUp hB rl (.inr (5, [.null]))) := fk.new hrl (fun b hb => hUp_n hb)
  refine j_dup (pc := 52) F dX8_init_52 rfl ?_
  refine j_rv (j_runIN (pc := 53) F (c_X5_init hUp_s) m_X5_init rfl mi_X5_init ln_X8_39 ⟨by decide, by decide⟩ (Nat.le_of_ble_eq_true rfl) ⟨by omega, by omega⟩ rfl dX8_init_53) (fun hD hp => ?_)
  obtain ⟨ra, y1, hR, hfD⟩ := hp
  have kD : fk [] hB hD := fun b z hb hne => by
    have z3 := kC b z hb hne
    rw [hfD b (nn_ne hb hrl) ?_]
    · exact z3
    · rcases Nat.lt_or_ge b ra with w | w
      · exact Or.inl w
      · rcases Nat.lt_or_ge (ra + 31) b with w2 | w2
        · exact Or.inr w2
        · exfalso
          have := y1 (b - ra) (by omega)
          rw [show ra + (b - ra) = b by omega, z3] at this
          cases this
  have xD := kD _ _ xB (by simp)
  refine j_putF (pc := 56) F fp_X8_40 hn rfl (by first | assumption | exact hUp_s) (by rfl) (by rfl) (Nat.le_of_ble_eq_true rfl) dX8_init_56 ?_
  generalize hhE : hUp hD x _ = hE
  have xE : hE x = some (.inr (8, [.ref pm, .ref tr, .ref hi, .ref rg, .ref rl, .int 0])) := by rw [← hhE]; exact hUp_s
  have kE : fk [(0, 8)] hD hE := fun b z hb hne => by rw [← hhE]; exact (hUp_n (kd_ne hb hne xD (by simp [kd]))).trans hb
  have kBE : fk [(0, 8)] hB hE := (kD.mono (by simp)).trans kE
  have LD : bRl g hD rl (fun _ _ => 0) := ⟨ra, _, hR⟩
  have LE := LD.fk kE (by decide)
  first | refine j_aload_n (pc := 59) F dX8_init_59 rfl ?_ | refine j_aload_nq (pc := 59) F dX8_init_59 rfl ?_
  refine j_iconst (pc := 60) (v := (nI 0)) F dX8_init_60 (by decide) ?_
  refine j_put (pc := 61) F fp_X8_44 (by first | assumption | exact hUp_s) (by rfl) (by rfl) (Nat.le_of_ble_eq_true rfl) dX8_init_61 ?_
  generalize hhF : hUp hE x _ = hF
  have xF : hF x = some (.inr (8, [.ref pm, .ref tr, .ref hi, .ref rg, .ref rl, .int (nI 0)])) := by rw [← hhF]; exact hUp_s
  have kF : fk [(0, 8)] hE hF := fun b z hb hne => by rw [← hhF]; exact (hUp_n (kd_ne hb hne xE (by simp [kd]))).trans hb
  have kBF : fk [(0, 8)] hB hF := kBE.trans kF
  refine j_vret F hQ rfl (by omega) (by omega) dX8_init_64 ⟨pm, am, tr, hi, rg, rl, (fun _ => 0, fun _ => 0, fun _ => 0, fun _ => 0), fun _ => 0, 0, fun _ => 0, xF, PB.fk kBF (by decide) (by decide), (TB _).fk kBF (by decide), (HB _ _ _).fk kBF (by decide), RB.fk kBF (by decide), LE.fk kF (by decide), fun j hj => absurd hj (Nat.not_lt_zero j), Nat.le_refl _, fun j hj => absurd hj (Nat.not_lt_zero j), fun j hj => absurd hj (Nat.not_lt_zero j), fun j hj => absurd hj (Nat.not_lt_zero j)⟩
end BI
