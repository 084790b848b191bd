/-! ===== BgpreplayModel: its public methods ===== -/
def nxt (c : Nat) (s' s : SG) : SG := if c = 0 then s' else s
theorem nxt_0 {s' s : SG} : nxt 0 s' s = s' := rfl
theorem nxt_n {c : Nat} {s' s : SG} (h : ¬ c = 0) : nxt c s' s = s := if_neg h
section MQ1
variable {l : Launch} {g : GG} {A : Nat → Prop} {h h1 : HF} {y : Nat} {s s' : SG} {th th' : Nat} {a : Nat → Nat} {CC CC' : CT}
theorem isMx.is (z : isMx g h y s th a CC) (hC : ∀ p q, p < 6 → q < 512 → CC 0 p q = tb (sD s) (sm s) p q) : isM g h y s th := ⟨a, CC, z, hC⟩
theorem c_X9_thrown (hM : isM g h y s th) : MI l g A h yX9_thrown cX9_thrown 1 (some .int) 0 0 0 [.ref y] (fun r h1 => r = nI th ∧ isM g h1 y s th) := by
  have hM' := hM
  obtain ⟨a, CC, z, hC⟩ := hM
  have e0 := z.cl
  refine j_met (by decide +kernel) (Nat.le_of_ble_eq_true rfl) (fun X F hn hQ => ?_)
  first | refine j_aload_n (pc := 0) F dX9_thrown_0 rfl ?_ | refine j_aload_nq (pc := 0) F dX9_thrown_0 rfl ?_
  refine j_get (pc := 1) F fg_X9_47 (by first | assumption | exact hUp_s) (by rfl) dX9_thrown_1 ?_
  exact j_iret F hQ rfl rfl (by omega) (by omega) dX9_thrown_4 ⟨rfl, hM'⟩
theorem c_X9_now (hM : isM g h y s th) : MI l g A h yX9_now cX9_now 1 (some .int) 0 0 0 [.ref y] (fun r h1 => r = nI (sT s) ∧ isM g h1 y s 0) := by
  obtain ⟨a, CC, z, hC⟩ := hM
  have e0 := z.cl
  refine j_met (by decide +kernel) (Nat.le_of_ble_eq_true rfl) (fun X F hn hQ => ?_)
  first | refine j_aload_n (pc := 0) F dX9_now_0 rfl ?_ | refine j_aload_nq (pc := 0) F dX9_now_0 rfl ?_
  refine j_iconst (pc := 1) (v := (nI 0)) F dX9_now_1 (by decide) ?_
  refine j_put (pc := 2) F fp_X9_47 (by first | assumption | exact hUp_s) (by rfl) (by rfl) (Nat.le_of_ble_eq_true rfl) dX9_now_2 ?_
  generalize hh2 : hUp h y _ = h2
  have z2 : isMx g h2 y s 0 a CC := z.tw (by rw [← hh2]; exact hUp_s) (fun b hb => by rw [← hh2]; exact hUp_n hb)
  have e2 := z2.cl
  first | refine j_aload_n (pc := 5) F dX9_now_5 rfl ?_ | refine j_aload_nq (pc := 5) F dX9_now_5 rfl ?_
  refine j_get (pc := 6) F fg_X9_73 (by first | assumption | exact hUp_s) (by rfl) dX9_now_6 ?_
  exact j_iret F hQ rfl rfl (by omega) (by omega) dX9_now_9 ⟨rfl, z2.is hC⟩
theorem c_X9_updates (hM : isM g h y s th) : MI l g A h yX9_updates cX9_updates 1 (some .int) 0 0 0 [.ref y] (fun r h1 => r = nI (sm s) ∧ isM g h1 y s 0) := by
  obtain ⟨a, CC, z, hC⟩ := hM
  have e0 := z.cl
  refine j_met (by decide +kernel) (Nat.le_of_ble_eq_true rfl) (fun X F hn hQ => ?_)
  first | refine j_aload_n (pc := 0) F dX9_updates_0 rfl ?_ | refine j_aload_nq (pc := 0) F dX9_updates_0 rfl ?_
  refine j_iconst (pc := 1) (v := (nI 0)) F dX9_updates_1 (by decide) ?_
  refine j_put (pc := 2) F fp_X9_47 (by first | assumption | exact hUp_s) (by rfl) (by rfl) (Nat.le_of_ble_eq_true rfl) dX9_updates_2 ?_
  generalize hh2 : hUp h y _ = h2
  have z2 : isMx g h2 y s 0 a CC := z.tw (by rw [← hh2]; exact hUp_s) (fun b hb => by rw [← hh2]; exact hUp_n hb)
  have e2 := z2.cl
  first | refine j_aload_n (pc := 5) F dX9_updates_5 rfl ?_ | refine j_aload_nq (pc := 5) F dX9_updates_5 rfl ?_
  refine j_get (pc := 6) F fg_X9_59 (by first | assumption | exact hUp_s) (by rfl) dX9_updates_6 ?_
  exact j_iret F hQ rfl rfl (by omega) (by omega) dX9_updates_9 ⟨rfl, z2.is hC⟩
theorem c_X9_clearPath (hM : isM g h y s th) : MI l g A h yX9_clearPath cX9_clearPath 2 (some .int) 0 0 0 [.ref y] (fun r h1 => r = nI (sz s) ∧ isM g h1 y (sClr s) 0) := by
  obtain ⟨a, CC, z, hC⟩ := hM
  have e0 := z.cl
  refine j_met (by decide +kernel) (Nat.le_of_ble_eq_true rfl) (fun X F hn hQ => ?_)
  first | refine j_aload_n (pc := 0) F dX9_clearPath_0 rfl ?_ | refine j_aload_nq (pc := 0) F dX9_clearPath_0 rfl ?_
  refine j_iconst (pc := 1) (v := (nI 0)) F dX9_clearPath_1 (by decide) ?_
  refine j_put (pc := 2) F fp_X9_47 (by first | assumption | exact hUp_s) (by rfl) (by rfl) (Nat.le_of_ble_eq_true rfl) dX9_clearPath_2 ?_
  generalize hh2 : hUp h y _ = h2
  have z2 : isMx g h2 y s 0 a CC := z.tw (by rw [← hh2]; exact hUp_s) (fun b hb => by rw [← hh2]; exact hUp_n hb)
  have e2 := z2.cl
  first | refine j_aload_n (pc := 5) F dX9_clearPath_5 rfl ?_ | refine j_aload_nq (pc := 5) F dX9_clearPath_5 rfl ?_
  refine j_get (pc := 6) F fg_X9_77 (by first | assumption | exact hUp_s) (by rfl) dX9_clearPath_6 ?_
  refine j_istore_n (pc := 9) F dX9_clearPath_9 (by decide) ?_
  first | refine j_aload_n (pc := 10) F dX9_clearPath_10 rfl ?_ | refine j_aload_nq (pc := 10) F dX9_clearPath_10 rfl ?_
  refine j_iconst (pc := 11) (v := (nI 0)) F dX9_clearPath_11 (by decide) ?_
  refine j_put (pc := 12) F fp_X9_77 (by first | assumption | exact hUp_s) (by rfl) (by rfl) (Nat.le_of_ble_eq_true rfl) dX9_clearPath_12 ?_
  refine j_iload_n (pc := 15) F dX9_clearPath_15 rfl ?_
  refine j_iret F hQ rfl rfl (by omega) (by omega) dX9_clearPath_16 ⟨rfl, a, CC, z2.cell hUp_s (fun b hb => hUp_n hb) (fun k f hk p => ?_), hC⟩
  rcases ix_or hk with rfl | rfl | rfl | rfl | rfl | rfl | rfl | rfl | rfl | rfl | rfl <;> first | exact p | exact fun j hj => absurd hj (Nat.not_lt_zero j)
theorem c_X9_pass {v : Int32} (w : wf s) (hM : isM g h y s th) : MI l g A h yX9_pass cX9_pass 2 (some .int) 1 0 0 [.ref y, .int v] (fun r h1 => isM g h1 y (nxt (tcode s v) (sPass s (pN v)) s) (tcode s v) ∧ (tcode s v = 0 → r = nI (sT s + pN v))) := by
  obtain ⟨a, CC, z, hC⟩ := hM
  have e0 := z.cl
  have wt := w.1
  by_cases c0 : 1 ≤ v.toInt ∧ v.toInt ≤ 1000
  · obtain ⟨k, rfl, k1⟩ : ∃ k, v = nI k ∧ 1 ≤ k ∧ k ≤ 1000 := ⟨pN v, (nI_pN (by omega)).symm, by unfold pN; omega⟩
    have ek := pN_nI (show k < 2 ^ 31 by omega)
    rw [ek]
    refine j_met (by decide +kernel) (Nat.le_of_ble_eq_true rfl) (fun X F hn hQ => ?_)
    first | refine j_aload_n (pc := 0) F dX9_pass_0 rfl ?_ | refine j_aload_nq (pc := 0) F dX9_pass_0 rfl ?_
    refine j_iload_n (pc := 1) F dX9_pass_1 rfl ?_
    refine j_iconst (pc := 2) (v := (nI 1)) F dX9_pass_2 (by decide) ?_
    refine j_sipush (pc := 3) (v := (nI 1000)) F dX9_pass_3 (by decide) ?_
    refine j_ri (j_runS (pc := 6) F (c_X9_in _ _ _) m_X9_in ms_X9_in lk_X9_51 ⟨by decide, by decide⟩ (Nat.le_of_ble_eq_true rfl) ⟨by omega, by omega⟩ rfl dX9_pass_6) (fun r h1 hp => ?_)
    obtain ⟨rfl, rfl⟩ := hp
    refine j_int (congrArg bI ((inN (by decide) (by decide)).trans (decide_eq_true c0))) ?_
    first | refine j_if_neB (pc := 9) F 16 dX9_pass_9 (by decide) (fun c1 => ?_) (fun c1 => ?_) | refine j_if_neN (pc := 9) F 16 dX9_pass_9 (by decide) (by omega) (fun c1 => ?_) (fun c1 => ?_) | refine j_if_neI (pc := 9) F 16 dX9_pass_9 (by decide) (fun c1 => ?_) (fun c1 => ?_)
    · first | refine j_aload_n (pc := 16) F dX9_pass_16 rfl ?_ | refine j_aload_nq (pc := 16) F dX9_pass_16 rfl ?_
      refine j_get (pc := 17) F fg_X9_73 (by first | assumption | exact hUp_s) (by rfl) dX9_pass_17 ?_
      refine j_iload_n (pc := 20) F dX9_pass_20 rfl ?_
      first | refine j_iaddN (pc := 21) F dX9_pass_21 ?_ | refine j_iadd (pc := 21) F dX9_pass_21 ?_
      refine j_ldc (pc := 22) F cw_X9_76 dX9_pass_22 ?_
      refine j_int (show _ = nI 1000000 by decide) ?_
      first | refine j_icmp_leN (pc := 24) F 31 dX9_pass_24 (by decide) (by omega) (by omega) (fun c3 => ?_) (fun c3 => ?_) | refine j_icmp_leIN (pc := 24) F 31 dX9_pass_24 (by decide) (by omega) (fun c3 => ?_) (fun c3 => ?_) | refine j_icmp_leNI (pc := 24) F 31 dX9_pass_24 (by decide) (by omega) (fun c3 => ?_) (fun c3 => ?_) | refine j_icmp_leI (pc := 24) F 31 dX9_pass_24 (by decide) (fun c3 => ?_) (fun c3 => ?_)
      · have ec : tcode s (nI k) = 0 := by rw [tcode, if_pos c0, ek, if_neg (by omega)]
        refine j_iconst (pc := 31) (v := (nI 0)) F dX9_pass_31 (by decide) ?_
        refine j_put (pc := 32) F fp_X9_47 (by first | assumption | exact hUp_s) (by rfl) (by rfl) (Nat.le_of_ble_eq_true rfl) dX9_pass_32 ?_
        generalize hh2 : hUp h1 y _ = h2
        have z2 : isMx g h2 y s 0 a CC := z.tw (by rw [← hh2]; exact hUp_s) (fun b hb => by rw [← hh2]; exact hUp_n hb)
        have e2 := z2.cl
        first | refine j_aload_n (pc := 35) F dX9_pass_35 rfl ?_ | refine j_aload_nq (pc := 35) F dX9_pass_35 rfl ?_
        refine j_get (pc := 36) F fg_X9_47 (by first | assumption | exact hUp_s) (by rfl) dX9_pass_36 ?_
        first | refine j_if_leN (pc := 39) F 44 dX9_pass_39 (by decide) (by omega) (fun c4 => ?_) (fun c4 => ?_) | refine j_if_leI (pc := 39) F 44 dX9_pass_39 (by decide) (fun c4 => ?_) (fun c4 => ?_)
        · first | refine j_aload_n (pc := 44) F dX9_pass_44 rfl ?_ | refine j_aload_nq (pc := 44) F dX9_pass_44 rfl ?_
          refine j_dup (pc := 45) F dX9_pass_45 rfl ?_
          refine j_get (pc := 46) F fg_X9_73 (by first | assumption | exact hUp_s) (by rfl) dX9_pass_46 ?_
          refine j_iload_n (pc := 49) F dX9_pass_49 rfl ?_
          first | refine j_iaddN (pc := 50) F dX9_pass_50 ?_ | refine j_iadd (pc := 50) F dX9_pass_50 ?_
          refine j_put (pc := 51) F fp_X9_73 (by first | assumption | exact hUp_s) (by rfl) (by rfl) (Nat.le_of_ble_eq_true rfl) dX9_pass_51 ?_
          first | refine j_aload_n (pc := 54) F dX9_pass_54 rfl ?_ | refine j_aload_nq (pc := 54) F dX9_pass_54 rfl ?_
          refine j_get (pc := 55) F fg_X9_73 (by first | assumption | exact hUp_s) (by rfl) dX9_pass_55 ?_
          refine j_iret F hQ rfl rfl (by omega) (by omega) dX9_pass_58 ⟨?_, fun _ => rfl⟩
          rw [ec, nxt_0]
          refine ⟨a, CC, z2.cell hUp_s (fun b hb => hUp_n hb) (fun k f hk p => ?_), hC⟩
          rcases ix_or hk with rfl | rfl | rfl | rfl | rfl | rfl | rfl | rfl | rfl | rfl | rfl <;> exact p
        · omega
      · have ec : tcode s (nI k) = 2 := by rw [tcode, if_pos c0, ek, if_pos (by omega)]
        refine j_iconst (pc := 27) (v := (nI 2)) F dX9_pass_27 (by decide) ?_
        refine j_goto (pc := 28) F 32 dX9_pass_28 (by decide) ?_
        refine j_put (pc := 32) F fp_X9_47 (by first | assumption | exact hUp_s) (by rfl) (by rfl) (Nat.le_of_ble_eq_true rfl) dX9_pass_32 ?_
        generalize hh2 : hUp h1 y _ = h2
        have z2 : isMx g h2 y s 2 a CC := z.tw (by rw [← hh2]; exact hUp_s) (fun b hb => by rw [← hh2]; exact hUp_n hb)
        have e2 := z2.cl
        first | refine j_aload_n (pc := 35) F dX9_pass_35 rfl ?_ | refine j_aload_nq (pc := 35) F dX9_pass_35 rfl ?_
        refine j_get (pc := 36) F fg_X9_47 (by first | assumption | exact hUp_s) (by rfl) dX9_pass_36 ?_
        first | refine j_if_leN (pc := 39) F 44 dX9_pass_39 (by decide) (by omega) (fun c4 => ?_) (fun c4 => ?_) | refine j_if_leI (pc := 39) F 44 dX9_pass_39 (by decide) (fun c4 => ?_) (fun c4 => ?_)
        · omega
        · refine j_iconst (pc := 42) (v := (nI 0)) F dX9_pass_42 (by decide) ?_
          exact j_iret F hQ rfl rfl (by omega) (by omega) dX9_pass_43 ⟨by rw [ec, nxt_n (by decide)]; exact z2.is hC, fun e => by rw [ec] at e; cases e⟩
    · cases c1
  · have ec : tcode s v = 1 := by rw [tcode, if_neg c0]
    refine j_met (by decide +kernel) (Nat.le_of_ble_eq_true rfl) (fun X F hn hQ => ?_)
    first | refine j_aload_n (pc := 0) F dX9_pass_0 rfl ?_ | refine j_aload_nq (pc := 0) F dX9_pass_0 rfl ?_
    refine j_iload_n (pc := 1) F dX9_pass_1 rfl ?_
    refine j_iconst (pc := 2) (v := (nI 1)) F dX9_pass_2 (by decide) ?_
    refine j_sipush (pc := 3) (v := (nI 1000)) F dX9_pass_3 (by decide) ?_
    refine j_ri (j_runS (pc := 6) F (c_X9_in _ _ _) m_X9_in ms_X9_in lk_X9_51 ⟨by decide, by decide⟩ (Nat.le_of_ble_eq_true rfl) ⟨by omega, by omega⟩ rfl dX9_pass_6) (fun r h1 hp => ?_)
    obtain ⟨rfl, rfl⟩ := hp
    refine j_int (congrArg bI ((inN (by decide) (by decide)).trans (decide_eq_false c0))) ?_
    first | refine j_if_neB (pc := 9) F 16 dX9_pass_9 (by decide) (fun c1 => ?_) (fun c1 => ?_) | refine j_if_neN (pc := 9) F 16 dX9_pass_9 (by decide) (by omega) (fun c1 => ?_) (fun c1 => ?_) | refine j_if_neI (pc := 9) F 16 dX9_pass_9 (by decide) (fun c1 => ?_) (fun c1 => ?_)
    · cases c1
    · refine j_iconst (pc := 12) (v := (nI 1)) F dX9_pass_12 (by decide) ?_
      refine j_goto (pc := 13) F 32 dX9_pass_13 (by decide) ?_
      refine j_put (pc := 32) F fp_X9_47 (by first | assumption | exact hUp_s) (by rfl) (by rfl) (Nat.le_of_ble_eq_true rfl) dX9_pass_32 ?_
      generalize hh2 : hUp h1 y _ = h2
      have z2 : isMx g h2 y s 1 a CC := z.tw (by rw [← hh2]; exact hUp_s) (fun b hb => by rw [← hh2]; exact hUp_n hb)
      have e2 := z2.cl
      first | refine j_aload_n (pc := 35) F dX9_pass_35 rfl ?_ | refine j_aload_nq (pc := 35) F dX9_pass_35 rfl ?_
      refine j_get (pc := 36) F fg_X9_47 (by first | assumption | exact hUp_s) (by rfl) dX9_pass_36 ?_
      first | refine j_if_leN (pc := 39) F 44 dX9_pass_39 (by decide) (by omega) (fun c4 => ?_) (fun c4 => ?_) | refine j_if_leI (pc := 39) F 44 dX9_pass_39 (by decide) (fun c4 => ?_) (fun c4 => ?_)
      · omega
      · refine j_iconst (pc := 42) (v := (nI 0)) F dX9_pass_42 (by decide) ?_
        exact j_iret F hQ rfl rfl (by omega) (by omega) dX9_pass_43 ⟨by rw [ec, nxt_n (by decide)]; exact z2.is hC, fun e => by rw [ec] at e; cases e⟩
theorem c_X9_hop {v : Int32} (w : wf s) (hM : isM g h y s th) : MI l g A h yX9_hop cX9_hop 3 (some .int) 1 0 0 [.ref y, .int v] (fun r h1 => isM g h1 y (nxt (hcode s v) (sHop s (pN v)) s) (hcode s v) ∧ (hcode s v = 0 → r = nI (sz s + 1))) := by
  obtain ⟨a, CC, z, hC⟩ := hM
  have e0 := z.cl
  have hz8 := w.2.1.1
  refine j_met (by decide +kernel) (Nat.le_of_ble_eq_true rfl) (fun X F hn hQ => ?_)
  have exit2 : ∀ (h2 : HF) (t k : Nat) (lv : List (Nat × Value)), 0 < t → t < 9 → k < 9 → isMx g h2 y s t a CC → hcode s v = t → lall lv [(0, .ref y), (1, .int v), (2, .int (nI k))] → J l X g A 3 0 0 h2 34 lv [] := by
    intro h2 t k lv t0 t9 k9 z2 ec hl
    have e2 := z2.cl
    have ex : ∀ lv, lall lv [(0, .ref y)] → J l X g A 3 0 0 h2 89 lv [] := fun lv hl => by
      refine j_lv _ hl ?_
      first | refine j_aload_n (pc := 89) F dX9_hop_89 rfl ?_ | refine j_aload_nq (pc := 89) F dX9_hop_89 rfl ?_
      refine j_get (pc := 90) F fg_X9_47 (by first | assumption | exact hUp_s) (by rfl) dX9_hop_90 ?_
      first | refine j_if_leN (pc := 93) F 98 dX9_hop_93 (by decide) (by omega) (fun c4 => ?_) (fun c4 => ?_) | refine j_if_leI (pc := 93) F 98 dX9_hop_93 (by decide) (fun c4 => ?_) (fun c4 => ?_)
      · omega
      · refine j_iconst (pc := 96) (v := (nI 0)) F dX9_hop_96 (by decide) ?_
        exact j_iret F hQ rfl rfl (by omega) (by omega) dX9_hop_97 ⟨by rw [ec, nxt_n (by omega)]; exact z2.is hC, fun e => by omega⟩
    refine j_lv _ hl ?_
    refine j_iload_n (pc := 34) F dX9_hop_34 rfl ?_
    first | refine j_aload_n (pc := 35) F dX9_hop_35 rfl ?_ | refine j_aload_nq (pc := 35) F dX9_hop_35 rfl ?_
    refine j_get (pc := 36) F fg_X9_77 (by first | assumption | exact hUp_s) (by rfl) dX9_hop_36 ?_
    first | refine j_icmp_geN (pc := 39) F 89 dX9_hop_39 (by decide) (by omega) (by omega) (fun c => ?_) (fun c => ?_) | refine j_icmp_geIN (pc := 39) F 89 dX9_hop_39 (by decide) (by omega) (fun c => ?_) (fun c => ?_) | refine j_icmp_geNI (pc := 39) F 89 dX9_hop_39 (by decide) (by omega) (fun c => ?_) (fun c => ?_) | refine j_icmp_geI (pc := 39) F 89 dX9_hop_39 (by decide) (fun c => ?_) (fun c => ?_)
    · exact ex _ ⟨rfl, trivial⟩
    · first | refine j_aload_n (pc := 42) F dX9_hop_42 rfl ?_ | refine j_aload_nq (pc := 42) F dX9_hop_42 rfl ?_
      refine j_get (pc := 43) F fg_X9_47 (by first | assumption | exact hUp_s) (by rfl) dX9_hop_43 ?_
      first | refine j_if_neB (pc := 46) F 89 dX9_hop_46 (by decide) (fun c2 => ?_) (fun c2 => ?_) | refine j_if_neN (pc := 46) F 89 dX9_hop_46 (by decide) (by omega) (fun c2 => ?_) (fun c2 => ?_) | refine j_if_neI (pc := 46) F 89 dX9_hop_46 (by decide) (fun c2 => ?_) (fun c2 => ?_)
      · exact ex _ ⟨rfl, trivial⟩
      · omega
  first | refine j_aload_n (pc := 0) F dX9_hop_0 rfl ?_ | refine j_aload_nq (pc := 0) F dX9_hop_0 rfl ?_
  refine j_iload_n (pc := 1) F dX9_hop_1 rfl ?_
  refine j_iconst (pc := 2) (v := (nI 1)) F dX9_hop_2 (by decide) ?_
  refine j_bipush (pc := 3) (v := (nI 30)) F dX9_hop_3 (by decide) ?_
  refine j_ri (j_runS (pc := 5) F (c_X9_in _ _ _) m_X9_in ms_X9_in lk_X9_51 ⟨by decide, by decide⟩ (Nat.le_of_ble_eq_true rfl) ⟨by omega, by omega⟩ rfl dX9_hop_5) (fun r h1 hp => ?_)
  obtain ⟨rfl, rfl⟩ := hp
  refine j_int (congrArg bI ((inN (by decide) (by decide)).trans (show _ = okNet v from rfl))) ?_
  first | refine j_if_neB (pc := 8) F 15 dX9_hop_8 (by decide) (fun c => ?_) (fun c => ?_) | refine j_if_neN (pc := 8) F 15 dX9_hop_8 (by decide) (by omega) (fun c => ?_) (fun c => ?_) | refine j_if_neI (pc := 8) F 15 dX9_hop_8 (by decide) (fun c => ?_) (fun c => ?_)
  · obtain ⟨n1, n2, n3⟩ := okNet.n c
    first | refine j_aload_n (pc := 15) F dX9_hop_15 rfl ?_ | refine j_aload_nq (pc := 15) F dX9_hop_15 rfl ?_
    refine j_get (pc := 16) F fg_X9_77 (by first | assumption | exact hUp_s) (by rfl) dX9_hop_16 ?_
    refine j_bipush (pc := 19) (v := (nI 8)) F dX9_hop_19 (by decide) ?_
    first | refine j_icmp_neN (pc := 21) F 28 dX9_hop_21 (by decide) (by omega) (by omega) (fun c2 => ?_) (fun c2 => ?_) | refine j_icmp_neIN (pc := 21) F 28 dX9_hop_21 (by decide) (by omega) (fun c2 => ?_) (fun c2 => ?_) | refine j_icmp_neNI (pc := 21) F 28 dX9_hop_21 (by decide) (by omega) (fun c2 => ?_) (fun c2 => ?_) | refine j_icmp_ne (pc := 21) F 28 dX9_hop_21 (by decide) (fun c2 => ?_) (fun c2 => ?_)
    · refine j_iconst (pc := 28) (v := (nI 0)) F dX9_hop_28 (by decide) ?_
      refine j_put (pc := 29) F fp_X9_47 (by first | assumption | exact hUp_s) (by rfl) (by rfl) (Nat.le_of_ble_eq_true rfl) dX9_hop_29 ?_
      generalize hh2 : hUp h1 y _ = h2
      have z2 : isMx g h2 y s 0 a CC := z.tw (by rw [← hh2]; exact hUp_s) (fun b hb => by rw [← hh2]; exact hUp_n hb)
      refine j_iconst (pc := 32) (v := (nI 0)) F dX9_hop_32 (by decide) ?_
      refine j_istore_n (pc := 33) F dX9_hop_33 (by decide) ?_
      have loop : ∀ m k (h3 : HF) (lv : List (Nat × Value)), sz s < k + m → k ≤ sz s → isMx g h3 y s 0 a CC → (∀ j, j < k → ¬ (nI (sN s j) = v ∧ ¬ pAt (sz s) (sN s) (sz s - 1) = v)) → lall lv [(0, .ref y), (1, .int v), (2, .int (nI k))] → J l X g A 3 0 0 h3 34 lv [] := by
        intro m
        induction m with
        | zero => intro k h3 lv q1 q2; omega
        | succ m ih =>
          intro k h3 lv q1 q2 q3 q4 q5
          have e3 := q3.cl
          obtain ⟨f1, r1, p1⟩ := q3.a1
          refine j_lv _ q5 ?_
          refine j_iload_n (pc := 34) F dX9_hop_34 rfl ?_
          first | refine j_aload_n (pc := 35) F dX9_hop_35 rfl ?_ | refine j_aload_nq (pc := 35) F dX9_hop_35 rfl ?_
          refine j_get (pc := 36) F fg_X9_77 (by first | assumption | exact hUp_s) (by rfl) dX9_hop_36 ?_
          first | refine j_icmp_geN (pc := 39) F 89 dX9_hop_39 (by decide) (by omega) (by omega) (fun c3 => ?_) (fun c3 => ?_) | refine j_icmp_geIN (pc := 39) F 89 dX9_hop_39 (by decide) (by omega) (fun c3 => ?_) (fun c3 => ?_) | refine j_icmp_geNI (pc := 39) F 89 dX9_hop_39 (by decide) (by omega) (fun c3 => ?_) (fun c3 => ?_) | refine j_icmp_geI (pc := 39) F 89 dX9_hop_39 (by decide) (fun c3 => ?_) (fun c3 => ?_)
          · have hk : k = sz s := by omega
            have ec : hcode s v = 0 := by
              rw [hcode, if_pos c, if_neg]
              rintro (t | t)
              · omega
              · obtain ⟨t1, j, t2, t3⟩ := of_decide_eq_true t
                exact q4 j (by omega) ⟨t3, t1⟩
            first | refine j_aload_n (pc := 89) F dX9_hop_89 rfl ?_ | refine j_aload_nq (pc := 89) F dX9_hop_89 rfl ?_
            refine j_get (pc := 90) F fg_X9_47 (by first | assumption | exact hUp_s) (by rfl) dX9_hop_90 ?_
            first | refine j_if_leN (pc := 93) F 98 dX9_hop_93 (by decide) (by omega) (fun c4 => ?_) (fun c4 => ?_) | refine j_if_leI (pc := 93) F 98 dX9_hop_93 (by decide) (fun c4 => ?_) (fun c4 => ?_)
            · first | refine j_aload_n (pc := 98) F dX9_hop_98 rfl ?_ | refine j_aload_nq (pc := 98) F dX9_hop_98 rfl ?_
              refine j_get (pc := 99) F fg_X9_7 (by first | assumption | exact hUp_s) (by rfl) dX9_hop_99 ?_
              first | refine j_aload_n (pc := 102) F dX9_hop_102 rfl ?_ | refine j_aload_nq (pc := 102) F dX9_hop_102 rfl ?_
              refine j_get (pc := 103) F fg_X9_77 (by first | assumption | exact hUp_s) (by rfl) dX9_hop_103 ?_
              refine j_iload_n (pc := 106) F dX9_hop_106 rfl ?_
              refine j_iastN (pc := 107) F (by first | assumption | exact hUp_s) (by omega) (by decide) dX9_hop_107 ?_
              generalize hh4 : hUp h3 (a 1) _ = h4
              have r4 : h4 (a 1) = some (aI g 8 (upd f1 (sz s) v)) := by rw [← hh4]; exact hUp_s
              have g4 : ∀ b, b ≠ a 1 → h4 b = h3 b := fun b hb => by rw [← hh4]; exact hUp_n hb
              have e4 := (g4 y (q3.ya (k := 1) rfl)).trans e3
              first | refine j_aload_n (pc := 108) F dX9_hop_108 rfl ?_ | refine j_aload_nq (pc := 108) F dX9_hop_108 rfl ?_
              refine j_dup (pc := 109) F dX9_hop_109 rfl ?_
              refine j_get (pc := 110) F fg_X9_77 (by first | assumption | exact hUp_s) (by rfl) dX9_hop_110 ?_
              refine j_iconst (pc := 113) (v := (nI 1)) F dX9_hop_113 (by decide) ?_
              first | refine j_iaddN (pc := 114) F dX9_hop_114 ?_ | refine j_iadd (pc := 114) F dX9_hop_114 ?_
              refine j_put (pc := 115) F fp_X9_77 (by first | assumption | exact hUp_s) (by rfl) (by rfl) (Nat.le_of_ble_eq_true rfl) dX9_hop_115 ?_
              first | refine j_aload_n (pc := 118) F dX9_hop_118 rfl ?_ | refine j_aload_nq (pc := 118) F dX9_hop_118 rfl ?_
              refine j_get (pc := 119) F fg_X9_77 (by first | assumption | exact hUp_s) (by rfl) dX9_hop_119 ?_
              refine j_iret F hQ rfl rfl (by omega) (by omega) dX9_hop_122 ⟨?_, fun _ => rfl⟩
              rw [ec, nxt_0]
              refine ⟨a, CC, ⟨hUp_s, fun k2 hk2 => ?_, q3.2.2⟩, hC⟩
              by_cases c1 : k2 = 1
              · subst c1
                refine ⟨_, (hUp_n (Ne.symm (q3.ya (k := 1) rfl))).trans r4, fun j hj => ?_⟩
                have hj : j < sz s + 1 := hj
                show upd f1 (sz s) v j = nI (if j = sz s then pN v else sN s j)
                unfold upd
                by_cases c5 : j = sz s
                · rw [if_pos c5, if_pos c5]; exact n1
                · rw [if_neg c5, if_neg c5]; exact p1 j (by omega)
              · obtain ⟨fk, x1, x2⟩ := q3.2.1 k2 hk2
                refine ⟨fk, (hUp_n (Ne.symm (q3.ya hk2))).trans ((g4 _ (q3.2.2 k2 1 hk2 rfl c1)).trans x1), ?_⟩
                rcases ix_or hk2 with rfl | rfl | rfl | rfl | rfl | rfl | rfl | rfl | rfl | rfl | rfl <;> first | exact x2 | exact absurd rfl c1
            · omega
          · first | refine j_aload_n (pc := 42) F dX9_hop_42 rfl ?_ | refine j_aload_nq (pc := 42) F dX9_hop_42 rfl ?_
            refine j_get (pc := 43) F fg_X9_47 (by first | assumption | exact hUp_s) (by rfl) dX9_hop_43 ?_
            first | refine j_if_neB (pc := 46) F 89 dX9_hop_46 (by decide) (fun c4 => ?_) (fun c4 => ?_) | refine j_if_neN (pc := 46) F 89 dX9_hop_46 (by decide) (by omega) (fun c4 => ?_) (fun c4 => ?_) | refine j_if_neI (pc := 46) F 89 dX9_hop_46 (by decide) (fun c4 => ?_) (fun c4 => ?_)
            · omega
            · first | refine j_aload_n (pc := 49) F dX9_hop_49 rfl ?_ | refine j_aload_nq (pc := 49) F dX9_hop_49 rfl ?_
              first | refine j_aload_n (pc := 50) F dX9_hop_50 rfl ?_ | refine j_aload_nq (pc := 50) F dX9_hop_50 rfl ?_
              refine j_get (pc := 51) F fg_X9_7 (by first | assumption | exact hUp_s) (by rfl) dX9_hop_51 ?_
              refine j_iload_n (pc := 54) F dX9_hop_54 rfl ?_
              refine j_ialdN (pc := 55) F (by first | assumption | exact hUp_s) (by omega) (by decide) dX9_hop_55 ?_
              refine j_int (p1 k c3) ?_
              refine j_iload_n (pc := 56) F dX9_hop_56 rfl ?_
              have pl := pAt_last (N := sN s) (show 0 < sz s by omega)
              have nofound : (nI (sN s k) = v → pAt (sz s) (sN s) (sz s - 1) = v) → ∀ (h5 : HF) (lv : List (Nat × Value)), isMx g h5 y s 0 a CC → lall lv [(0, .ref y), (1, .int v), (2, .int (nI (k + 1)))] → J l X g A 3 0 0 h5 34 lv [] := fun hnf h5 lv z5 hl => by
                refine ih (k + 1) h5 lv (by omega) (by omega) z5 (fun j hj => ?_) hl
                by_cases cj : j = k
                · rw [cj]; exact fun t => t.2 (hnf t.1)
                · exact q4 j (by omega)
              refine j_icmp_ne (pc := 57) F 79 dX9_hop_57 (by decide) (fun c5 => ?_) (fun c5 => ?_)
              · refine j_iconst (pc := 79) (v := (nI 0)) F dX9_hop_79 (by decide) ?_
                refine j_put (pc := 80) F fp_X9_47 (by first | assumption | exact hUp_s) (by rfl) (by rfl) (Nat.le_of_ble_eq_true rfl) dX9_hop_80 ?_
                first | refine j_iincN (pc := 83) F dX9_hop_83 rfl (by decide) ?_ | refine j_iincM (pc := 83) F dX9_hop_83 rfl (by decide) ?_ | refine j_iinc (pc := 83) F dX9_hop_83 rfl rfl (by decide) ?_
                refine j_goto (pc := 86) F 34 dX9_hop_86 (by decide) ?_
                exact nofound (fun t => absurd t c5) _ _ (q3.tw hUp_s (fun b hb => hUp_n hb)) ⟨rfl, rfl, rfl, trivial⟩
              · first | refine j_aload_n (pc := 60) F dX9_hop_60 rfl ?_ | refine j_aload_nq (pc := 60) F dX9_hop_60 rfl ?_
                refine j_get (pc := 61) F fg_X9_7 (by first | assumption | exact hUp_s) (by rfl) dX9_hop_61 ?_
                first | refine j_aload_n (pc := 64) F dX9_hop_64 rfl ?_ | refine j_aload_nq (pc := 64) F dX9_hop_64 rfl ?_
                refine j_get (pc := 65) F fg_X9_77 (by first | assumption | exact hUp_s) (by rfl) dX9_hop_65 ?_
                refine j_iconst (pc := 68) (v := (nI 1)) F dX9_hop_68 (by decide) ?_
                first | refine j_isubN (pc := 69) F dX9_hop_69 (by omega) ?_ | refine j_isub (pc := 69) F dX9_hop_69 ?_
                refine j_ialdN (pc := 70) F (by first | assumption | exact hUp_s) (by omega) (by decide) dX9_hop_70 ?_
                refine j_int ((p1 (sz s - 1) (by omega)).trans pl.symm) ?_
                refine j_iload_n (pc := 71) F dX9_hop_71 rfl ?_
                refine j_icmp_eq (pc := 72) F 79 dX9_hop_72 (by decide) (fun c6 => ?_) (fun c6 => ?_)
                · refine j_iconst (pc := 79) (v := (nI 0)) F dX9_hop_79 (by decide) ?_
                  refine j_put (pc := 80) F fp_X9_47 (by first | assumption | exact hUp_s) (by rfl) (by rfl) (Nat.le_of_ble_eq_true rfl) dX9_hop_80 ?_
                  first | refine j_iincN (pc := 83) F dX9_hop_83 rfl (by decide) ?_ | refine j_iincM (pc := 83) F dX9_hop_83 rfl (by decide) ?_ | refine j_iinc (pc := 83) F dX9_hop_83 rfl rfl (by decide) ?_
                  refine j_goto (pc := 86) F 34 dX9_hop_86 (by decide) ?_
                  exact nofound (fun t => c6) _ _ (q3.tw hUp_s (fun b hb => hUp_n hb)) ⟨rfl, rfl, rfl, trivial⟩
                · have ec : hcode s v = 2 := by
                    have pl2 : pLeft (sz s) (sN s) v = true := decide_eq_true ⟨c6, k, c3, c5⟩
                    rw [hcode, if_pos c, if_pos (Or.inr pl2)]
                  refine j_iconst (pc := 75) (v := (nI 2)) F dX9_hop_75 (by decide) ?_
                  refine j_goto (pc := 76) F 80 dX9_hop_76 (by decide) ?_
                  refine j_put (pc := 80) F fp_X9_47 (by first | assumption | exact hUp_s) (by rfl) (by rfl) (Nat.le_of_ble_eq_true rfl) dX9_hop_80 ?_
                  first | refine j_iincN (pc := 83) F dX9_hop_83 rfl (by decide) ?_ | refine j_iincM (pc := 83) F dX9_hop_83 rfl (by decide) ?_ | refine j_iinc (pc := 83) F dX9_hop_83 rfl rfl (by decide) ?_
                  refine j_goto (pc := 86) F 34 dX9_hop_86 (by decide) ?_
                  exact exit2 _ 2 (k + 1) _ (by omega) (by omega) (by omega) (q3.tw hUp_s (fun b hb => hUp_n hb)) ec ⟨rfl, rfl, rfl, trivial⟩
      exact loop (sz s + 1) 0 h2 _ (by omega) (Nat.zero_le _) z2 (fun j hj => absurd hj (Nat.not_lt_zero j)) ⟨rfl, rfl, rfl, trivial⟩
    · have ec : hcode s v = 2 := by rw [hcode, if_pos c, if_pos (Or.inl (by omega))]
      refine j_iconst (pc := 24) (v := (nI 2)) F dX9_hop_24 (by decide) ?_
      refine j_goto (pc := 25) F 29 dX9_hop_25 (by decide) ?_
      refine j_put (pc := 29) F fp_X9_47 (by first | assumption | exact hUp_s) (by rfl) (by rfl) (Nat.le_of_ble_eq_true rfl) dX9_hop_29 ?_
      refine j_iconst (pc := 32) (v := (nI 0)) F dX9_hop_32 (by decide) ?_
      refine j_istore_n (pc := 33) F dX9_hop_33 (by decide) ?_
      exact exit2 _ 2 0 _ (by omega) (by omega) (by omega) (z.tw hUp_s (fun b hb => hUp_n hb)) ec ⟨rfl, rfl, rfl, trivial⟩
  · have ec : hcode s v = 1 := by rw [hcode, if_neg (by rw [c]; simp)]
    refine j_iconst (pc := 11) (v := (nI 1)) F dX9_hop_11 (by decide) ?_
    refine j_goto (pc := 12) F 29 dX9_hop_12 (by decide) ?_
    refine j_put (pc := 29) F fp_X9_47 (by first | assumption | exact hUp_s) (by rfl) (by rfl) (Nat.le_of_ble_eq_true rfl) dX9_hop_29 ?_
    refine j_iconst (pc := 32) (v := (nI 0)) F dX9_hop_32 (by decide) ?_
    refine j_istore_n (pc := 33) F dX9_hop_33 (by decide) ?_
    exact exit2 _ 1 0 _ (by omega) (by omega) (by omega) (z.tw hUp_s (fun b hb => hUp_n hb)) ec ⟨rfl, rfl, rfl, trivial⟩
end MQ1
