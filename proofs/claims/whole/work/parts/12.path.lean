/-! ===== Bgpreplay$Path: its size, and a row of networks ===== -/
/-- the path object p of z networks N -/
def isPath (g : GG) (h : HF) (p z : Nat) (N : Nat → Nat) : Prop := ∃ (a : Nat) (r : Nat → Int32), h p = some (.inr (2, [.ref a, .int (nI z)])) ∧ h a = some (aI g 8 r) ∧ z ≤ 8 ∧ ∀ j, j < z → r j = nI (N j)
/-- the network at a place, -1 if there is none -/
def pAt (z : Nat) (N : Nat → Nat) (i : Int) : Int32 := if 0 ≤ i ∧ i < z then nI (N i.toNat) else -1
/-- a network is in the path, and isn't the last one -/
def pLeft (z : Nat) (N : Nat → Nat) (k : Int32) : Bool := decide (pAt z N (z - 1) ≠ k ∧ ∃ j, j < z ∧ nI (N j) = k)
section PATH
variable {l : Launch} {g : GG} {A : Nat → Prop} {h : HF}
theorem c_X2_size {p z : Nat} {N : Nat → Nat} (hp : isPath g h p z N) : MI l g A h yX2_size cX2_size 1 (some .int) 0 0 0 [.ref p] (fun r h1 => r = nI z ∧ h1 = h) := by
  obtain ⟨a, rr, e1, e2, hz, hN⟩ := hp
  refine j_met (by decide +kernel) (Nat.le_of_ble_eq_true rfl) (fun X F hn hQ => ?_)
  first | refine j_aload_n (pc := 0) F dX2_size_0 rfl ?_ | refine j_aload_nq (pc := 0) F dX2_size_0 rfl ?_
  refine j_get (pc := 1) F fg_X2_15 (by first | assumption | (simp only [hUp_s])) (by rfl) dX2_size_1 ?_
  exact j_iret F hQ rfl rfl (by omega) (by omega) dX2_size_4 ⟨rfl, rfl⟩
theorem c_X2_isFull {p z : Nat} {N : Nat → Nat} (hp : isPath g h p z N) : MI l g A h yX2_isFull cX2_isFull 1 (some .boolean) 0 0 0 [.ref p] (fun r h1 => r = bI (decide (8 ≤ z)) ∧ h1 = h) := by
  obtain ⟨a, rr, e1, e2, hz, hN⟩ := hp
  refine j_met (by decide +kernel) (Nat.le_of_ble_eq_true rfl) (fun X F hn hQ => ?_)
  first | refine j_aload_n (pc := 0) F dX2_isFull_0 rfl ?_ | refine j_aload_nq (pc := 0) F dX2_isFull_0 rfl ?_
  refine j_get (pc := 1) F fg_X2_15 (by first | assumption | (simp only [hUp_s])) (by rfl) dX2_isFull_1 ?_
  refine j_bipush (pc := 4) (v := (nI 8)) F dX2_isFull_4 (by decide) ?_
  first | refine j_icmp_ltN (pc := 6) F 13 dX2_isFull_6 (by decide) (by omega) (by omega) (fun c => ?_) (fun c => ?_) | refine j_icmp_ltIN (pc := 6) F 13 dX2_isFull_6 (by decide) (by omega) (fun c => ?_) (fun c => ?_) | refine j_icmp_ltNI (pc := 6) F 13 dX2_isFull_6 (by decide) (by omega) (fun c => ?_) (fun c => ?_) | refine j_icmp_ltI (pc := 6) F 13 dX2_isFull_6 (by decide) (fun c => ?_) (fun c => ?_)
  · refine j_iconst (pc := 13) (v := (nI 0)) F dX2_isFull_13 (by decide) ?_
    exact j_iret F hQ rfl rfl (by omega) (by omega) dX2_isFull_14 ⟨by rw [decide_eq_false (by omega)]; rfl, rfl⟩
  · refine j_iconst (pc := 9) (v := (nI 1)) F dX2_isFull_9 (by decide) ?_
    refine j_goto (pc := 10) F 14 dX2_isFull_10 (by decide) ?_
    exact j_iret F hQ rfl rfl (by omega) (by omega) dX2_isFull_14 ⟨by rw [decide_eq_true (by omega)]; rfl, rfl⟩
theorem c_X2_networkAt {p z : Nat} {N : Nat → Nat} {x : Int32} (hp : isPath g h p z N) : MI l g A h yX2_networkAt cX2_networkAt 2 (some .int) 0 0 0 [.ref p, .int x] (fun r h1 => r = pAt z N x.toInt ∧ h1 = h) := by
  obtain ⟨a, rr, e1, e2, hz, hN⟩ := hp
  refine j_met (by decide +kernel) (Nat.le_of_ble_eq_true rfl) (fun X F hn hQ => ?_)
  refine j_iload_n (pc := 0) F dX2_networkAt_0 rfl ?_
  first | refine j_if_ltN (pc := 1) F 12 dX2_networkAt_1 (by decide) (by omega) (fun c => ?_) (fun c => ?_) | refine j_if_ltI (pc := 1) F 12 dX2_networkAt_1 (by decide) (fun c => ?_) (fun c => ?_)
  · refine j_iconst (pc := 12) (v := (-1)) F dX2_networkAt_12 (by decide) ?_
    refine j_goto (pc := 13) F 22 dX2_networkAt_13 (by decide) ?_
    exact j_iret F hQ rfl rfl (by omega) (by omega) dX2_networkAt_22 ⟨by unfold pAt; rw [if_neg (by omega)], rfl⟩
  · refine j_iload_n (pc := 4) F dX2_networkAt_4 rfl ?_
    first | refine j_aload_n (pc := 5) F dX2_networkAt_5 rfl ?_ | refine j_aload_nq (pc := 5) F dX2_networkAt_5 rfl ?_
    refine j_get (pc := 6) F fg_X2_15 (by first | assumption | (simp only [hUp_s])) (by rfl) dX2_networkAt_6 ?_
    first | refine j_icmp_ltN (pc := 9) F 16 dX2_networkAt_9 (by decide) (by omega) (by omega) (fun c2 => ?_) (fun c2 => ?_) | refine j_icmp_ltIN (pc := 9) F 16 dX2_networkAt_9 (by decide) (by omega) (fun c2 => ?_) (fun c2 => ?_) | refine j_icmp_ltNI (pc := 9) F 16 dX2_networkAt_9 (by decide) (by omega) (fun c2 => ?_) (fun c2 => ?_) | refine j_icmp_ltI (pc := 9) F 16 dX2_networkAt_9 (by decide) (fun c2 => ?_) (fun c2 => ?_)
    · obtain ⟨j, hj, rfl, ej⟩ := q_nat c
      first | refine j_aload_n (pc := 16) F dX2_networkAt_16 rfl ?_ | refine j_aload_nq (pc := 16) F dX2_networkAt_16 rfl ?_
      refine j_get (pc := 17) F fg_X2_9 (by first | assumption | (simp only [hUp_s])) (by rfl) dX2_networkAt_17 ?_
      refine j_iload_n (pc := 20) F dX2_networkAt_20 rfl ?_
      refine j_ialdN (pc := 21) F (by first | assumption | (simp only [hUp_s])) (by omega) (by decide) dX2_networkAt_21 ?_
      exact j_iret F hQ rfl rfl (by omega) (by omega) dX2_networkAt_22 ⟨by unfold pAt; rw [if_pos (by omega), hN _ (by omega), ej]; rfl, rfl⟩
    · refine j_iconst (pc := 12) (v := (-1)) F dX2_networkAt_12 (by decide) ?_
      refine j_goto (pc := 13) F 22 dX2_networkAt_13 (by decide) ?_
      exact j_iret F hQ rfl rfl (by omega) (by omega) dX2_networkAt_22 ⟨by unfold pAt; rw [if_neg (by omega)], rfl⟩
theorem c_X2_origin {p z : Nat} {N : Nat → Nat} (hp : isPath g h p z N) : MI l g A h yX2_origin cX2_origin 1 (some .int) 1 0 0 [.ref p] (fun r h1 => r = pAt z N (z - 1) ∧ h1 = h) := by
  have hp0 := hp
  obtain ⟨a, rr, e1, e2, hz, hN⟩ := hp
  refine j_met (by decide +kernel) (Nat.le_of_ble_eq_true rfl) (fun X F hn hQ => ?_)
  first | refine j_aload_n (pc := 0) F dX2_origin_0 rfl ?_ | refine j_aload_nq (pc := 0) F dX2_origin_0 rfl ?_
  first | refine j_aload_n (pc := 1) F dX2_origin_1 rfl ?_ | refine j_aload_nq (pc := 1) F dX2_origin_1 rfl ?_
  refine j_get (pc := 2) F fg_X2_15 (by first | assumption | (simp only [hUp_s])) (by rfl) dX2_origin_2 ?_
  refine j_iconst (pc := 5) (v := (nI 1)) F dX2_origin_5 (by decide) ?_
  refine j_isub (pc := 6) F dX2_origin_6 ?_
  refine j_ri (j_runV (pc := 7) F (c_X2_networkAt hp0) m_X2_networkAt mv_X2_networkAt lk_X2_19 (by first | assumption | (simp only [hUp_s])) rfl ⟨by decide, by decide⟩ (Nat.le_of_ble_eq_true rfl) ⟨by omega, by omega⟩ rfl dX2_origin_7) (fun r h1 hp => ?_)
  obtain ⟨rfl, rfl⟩ := hp
  exact j_iret F hQ rfl rfl (by omega) (by omega) dX2_origin_10 ⟨by rw [pk_sub_toInt (by omega) (by omega)]; rfl, rfl⟩
end PATH
