/-! ===== the static methods of Bgpreplay ===== -/
def okPeer (x : Int32) : Bool := decide (0 ≤ x.toInt ∧ x.toInt < 6)
def okNet (x : Int32) : Bool := decide (1 ≤ x.toInt ∧ x.toInt ≤ 30)
def okAdr (x : Int32) : Bool := decide (0 ≤ x.toInt ∧ x.toInt < 256)
def okPn (x : Int32) : Bool := decide (1 ≤ x.toInt ∧ x.toInt < 512)
def okPfx (a l : Int32) : Bool := decide ((0 ≤ a.toInt ∧ a.toInt < 256) ∧ (0 ≤ l.toInt ∧ l.toInt ≤ 8) ∧ a &&& ((nI 1 <<< ((nI 8 - l) &&& 31)) - nI 1) = 0)
def pnum (a l : Int32) : Int32 := (nI 256 + a) >>> ((nI 8 - l) &&& 31)
def revR (x : Int32) : Int32 := if x = 1 then 3 else if x = 3 then 1 else x
section STAT
variable {l : Launch} {g : GG} {A : Nat → Prop} {h : HF}
theorem c_X8_isPeer (x : Int32) : MI l g A h yX8_isPeer cX8_isPeer 1 (some .boolean) 0 0 0 [.int x] (fun r h1 => r = bI (okPeer x) ∧ h1 = h) := by
  refine j_met (by decide +kernel) (Nat.le_of_ble_eq_true rfl) (fun X F hn hQ => ?_)
  refine j_iload_n (pc := 0) F dX8_isPeer_0 rfl ?_
  first | refine j_if_ltN (pc := 1) F 14 dX8_isPeer_1 (by decide) (by omega) (fun c => ?_) (fun c => ?_) | refine j_if_ltI (pc := 1) F 14 dX8_isPeer_1 (by decide) (fun c => ?_) (fun c => ?_)
  · refine j_iconst (pc := 14) (v := (nI 0)) F dX8_isPeer_14 (by decide) ?_
    exact j_iret F hQ rfl rfl (by omega) (by omega) dX8_isPeer_15 ⟨by rw [okPeer, decide_eq_false (by omega)]; rfl, rfl⟩
  · refine j_iload_n (pc := 4) F dX8_isPeer_4 rfl ?_
    refine j_bipush (pc := 5) (v := (nI 6)) F dX8_isPeer_5 (by decide) ?_
    first | refine j_icmp_geN (pc := 7) F 14 dX8_isPeer_7 (by decide) (by omega) (by omega) (fun c2 => ?_) (fun c2 => ?_) | refine j_icmp_geIN (pc := 7) F 14 dX8_isPeer_7 (by decide) (by omega) (fun c2 => ?_) (fun c2 => ?_) | refine j_icmp_geNI (pc := 7) F 14 dX8_isPeer_7 (by decide) (by omega) (fun c2 => ?_) (fun c2 => ?_) | refine j_icmp_geI (pc := 7) F 14 dX8_isPeer_7 (by decide) (fun c2 => ?_) (fun c2 => ?_)
    · refine j_iconst (pc := 14) (v := (nI 0)) F dX8_isPeer_14 (by decide) ?_
      exact j_iret F hQ rfl rfl (by omega) (by omega) dX8_isPeer_15 ⟨by rw [okPeer, decide_eq_false (by omega)]; rfl, rfl⟩
    · refine j_iconst (pc := 10) (v := (nI 1)) F dX8_isPeer_10 (by decide) ?_
      refine j_goto (pc := 11) F 15 dX8_isPeer_11 (by decide) ?_
      exact j_iret F hQ rfl rfl (by omega) (by omega) dX8_isPeer_15 ⟨by rw [okPeer, decide_eq_true (by omega)]; rfl, rfl⟩
theorem c_X8_isNetwork (x : Int32) : MI l g A h yX8_isNetwork cX8_isNetwork 1 (some .boolean) 0 0 0 [.int x] (fun r h1 => r = bI (okNet x) ∧ h1 = h) := by
  refine j_met (by decide +kernel) (Nat.le_of_ble_eq_true rfl) (fun X F hn hQ => ?_)
  refine j_iload_n (pc := 0) F dX8_isNetwork_0 rfl ?_
  refine j_iconst (pc := 1) (v := (nI 1)) F dX8_isNetwork_1 (by decide) ?_
  first | refine j_icmp_ltN (pc := 2) F 15 dX8_isNetwork_2 (by decide) (by omega) (by omega) (fun c => ?_) (fun c => ?_) | refine j_icmp_ltIN (pc := 2) F 15 dX8_isNetwork_2 (by decide) (by omega) (fun c => ?_) (fun c => ?_) | refine j_icmp_ltNI (pc := 2) F 15 dX8_isNetwork_2 (by decide) (by omega) (fun c => ?_) (fun c => ?_) | refine j_icmp_ltI (pc := 2) F 15 dX8_isNetwork_2 (by decide) (fun c => ?_) (fun c => ?_)
  · refine j_iconst (pc := 15) (v := (nI 0)) F dX8_isNetwork_15 (by decide) ?_
    exact j_iret F hQ rfl rfl (by omega) (by omega) dX8_isNetwork_16 ⟨by rw [okNet, decide_eq_false (by omega)]; rfl, rfl⟩
  · refine j_iload_n (pc := 5) F dX8_isNetwork_5 rfl ?_
    refine j_bipush (pc := 6) (v := (nI 30)) F dX8_isNetwork_6 (by decide) ?_
    first | refine j_icmp_gtN (pc := 8) F 15 dX8_isNetwork_8 (by decide) (by omega) (by omega) (fun c2 => ?_) (fun c2 => ?_) | refine j_icmp_gtIN (pc := 8) F 15 dX8_isNetwork_8 (by decide) (by omega) (fun c2 => ?_) (fun c2 => ?_) | refine j_icmp_gtNI (pc := 8) F 15 dX8_isNetwork_8 (by decide) (by omega) (fun c2 => ?_) (fun c2 => ?_) | refine j_icmp_gtI (pc := 8) F 15 dX8_isNetwork_8 (by decide) (fun c2 => ?_) (fun c2 => ?_)
    · refine j_iconst (pc := 15) (v := (nI 0)) F dX8_isNetwork_15 (by decide) ?_
      exact j_iret F hQ rfl rfl (by omega) (by omega) dX8_isNetwork_16 ⟨by rw [okNet, decide_eq_false (by omega)]; rfl, rfl⟩
    · refine j_iconst (pc := 11) (v := (nI 1)) F dX8_isNetwork_11 (by decide) ?_
      refine j_goto (pc := 12) F 16 dX8_isNetwork_12 (by decide) ?_
      exact j_iret F hQ rfl rfl (by omega) (by omega) dX8_isNetwork_16 ⟨by rw [okNet, decide_eq_true (by omega)]; rfl, rfl⟩
theorem c_X8_isAddress (x : Int32) : MI l g A h yX8_isAddress cX8_isAddress 1 (some .boolean) 0 0 0 [.int x] (fun r h1 => r = bI (okAdr x) ∧ h1 = h) := by
  refine j_met (by decide +kernel) (Nat.le_of_ble_eq_true rfl) (fun X F hn hQ => ?_)
  refine j_iload_n (pc := 0) F dX8_isAddress_0 rfl ?_
  first | refine j_if_ltN (pc := 1) F 15 dX8_isAddress_1 (by decide) (by omega) (fun c => ?_) (fun c => ?_) | refine j_if_ltI (pc := 1) F 15 dX8_isAddress_1 (by decide) (fun c => ?_) (fun c => ?_)
  · refine j_iconst (pc := 15) (v := (nI 0)) F dX8_isAddress_15 (by decide) ?_
    exact j_iret F hQ rfl rfl (by omega) (by omega) dX8_isAddress_16 ⟨by rw [okAdr, decide_eq_false (by omega)]; rfl, rfl⟩
  · refine j_iload_n (pc := 4) F dX8_isAddress_4 rfl ?_
    refine j_sipush (pc := 5) (v := (nI 256)) F dX8_isAddress_5 (by decide) ?_
    first | refine j_icmp_geN (pc := 8) F 15 dX8_isAddress_8 (by decide) (by omega) (by omega) (fun c2 => ?_) (fun c2 => ?_) | refine j_icmp_geIN (pc := 8) F 15 dX8_isAddress_8 (by decide) (by omega) (fun c2 => ?_) (fun c2 => ?_) | refine j_icmp_geNI (pc := 8) F 15 dX8_isAddress_8 (by decide) (by omega) (fun c2 => ?_) (fun c2 => ?_) | refine j_icmp_geI (pc := 8) F 15 dX8_isAddress_8 (by decide) (fun c2 => ?_) (fun c2 => ?_)
    · refine j_iconst (pc := 15) (v := (nI 0)) F dX8_isAddress_15 (by decide) ?_
      exact j_iret F hQ rfl rfl (by omega) (by omega) dX8_isAddress_16 ⟨by rw [okAdr, decide_eq_false (by omega)]; rfl, rfl⟩
    · refine j_iconst (pc := 11) (v := (nI 1)) F dX8_isAddress_11 (by decide) ?_
      refine j_goto (pc := 12) F 16 dX8_isAddress_12 (by decide) ?_
      exact j_iret F hQ rfl rfl (by omega) (by omega) dX8_isAddress_16 ⟨by rw [okAdr, decide_eq_true (by omega)]; rfl, rfl⟩
theorem c_X8_isPrefixNumber (x : Int32) : MI l g A h yX8_isPrefixNumber cX8_isPrefixNumber 1 (some .boolean) 0 0 0 [.int x] (fun r h1 => r = bI (okPn x) ∧ h1 = h) := by
  refine j_met (by decide +kernel) (Nat.le_of_ble_eq_true rfl) (fun X F hn hQ => ?_)
  refine j_iload_n (pc := 0) F dX8_isPrefixNumber_0 rfl ?_
  refine j_iconst (pc := 1) (v := (nI 1)) F dX8_isPrefixNumber_1 (by decide) ?_
  first | refine j_icmp_ltN (pc := 2) F 16 dX8_isPrefixNumber_2 (by decide) (by omega) (by omega) (fun c => ?_) (fun c => ?_) | refine j_icmp_ltIN (pc := 2) F 16 dX8_isPrefixNumber_2 (by decide) (by omega) (fun c => ?_) (fun c => ?_) | refine j_icmp_ltNI (pc := 2) F 16 dX8_isPrefixNumber_2 (by decide) (by omega) (fun c => ?_) (fun c => ?_) | refine j_icmp_ltI (pc := 2) F 16 dX8_isPrefixNumber_2 (by decide) (fun c => ?_) (fun c => ?_)
  · refine j_iconst (pc := 16) (v := (nI 0)) F dX8_isPrefixNumber_16 (by decide) ?_
    exact j_iret F hQ rfl rfl (by omega) (by omega) dX8_isPrefixNumber_17 ⟨by rw [okPn, decide_eq_false (by omega)]; rfl, rfl⟩
  · refine j_iload_n (pc := 5) F dX8_isPrefixNumber_5 rfl ?_
    refine j_sipush (pc := 6) (v := (nI 512)) F dX8_isPrefixNumber_6 (by decide) ?_
    first | refine j_icmp_geN (pc := 9) F 16 dX8_isPrefixNumber_9 (by decide) (by omega) (by omega) (fun c2 => ?_) (fun c2 => ?_) | refine j_icmp_geIN (pc := 9) F 16 dX8_isPrefixNumber_9 (by decide) (by omega) (fun c2 => ?_) (fun c2 => ?_) | refine j_icmp_geNI (pc := 9) F 16 dX8_isPrefixNumber_9 (by decide) (by omega) (fun c2 => ?_) (fun c2 => ?_) | refine j_icmp_geI (pc := 9) F 16 dX8_isPrefixNumber_9 (by decide) (fun c2 => ?_) (fun c2 => ?_)
    · refine j_iconst (pc := 16) (v := (nI 0)) F dX8_isPrefixNumber_16 (by decide) ?_
      exact j_iret F hQ rfl rfl (by omega) (by omega) dX8_isPrefixNumber_17 ⟨by rw [okPn, decide_eq_false (by omega)]; rfl, rfl⟩
    · refine j_iconst (pc := 12) (v := (nI 1)) F dX8_isPrefixNumber_12 (by decide) ?_
      refine j_goto (pc := 13) F 17 dX8_isPrefixNumber_13 (by decide) ?_
      exact j_iret F hQ rfl rfl (by omega) (by omega) dX8_isPrefixNumber_17 ⟨by rw [okPn, decide_eq_true (by omega)]; rfl, rfl⟩
theorem c_X8_isPrefix (x y : Int32) : MI l g A h yX8_isPrefix cX8_isPrefix 3 (some .boolean) 1 0 0 [.int x, .int y] (fun r h1 => r = bI (okPfx x y) ∧ h1 = h) := by
  refine j_met (by decide +kernel) (Nat.le_of_ble_eq_true rfl) (fun X F hn hQ => ?_)
  refine j_iload_n (pc := 0) F dX8_isPrefix_0 rfl ?_
  refine j_ri (j_runS (pc := 1) F (c_X8_isAddress x) m_X8_isAddress ms_X8_isAddress lk_X8_247 ⟨by decide, by decide⟩ (Nat.le_of_ble_eq_true rfl) ⟨by omega, by omega⟩ rfl dX8_isPrefix_1) (fun r h1 hp => ?_)
  obtain ⟨rfl, rfl⟩ := hp
  first | refine j_if_eqB (pc := 4) F 17 dX8_isPrefix_4 (by decide) (fun c => ?_) (fun c => ?_) | refine j_if_eqN (pc := 4) F 17 dX8_isPrefix_4 (by decide) (by omega) (fun c => ?_) (fun c => ?_) | refine j_if_eqI (pc := 4) F 17 dX8_isPrefix_4 (by decide) (fun c => ?_) (fun c => ?_)
  · refine j_iconst (pc := 17) (v := (nI 0)) F dX8_isPrefix_17 (by decide) ?_
    have c1 := of_decide_eq_false c
    exact j_iret F hQ rfl rfl (by omega) (by omega) dX8_isPrefix_18 ⟨by rw [okPfx, decide_eq_false (fun z => c1 z.1)]; rfl, rfl⟩
  · have c1 := of_decide_eq_true c
    refine j_iload_n (pc := 7) F dX8_isPrefix_7 rfl ?_
    first | refine j_if_ltN (pc := 8) F 17 dX8_isPrefix_8 (by decide) (by omega) (fun c2 => ?_) (fun c2 => ?_) | refine j_if_ltI (pc := 8) F 17 dX8_isPrefix_8 (by decide) (fun c2 => ?_) (fun c2 => ?_)
    · refine j_iconst (pc := 17) (v := (nI 0)) F dX8_isPrefix_17 (by decide) ?_
      exact j_iret F hQ rfl rfl (by omega) (by omega) dX8_isPrefix_18 ⟨by rw [okPfx, decide_eq_false (fun z => by have := z.2.1; omega)]; rfl, rfl⟩
    · refine j_iload_n (pc := 11) F dX8_isPrefix_11 rfl ?_
      refine j_bipush (pc := 12) (v := (nI 8)) F dX8_isPrefix_12 (by decide) ?_
      first | refine j_icmp_leN (pc := 14) F 19 dX8_isPrefix_14 (by decide) (by omega) (by omega) (fun c3 => ?_) (fun c3 => ?_) | refine j_icmp_leIN (pc := 14) F 19 dX8_isPrefix_14 (by decide) (by omega) (fun c3 => ?_) (fun c3 => ?_) | refine j_icmp_leNI (pc := 14) F 19 dX8_isPrefix_14 (by decide) (by omega) (fun c3 => ?_) (fun c3 => ?_) | refine j_icmp_leI (pc := 14) F 19 dX8_isPrefix_14 (by decide) (fun c3 => ?_) (fun c3 => ?_)
      · refine j_iconst (pc := 19) (v := (nI 1)) F dX8_isPrefix_19 (by decide) ?_
        refine j_bipush (pc := 20) (v := (nI 8)) F dX8_isPrefix_20 (by decide) ?_
        refine j_iload_n (pc := 22) F dX8_isPrefix_22 rfl ?_
        first | refine j_isubN (pc := 23) F dX8_isPrefix_23 (by omega) ?_ | refine j_isub (pc := 23) F dX8_isPrefix_23 ?_
        refine j_ishl (pc := 24) F dX8_isPrefix_24 ?_
        refine j_iconst (pc := 25) (v := (nI 1)) F dX8_isPrefix_25 (by decide) ?_
        first | refine j_isubN (pc := 26) F dX8_isPrefix_26 (by omega) ?_ | refine j_isub (pc := 26) F dX8_isPrefix_26 ?_
        refine j_istore_n (pc := 27) F dX8_isPrefix_27 (by decide) ?_
        refine j_iload_n (pc := 28) F dX8_isPrefix_28 rfl ?_
        refine j_iload_n (pc := 29) F dX8_isPrefix_29 rfl ?_
        refine j_iand (pc := 30) F dX8_isPrefix_30 ?_
        refine j_if_ne (pc := 31) F 38 dX8_isPrefix_31 (by decide) (fun c4 => ?_) (fun c4 => ?_)
        · refine j_iconst (pc := 38) (v := (nI 0)) F dX8_isPrefix_38 (by decide) ?_
          exact j_iret F hQ rfl rfl (by omega) (by omega) dX8_isPrefix_39 ⟨by rw [okPfx, decide_eq_false (fun z => c4 z.2.2)]; rfl, rfl⟩
        · refine j_iconst (pc := 34) (v := (nI 1)) F dX8_isPrefix_34 (by decide) ?_
          refine j_goto (pc := 35) F 39 dX8_isPrefix_35 (by decide) ?_
          exact j_iret F hQ rfl rfl (by omega) (by omega) dX8_isPrefix_39 ⟨by rw [okPfx, decide_eq_true ⟨c1, ⟨by omega, by omega⟩, c4⟩]; rfl, rfl⟩
      · refine j_iconst (pc := 17) (v := (nI 0)) F dX8_isPrefix_17 (by decide) ?_
        exact j_iret F hQ rfl rfl (by omega) (by omega) dX8_isPrefix_18 ⟨by rw [okPfx, decide_eq_false (fun z => by have := z.2.1; omega)]; rfl, rfl⟩
theorem c_X8_prefixNumber (x y : Int32) : MI l g A h yX8_prefixNumber cX8_prefixNumber 2 (some .int) 0 0 0 [.int x, .int y] (fun r h1 => r = pnum x y ∧ h1 = h) := by
  refine j_met (by decide +kernel) (Nat.le_of_ble_eq_true rfl) (fun X F hn hQ => ?_)
  refine j_sipush (pc := 0) (v := (nI 256)) F dX8_prefixNumber_0 (by decide) ?_
  refine j_iload_n (pc := 3) F dX8_prefixNumber_3 rfl ?_
  first | refine j_iaddN (pc := 4) F dX8_prefixNumber_4 ?_ | refine j_iadd (pc := 4) F dX8_prefixNumber_4 ?_
  refine j_bipush (pc := 5) (v := (nI 8)) F dX8_prefixNumber_5 (by decide) ?_
  refine j_iload_n (pc := 7) F dX8_prefixNumber_7 rfl ?_
  first | refine j_isubN (pc := 8) F dX8_prefixNumber_8 (by omega) ?_ | refine j_isub (pc := 8) F dX8_prefixNumber_8 ?_
  refine j_ishr (pc := 9) F dX8_prefixNumber_9 ?_
  exact j_iret F hQ rfl rfl (by omega) (by omega) dX8_prefixNumber_10 ⟨rfl, rfl⟩
theorem c_X8_networkOf (x : Int32) : MI l g A h yX8_networkOf cX8_networkOf 1 (some .int) 0 0 0 [.int x] (fun r h1 => r = x + nI 1 ∧ h1 = h) := by
  refine j_met (by decide +kernel) (Nat.le_of_ble_eq_true rfl) (fun X F hn hQ => ?_)
  refine j_iload_n (pc := 0) F dX8_networkOf_0 rfl ?_
  refine j_iconst (pc := 1) (v := (nI 1)) F dX8_networkOf_1 (by decide) ?_
  first | refine j_iaddN (pc := 2) F dX8_networkOf_2 ?_ | refine j_iadd (pc := 2) F dX8_networkOf_2 ?_
  exact j_iret F hQ rfl rfl (by omega) (by omega) dX8_networkOf_3 ⟨rfl, rfl⟩
theorem c_X8_reverseOf (x : Int32) : MI l g A h yX8_reverseOf cX8_reverseOf 1 (some .int) 0 0 0 [.int x] (fun r h1 => r = revR x ∧ h1 = h) := by
  refine j_met (by decide +kernel) (Nat.le_of_ble_eq_true rfl) (fun X F hn hQ => ?_)
  refine j_iload_n (pc := 0) F dX8_reverseOf_0 rfl ?_
  by_cases c1 : x = 1
  · subst c1
    refine j_lookup (pc := 1) (off := 27) F 28 dX8_reverseOf_1 (by decide) (by decide) (by decide) ?_
    refine j_iconst (pc := 28) (v := (nI 3)) F dX8_reverseOf_28 (by decide) ?_
    exact j_iret F hQ rfl rfl (by omega) (by omega) dX8_reverseOf_29 ⟨rfl, rfl⟩
  · by_cases c3 : x = 3
    · subst c3
      refine j_lookup (pc := 1) (off := 29) F 30 dX8_reverseOf_1 (by decide) (by decide) (by decide) ?_
      refine j_iconst (pc := 30) (v := (nI 1)) F dX8_reverseOf_30 (by decide) ?_
      exact j_iret F hQ rfl rfl (by omega) (by omega) dX8_reverseOf_31 ⟨rfl, rfl⟩
    · have z1 : ¬ x.toInt = 1 := fun z => c1 ((q_eq _ _).mpr (z.trans (by decide)))
      have z3 : ¬ x.toInt = 3 := fun z => c3 ((q_eq _ _).mpr (z.trans (by decide)))
      refine j_lookup (pc := 1) (off := 31) F 32 dX8_reverseOf_1 (by decide) (by simp [Op.lookupswitch.offset, z1, z3, Ne.symm z1, Ne.symm z3]) (by decide) ?_
      refine j_iload_n (pc := 32) F dX8_reverseOf_32 rfl ?_
      exact j_iret F hQ rfl rfl (by omega) (by omega) dX8_reverseOf_33 ⟨by rw [revR, if_neg c1, if_neg c3], rfl⟩
end STAT
