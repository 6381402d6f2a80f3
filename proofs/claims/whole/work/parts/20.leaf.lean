/-! ===== leaves ===== -/
theorem c_pair (X : jX) (I : jMI) (a b : Int) : C_X11_pair X [jI a, jI b] I (fun r I' => r = a * 8 + b ∧ I' = I) := by
  refine CG.of (by decide) [some (jI a), some (jI b)] rfl (Nat.le_of_ble_eq_true rfl) ?_
  refine j_iload_n (pc := 0) dX11_pair_0 rfl ?_
  refine j_bipush (pc := 1) dX11_pair_1 (by decide) ?_
  refine j_imul (pc := 3) dX11_pair_3 ?_
  refine j_iload_n (pc := 4) dX11_pair_4 rfl ?_
  refine j_iadd (pc := 5) dX11_pair_5 ?_
  exact j_reti dX11_pair_6 (⟨rfl, rfl⟩) rfl
theorem c_bit (X : jX) (I : jMI) (a b : Int) : C_X11_bit X [jI a, jI b] I (fun r I' => r = jband (jshr a b) 1 ∧ I' = I) := by
  refine CG.of (by decide) [some (jI a), some (jI b)] rfl (Nat.le_of_ble_eq_true rfl) ?_
  refine j_iload_n (pc := 0) dX11_bit_0 rfl ?_
  refine j_iload_n (pc := 1) dX11_bit_1 rfl ?_
  refine j_ishr (pc := 2) dX11_bit_2 ?_
  refine j_iconst (pc := 3) dX11_bit_3 ?_
  refine j_iand (pc := 4) dX11_bit_4 ?_
  exact j_reti dX11_bit_5 (⟨rfl, rfl⟩) rfl
theorem c_within (X : jX) (I : jMI) (a b : Int) (ha : -2147483648 ≤ a ∧ a < 2147483648) (hb : -2147483648 ≤ b ∧ b < 2147483648) : C_X11_within X [jI a, jI b] I (fun r I' => r = (if 0 ≤ a ∧ a ≤ b then 1 else 0) ∧ I' = I) := by
  refine CG.of (by decide) [some (jI a), some (jI b)] rfl (Nat.le_of_ble_eq_true rfl) ?_
  refine j_iload_n (pc := 0) dX11_within_0 rfl ?_
  refine j_if_lt (pc := 1) 13 dX11_within_1 (by decide) (by omega) (fun h_1 => ?_) (fun h_1 => ?_)
  · refine j_iconst (pc := 13) dX11_within_13 ?_
    exact j_retz dX11_within_14 (by omega) (⟨by split <;> omega, rfl⟩) rfl
  · refine j_iload_n (pc := 4) dX11_within_4 rfl ?_
    refine j_iload_n (pc := 5) dX11_within_5 rfl ?_
    refine j_icmp_gt (pc := 6) 13 dX11_within_6 (by decide) (by omega) (by omega) (fun h_6 => ?_) (fun h_6 => ?_)
    · refine j_iconst (pc := 13) dX11_within_13 ?_
      exact j_retz dX11_within_14 (by omega) (⟨by split <;> omega, rfl⟩) rfl
    · refine j_iconst (pc := 9) dX11_within_9 ?_
      refine j_goto (pc := 10) 14 dX11_within_10 (by decide) ?_
      exact j_retz dX11_within_14 (by omega) (⟨by split <;> omega, rfl⟩) rfl
theorem c_isRoom (X : jX) (I : jMI) (a : Int) (ha : -2147483648 ≤ a ∧ a < 2147483648) : C_X11_isRoom X [jI a] I (fun r I' => r = (if 0 ≤ a ∧ a ≤ 7 then 1 else 0) ∧ I' = I) := by
  refine CG.of (by decide) [some (jI a)] rfl (Nat.le_of_ble_eq_true rfl) ?_
  refine j_iload_n (pc := 0) dX11_isRoom_0 rfl ?_
  refine j_bipush (pc := 1) dX11_isRoom_1 (by decide) ?_
  refine j_goI (pc := 3) (j_runS k_X11_80 m_X11_within (c_within X I a 7 ha (by omega)) dX11_isRoom_3 (by decide) rfl rfl (Nat.le_of_ble_eq_true rfl)) (fun r I1 h1 => ?_)
  obtain ⟨rfl, rfl⟩ := h1
  exact j_retz dX11_isRoom_6 (by omega) (⟨rfl, rfl⟩) rfl
theorem c_in (X : jX) (I : jMI) (a b c : Int) (ha : -2147483648 ≤ a ∧ a < 2147483648) (hb : -2147483648 ≤ b ∧ b < 2147483648) (hc : -2147483648 ≤ c ∧ c < 2147483648) : C_X12_in X [jL a, jL b, jL c] I (fun r I' => r = (if b ≤ a ∧ a ≤ c then 1 else 0) ∧ I' = I) := by
  refine CG.of (by decide) [some (jL a), none, some (jL b), none, some (jL c), none] rfl (Nat.le_of_ble_eq_true rfl) ?_
  have e1 := jcmp_lt (a := a) (b := b) (by omega) (by omega)
  have e2 := jcmp_lt (a := a) (b := c) (by omega) (by omega)
  refine j_lload_n (pc := 0) dX12_in_0 rfl ?_
  refine j_lload_n (pc := 1) dX12_in_1 rfl ?_
  refine j_lcmp (pc := 2) dX12_in_2 ?_
  refine j_if_lt (pc := 3) 17 dX12_in_3 (by decide) (by omega) (fun h_3 => ?_) (fun h_3 => ?_)
  · refine j_iconst (pc := 17) dX12_in_17 ?_
    exact j_retz dX12_in_18 (by omega) (⟨by split <;> omega, rfl⟩) rfl
  · refine j_lload_n (pc := 6) dX12_in_6 rfl ?_
    refine j_lload (pc := 7) dX12_in_7 rfl ?_
    refine j_lcmp (pc := 9) dX12_in_9 ?_
    refine j_if_gt (pc := 10) 17 dX12_in_10 (by decide) (by omega) (fun h_10 => ?_) (fun h_10 => ?_)
    · refine j_iconst (pc := 17) dX12_in_17 ?_
      exact j_retz dX12_in_18 (by omega) (⟨by split <;> omega, rfl⟩) rfl
    · refine j_iconst (pc := 13) dX12_in_13 ?_
      refine j_goto (pc := 14) 18 dX12_in_14 (by decide) ?_
      exact j_retz dX12_in_18 (by omega) (⟨by split <;> omega, rfl⟩) rfl
theorem c_mRoom (X : jX) (I : jMI) (a : Int) (ha : -2147483648 ≤ a ∧ a < 2147483648) : C_X12_isRoom X [jI a] I (fun r I' => r = (if 0 ≤ a ∧ a ≤ 7 then 1 else 0) ∧ I' = I) := by
  refine CG.of (by decide) [some (jI a)] rfl (Nat.le_of_ble_eq_true rfl) ?_
  refine j_iload_n (pc := 0) dX12_isRoom_0 rfl ?_
  refine j_i2l (pc := 1) dX12_isRoom_1 (by omega) ?_
  refine j_lconst0 (pc := 2) dX12_isRoom_2 ?_
  refine j_ldc2 (pc := 3) cl_X12_73 dX12_isRoom_3 ?_
  refine j_goI (pc := 6) (j_runS k_X12_75 m_X12_in (c_in X I a 0 7 ha (by omega) (by omega)) dX12_isRoom_6 (by decide) rfl rfl (Nat.le_of_ble_eq_true rfl)) (fun r I1 h1 => ?_)
  obtain ⟨rfl, rfl⟩ := h1
  exact j_retz dX12_isRoom_9 (by omega) (⟨rfl, rfl⟩) rfl
/-- the place of a pair in the reference's row -/
def pairI (a b : Int) : Int := if a < b then a * (15 - a) / 2 + b - a - 1 else b * (15 - b) / 2 + a - b - 1
theorem c_pairOf (X : jX) (I : jMI) (a b : Int) (ha : 0 ≤ a ∧ a < 8) (hb : 0 ≤ b ∧ b < 8) : C_X12_pairOf X [jI a, jI b] I (fun r I' => r = pairI a b ∧ I' = I) := by
  refine CG.of (by decide) [some (jI a), some (jI b), none, none] rfl (Nat.le_of_ble_eq_true rfl) ?_
  have h1 : 0 ≤ a * (15 - a) ∧ a * (15 - a) < 2147483648 := by
    obtain ⟨k, rfl⟩ := Int.eq_ofNat_of_zero_le ha.1
    rcases (show k = 0 ∨ k = 1 ∨ k = 2 ∨ k = 3 ∨ k = 4 ∨ k = 5 ∨ k = 6 ∨ k = 7 by omega) with rfl | rfl | rfl | rfl | rfl | rfl | rfl | rfl <;> decide
  have h2 : 0 ≤ b * (15 - b) ∧ b * (15 - b) < 2147483648 := by
    obtain ⟨k, rfl⟩ := Int.eq_ofNat_of_zero_le hb.1
    rcases (show k = 0 ∨ k = 1 ∨ k = 2 ∨ k = 3 ∨ k = 4 ∨ k = 5 ∨ k = 6 ∨ k = 7 by omega) with rfl | rfl | rfl | rfl | rfl | rfl | rfl | rfl <;> decide
  refine j_iload_n (pc := 0) dX12_pairOf_0 rfl ?_
  refine j_iload_n (pc := 1) dX12_pairOf_1 rfl ?_
  refine j_icmp_ge (pc := 2) 9 dX12_pairOf_2 (by decide) (by omega) (by omega) (fun h_2 => ?_) (fun h_2 => ?_)
  · refine j_iload_n (pc := 9) dX12_pairOf_9 rfl ?_
    refine j_istore_n2 (pc := 10) dX12_pairOf_10 (by decide) rfl ?_
    refine j_iload_n (pc := 11) dX12_pairOf_11 rfl ?_
    refine j_iload_n (pc := 12) dX12_pairOf_12 rfl ?_
    refine j_icmp_ge (pc := 13) 20 dX12_pairOf_13 (by decide) (by omega) (by omega) (fun h_13 => ?_) (fun h_13 => ?_)
    · refine j_iload_n (pc := 20) dX12_pairOf_20 rfl ?_
      refine j_istore_n3 (pc := 21) dX12_pairOf_21 (by decide) rfl ?_
      refine j_iload_n (pc := 22) dX12_pairOf_22 rfl ?_
      refine j_bipush (pc := 23) dX12_pairOf_23 (by decide) ?_
      refine j_iload_n (pc := 25) dX12_pairOf_25 rfl ?_
      refine j_isub (pc := 26) dX12_pairOf_26 ?_
      refine j_imul (pc := 27) dX12_pairOf_27 ?_
      refine j_iconst (pc := 28) dX12_pairOf_28 ?_
      refine j_idiv (pc := 29) dX12_pairOf_29 (by first | exact h1 | exact h2) (by omega) ?_
      refine j_iload_n (pc := 30) dX12_pairOf_30 rfl ?_
      refine j_iadd (pc := 31) dX12_pairOf_31 ?_
      refine j_iload_n (pc := 32) dX12_pairOf_32 rfl ?_
      refine j_isub (pc := 33) dX12_pairOf_33 ?_
      refine j_iconst (pc := 34) dX12_pairOf_34 ?_
      refine j_isub (pc := 35) dX12_pairOf_35 ?_
      exact j_reti dX12_pairOf_36 (⟨by unfold pairI; split <;> omega, rfl⟩) rfl
    · refine j_iload_n (pc := 16) dX12_pairOf_16 rfl ?_
      refine j_goto (pc := 17) 21 dX12_pairOf_17 (by decide) ?_
      refine j_istore_n3 (pc := 21) dX12_pairOf_21 (by decide) rfl ?_
      refine j_iload_n (pc := 22) dX12_pairOf_22 rfl ?_
      refine j_bipush (pc := 23) dX12_pairOf_23 (by decide) ?_
      refine j_iload_n (pc := 25) dX12_pairOf_25 rfl ?_
      refine j_isub (pc := 26) dX12_pairOf_26 ?_
      refine j_imul (pc := 27) dX12_pairOf_27 ?_
      refine j_iconst (pc := 28) dX12_pairOf_28 ?_
      refine j_idiv (pc := 29) dX12_pairOf_29 (by first | exact h1 | exact h2) (by omega) ?_
      refine j_iload_n (pc := 30) dX12_pairOf_30 rfl ?_
      refine j_iadd (pc := 31) dX12_pairOf_31 ?_
      refine j_iload_n (pc := 32) dX12_pairOf_32 rfl ?_
      refine j_isub (pc := 33) dX12_pairOf_33 ?_
      refine j_iconst (pc := 34) dX12_pairOf_34 ?_
      refine j_isub (pc := 35) dX12_pairOf_35 ?_
      exact j_reti dX12_pairOf_36 (⟨by unfold pairI; split <;> omega, rfl⟩) rfl
  · refine j_iload_n (pc := 5) dX12_pairOf_5 rfl ?_
    refine j_goto (pc := 6) 10 dX12_pairOf_6 (by decide) ?_
    refine j_istore_n2 (pc := 10) dX12_pairOf_10 (by decide) rfl ?_
    refine j_iload_n (pc := 11) dX12_pairOf_11 rfl ?_
    refine j_iload_n (pc := 12) dX12_pairOf_12 rfl ?_
    refine j_icmp_ge (pc := 13) 20 dX12_pairOf_13 (by decide) (by omega) (by omega) (fun h_13 => ?_) (fun h_13 => ?_)
    · refine j_iload_n (pc := 20) dX12_pairOf_20 rfl ?_
      refine j_istore_n3 (pc := 21) dX12_pairOf_21 (by decide) rfl ?_
      refine j_iload_n (pc := 22) dX12_pairOf_22 rfl ?_
      refine j_bipush (pc := 23) dX12_pairOf_23 (by decide) ?_
      refine j_iload_n (pc := 25) dX12_pairOf_25 rfl ?_
      refine j_isub (pc := 26) dX12_pairOf_26 ?_
      refine j_imul (pc := 27) dX12_pairOf_27 ?_
      refine j_iconst (pc := 28) dX12_pairOf_28 ?_
      refine j_idiv (pc := 29) dX12_pairOf_29 (by first | exact h1 | exact h2) (by omega) ?_
      refine j_iload_n (pc := 30) dX12_pairOf_30 rfl ?_
      refine j_iadd (pc := 31) dX12_pairOf_31 ?_
      refine j_iload_n (pc := 32) dX12_pairOf_32 rfl ?_
      refine j_isub (pc := 33) dX12_pairOf_33 ?_
      refine j_iconst (pc := 34) dX12_pairOf_34 ?_
      refine j_isub (pc := 35) dX12_pairOf_35 ?_
      exact j_reti dX12_pairOf_36 (⟨by unfold pairI; split <;> omega, rfl⟩) rfl
    · refine j_iload_n (pc := 16) dX12_pairOf_16 rfl ?_
      refine j_goto (pc := 17) 21 dX12_pairOf_17 (by decide) ?_
      refine j_istore_n3 (pc := 21) dX12_pairOf_21 (by decide) rfl ?_
      refine j_iload_n (pc := 22) dX12_pairOf_22 rfl ?_
      refine j_bipush (pc := 23) dX12_pairOf_23 (by decide) ?_
      refine j_iload_n (pc := 25) dX12_pairOf_25 rfl ?_
      refine j_isub (pc := 26) dX12_pairOf_26 ?_
      refine j_imul (pc := 27) dX12_pairOf_27 ?_
      refine j_iconst (pc := 28) dX12_pairOf_28 ?_
      refine j_idiv (pc := 29) dX12_pairOf_29 (by first | exact h1 | exact h2) (by omega) ?_
      refine j_iload_n (pc := 30) dX12_pairOf_30 rfl ?_
      refine j_iadd (pc := 31) dX12_pairOf_31 ?_
      refine j_iload_n (pc := 32) dX12_pairOf_32 rfl ?_
      refine j_isub (pc := 33) dX12_pairOf_33 ?_
      refine j_iconst (pc := 34) dX12_pairOf_34 ?_
      refine j_isub (pc := 35) dX12_pairOf_35 ?_
      exact j_reti dX12_pairOf_36 (⟨by unfold pairI; split <;> omega, rfl⟩) rfl
