/-! ===== the reference: small methods ===== -/
def mRef (I : jMI) (j : Nat) : jMI := jSf I 107 (jU (I 107) j (I 107 j + 1))
theorem c_bad (X : jX) (I : jMI) : C_X12_bad X [jR 105] I (fun r I' => r = -2 ∧ I' = mRef I 0) := by
  refine CG.of (by decide) [some (jR 105)] rfl (Nat.le_of_ble_eq_true rfl) ?_
  refine j_aload_n (pc := 0) dX12_bad_0 rfl ?_
  refine j_getR (pc := 1) f_X12_17 dX12_bad_1 rfl rfl (by decide) rfl ?_
  refine j_iconst (pc := 4) dX12_bad_4 ?_
  refine j_dup2 (pc := 5) dX12_bad_5 ?_
  refine j_iald_b (pc := 6) (0) dX12_bad_6 rfl (by decide) (by decide) (by omega) (by omega) ?_
  refine j_iconst (pc := 7) dX12_bad_7 ?_
  refine j_iadd (pc := 8) dX12_bad_8 ?_
  refine j_iast_b (pc := 9) (0) dX12_bad_9 rfl (by decide) (by decide) (by omega) (by omega) ?_
  refine j_bipush (pc := 10) dX12_bad_10 (by decide) ?_
  exact j_reti dX12_bad_12 (⟨rfl, rfl⟩) rfl
theorem c_no (X : jX) (I : jMI) : C_X12_no X [jR 105] I (fun r I' => r = -3 ∧ I' = mRef I 1) := by
  refine CG.of (by decide) [some (jR 105)] rfl (Nat.le_of_ble_eq_true rfl) ?_
  refine j_aload_n (pc := 0) dX12_no_0 rfl ?_
  refine j_getR (pc := 1) f_X12_17 dX12_no_1 rfl rfl (by decide) rfl ?_
  refine j_iconst (pc := 4) dX12_no_4 ?_
  refine j_dup2 (pc := 5) dX12_no_5 ?_
  refine j_iald_b (pc := 6) (1) dX12_no_6 rfl (by decide) (by decide) (by omega) (by omega) ?_
  refine j_iconst (pc := 7) dX12_no_7 ?_
  refine j_iadd (pc := 8) dX12_no_8 ?_
  refine j_iast_b (pc := 9) (1) dX12_no_9 rfl (by decide) (by decide) (by omega) (by omega) ?_
  refine j_bipush (pc := 10) dX12_no_10 (by decide) ?_
  exact j_reti dX12_no_12 (⟨rfl, rfl⟩) rfl
theorem c_full (X : jX) (I : jMI) : C_X12_full X [jR 105] I (fun r I' => r = -4 ∧ I' = mRef I 2) := by
  refine CG.of (by decide) [some (jR 105)] rfl (Nat.le_of_ble_eq_true rfl) ?_
  refine j_aload_n (pc := 0) dX12_full_0 rfl ?_
  refine j_getR (pc := 1) f_X12_17 dX12_full_1 rfl rfl (by decide) rfl ?_
  refine j_iconst (pc := 4) dX12_full_4 ?_
  refine j_dup2 (pc := 5) dX12_full_5 ?_
  refine j_iald_b (pc := 6) (2) dX12_full_6 rfl (by decide) (by decide) (by omega) (by omega) ?_
  refine j_iconst (pc := 7) dX12_full_7 ?_
  refine j_iadd (pc := 8) dX12_full_8 ?_
  refine j_iast_b (pc := 9) (2) dX12_full_9 rfl (by decide) (by decide) (by omega) (by omega) ?_
  refine j_bipush (pc := 10) dX12_full_10 (by decide) ?_
  exact j_reti dX12_full_12 (⟨rfl, rfl⟩) rfl
theorem c_isMinute (X : jX) (I : jMI) (a : Int) (ha : -2147483648 ≤ a ∧ a < 2147483648) : C_X12_isMinute X [jI a] I (fun r I' => r = (if 0 ≤ a ∧ a ≤ 59 then 1 else 0) ∧ I' = I) := by
  refine CG.of (by decide) [some (jI a)] rfl (Nat.le_of_ble_eq_true rfl) ?_
  refine j_iload_n (pc := 0) dX12_isMinute_0 rfl ?_
  refine j_i2l (pc := 1) dX12_isMinute_1 (by omega) ?_
  refine j_lconst0 (pc := 2) dX12_isMinute_2 ?_
  refine j_ldc2 (pc := 3) cl_X12_79 dX12_isMinute_3 ?_
  refine j_goI (pc := 6) (j_runS k_X12_75 m_X12_in (c_in X I a 0 59 ha (by omega) (by omega)) dX12_isMinute_6 (by decide) rfl rfl (Nat.le_of_ble_eq_true rfl)) (fun r I1 h1 => ?_)
  obtain ⟨rfl, rfl⟩ := h1
  exact j_retz dX12_isMinute_9 (by omega) (⟨rfl, rfl⟩) rfl
theorem c_isWhat (X : jX) (I : jMI) (a : Int) (ha : -2147483648 ≤ a ∧ a < 2147483648) : C_X12_isWhat X [jI a] I (fun r I' => r = (if 0 ≤ a ∧ a ≤ 1 then 1 else 0) ∧ I' = I) := by
  refine CG.of (by decide) [some (jI a)] rfl (Nat.le_of_ble_eq_true rfl) ?_
  refine j_iload_n (pc := 0) dX12_isWhat_0 rfl ?_
  refine j_i2l (pc := 1) dX12_isWhat_1 (by omega) ?_
  refine j_lconst0 (pc := 2) dX12_isWhat_2 ?_
  refine j_lconst1 (pc := 3) dX12_isWhat_3 ?_
  refine j_goI (pc := 4) (j_runS k_X12_75 m_X12_in (c_in X I a 0 1 ha (by omega) (by omega)) dX12_isWhat_4 (by decide) rfl rfl (Nat.le_of_ble_eq_true rfl)) (fun r I1 h1 => ?_)
  obtain ⟨rfl, rfl⟩ := h1
  exact j_retz dX12_isWhat_7 (by omega) (⟨rfl, rfl⟩) rfl
theorem c_isSleeper (X : jX) (I : jMI) (a : Int) (ha : -2147483648 ≤ a ∧ a < 2147483648) (hm : 0 ≤ I 106 5 ∧ I 106 5 ≤ 5) : C_X12_isSleeper X [jR 105, jI a] I (fun r I' => r = (if 0 ≤ a ∧ a ≤ I 106 5 - 1 then 1 else 0) ∧ I' = I) := by
  refine CG.of (by decide) [some (jR 105), some (jI a)] rfl (Nat.le_of_ble_eq_true rfl) ?_
  refine j_iload_n (pc := 0) dX12_isSleeper_0 rfl ?_
  refine j_i2l (pc := 1) dX12_isSleeper_1 (by omega) ?_
  refine j_lconst0 (pc := 2) dX12_isSleeper_2 ?_
  refine j_aload_n (pc := 3) dX12_isSleeper_3 rfl ?_
  refine j_getR (pc := 4) f_X12_7 dX12_isSleeper_4 rfl rfl (by decide) rfl ?_
  refine j_iconst (pc := 7) dX12_isSleeper_7 ?_
  refine j_iald_b (pc := 8) (5) dX12_isSleeper_8 rfl (by decide) (by decide) (by omega) (by omega) ?_
  refine j_iconst (pc := 9) dX12_isSleeper_9 ?_
  refine j_isub (pc := 10) dX12_isSleeper_10 ?_
  refine j_i2l (pc := 11) dX12_isSleeper_11 (by omega) ?_
  refine j_goI (pc := 12) (j_runS k_X12_75 m_X12_in (c_in X I a 0 (I 106 5 - 1) ha (by omega) (by omega)) dX12_isSleeper_12 (by decide) rfl rfl (Nat.le_of_ble_eq_true rfl)) (fun r I1 h1 => ?_)
  obtain ⟨rfl, rfl⟩ := h1
  exact j_retz dX12_isSleeper_15 (by omega) (⟨rfl, rfl⟩) rfl
theorem c_isThing (X : jX) (I : jMI) (a : Int) (ha : -2147483648 ≤ a ∧ a < 2147483648) (hm : 0 ≤ I 106 21 ∧ I 106 21 ≤ 5) : C_X12_isThing X [jR 105, jI a] I (fun r I' => r = (if 0 ≤ a ∧ a ≤ I 106 21 - 1 then 1 else 0) ∧ I' = I) := by
  refine CG.of (by decide) [some (jR 105), some (jI a)] rfl (Nat.le_of_ble_eq_true rfl) ?_
  refine j_iload_n (pc := 0) dX12_isThing_0 rfl ?_
  refine j_i2l (pc := 1) dX12_isThing_1 (by omega) ?_
  refine j_lconst0 (pc := 2) dX12_isThing_2 ?_
  refine j_aload_n (pc := 3) dX12_isThing_3 rfl ?_
  refine j_getR (pc := 4) f_X12_7 dX12_isThing_4 rfl rfl (by decide) rfl ?_
  refine j_bipush (pc := 7) dX12_isThing_7 (by decide) ?_
  refine j_iald_b (pc := 9) (21) dX12_isThing_9 rfl (by decide) (by decide) (by omega) (by omega) ?_
  refine j_iconst (pc := 10) dX12_isThing_10 ?_
  refine j_isub (pc := 11) dX12_isThing_11 ?_
  refine j_i2l (pc := 12) dX12_isThing_12 (by omega) ?_
  refine j_goI (pc := 13) (j_runS k_X12_75 m_X12_in (c_in X I a 0 (I 106 21 - 1) ha (by omega) (by omega)) dX12_isThing_13 (by decide) rfl rfl (Nat.le_of_ble_eq_true rfl)) (fun r I1 h1 => ?_)
  obtain ⟨rfl, rfl⟩ := h1
  exact j_retz dX12_isThing_16 (by omega) (⟨rfl, rfl⟩) rfl
/-- a new house's row -/
def st0 (g : Nat → Int) : Nat → Int := fun j => if j < 71 then 0 else if j < 99 then -1 else g j
def mAnew (I : jMI) : jMI := jSf (jSf I 106 (st0 (I 106))) 105 (jU (I 105) 16 0)
theorem c_anew (X : jX) (I : jMI) : C_X12_anew X [jR 105] I (fun I' => I' = mAnew I) := by
  refine CG.of (by decide) [some (jR 105), none] rfl (Nat.le_of_ble_eq_true rfl) ?_
  have key : ∀ (k : Nat) (I' : jMI), k ≤ 99 → I' = jSf I 106 (fun j => if j < k then (if j < 71 then 0 else -1) else I 106 j) → S_X12_anew X 2 [some (jR 105), some (jI k)] [] I' (fun I' => I' = mAnew I) := by
    refine mu2 (fun k _ => 99 - k) _ (fun k I' ih hk hI => ?_)
    subst hI
    refine j_iload_n (pc := 2) dX12_anew_2 rfl ?_
    refine j_bipush (pc := 3) dX12_anew_3 (by decide) ?_
    refine j_icmp_ge (pc := 5) 31 dX12_anew_5 (by decide) (by omega) (by omega) (fun h_5 => ?_) (fun h_5 => ?_)
    · refine j_aload_n (pc := 31) dX12_anew_31 rfl ?_
      refine j_iconst (pc := 32) dX12_anew_32 ?_
      refine j_putI_b (pc := 33) f_X12_81 dX12_anew_33 rfl rfl rfl (by decide) ?_
      refine j_retv dX12_anew_36 (?_) rfl
      obtain rfl : k = 99 := by omega
      unfold mAnew
      congr 1
      congr 1
      funext j
      unfold st0
      repeat' split <;> omega
    · refine j_aload_n (pc := 8) dX12_anew_8 rfl ?_
      refine j_getR (pc := 9) f_X12_7 dX12_anew_9 rfl rfl (by decide) rfl ?_
      refine j_iload_n (pc := 12) dX12_anew_12 rfl ?_
      refine j_iload_n (pc := 13) dX12_anew_13 rfl ?_
      refine j_bipush (pc := 14) dX12_anew_14 (by decide) ?_
      refine j_icmp_ge (pc := 16) 23 dX12_anew_16 (by decide) (by omega) (by omega) (fun h_16 => ?_) (fun h_16 => ?_)
      · refine j_iconst (pc := 23) dX12_anew_23 ?_
        refine j_iast_a (pc := 24) (k) dX12_anew_24 rfl (by decide) (by decide) (by omega) (by omega) ?_
        refine j_iinc1 (pc := 25) dX12_anew_25 (by decide) rfl ?_
        refine j_goto (pc := 28) 2 dX12_anew_28 (by decide) ?_
        exact ih (k + 1) _ (by omega) (by omega) (congrArg (jSf I 106) (funext fun j => by simp only [jU]; repeat' split <;> omega))
      · refine j_iconst (pc := 19) dX12_anew_19 ?_
        refine j_goto (pc := 20) 24 dX12_anew_20 (by decide) ?_
        refine j_iast_a (pc := 24) (k) dX12_anew_24 rfl (by decide) (by decide) (by omega) (by omega) ?_
        refine j_iinc1 (pc := 25) dX12_anew_25 (by decide) rfl ?_
        refine j_goto (pc := 28) 2 dX12_anew_28 (by decide) ?_
        exact ih (k + 1) _ (by omega) (by omega) (congrArg (jSf I 106) (funext fun j => by simp only [jU]; repeat' split <;> omega))
  refine j_iconst (pc := 0) dX12_anew_0 ?_
  refine j_istore_n1 (pc := 1) dX12_anew_1 (by decide) rfl ?_
  exact key 0 I (by omega) (by rw [show (fun j => if j < 0 then (if j < 71 then (0:Int) else -1) else I 106 j) = I 106 from funext fun j => by simp, jSf_i])
