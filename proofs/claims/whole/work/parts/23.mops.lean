/-! ===== the reference: what changes its row ===== -/
def pairN (a b : Nat) : Nat := if a < b then a * (15 - a) / 2 + b - a - 1 else b * (15 - b) / 2 + a - b - 1
theorem pairN_lt {a b : Nat} (ha : a < 8) (hb : b < 8) (h : a ≠ b) : pairN a b < 28 := by
  have : ∀ a b : Fin 8, (a : Nat) ≠ (b : Nat) → pairN a b < 28 := by decide +kernel
  exact this ⟨a, ha⟩ ⟨b, hb⟩ h
theorem pairI_n {a b : Nat} (ha : a < 8) (hb : b < 8) (h : a ≠ b) : pairI a b = (pairN a b : Nat) := by
  have : ∀ a b : Fin 8, (a : Nat) ≠ (b : Nat) → pairI ((a : Nat) : Int) ((b : Nat) : Int) = (pairN a b : Nat) := by decide +kernel
  exact this ⟨a, ha⟩ ⟨b, hb⟩ h
theorem pairN_comm (a b : Nat) : pairN a b = pairN b a := by
  unfold pairN
  repeat' split
  all_goals first | omega | (obtain rfl : a = b := by omega
                             rfl)
theorem pairN_inj {a b c d : Nat} (ha : a < 8) (hb : b < 8) (hc : c < 8) (hd : d < 8) (h : a ≠ b) (h' : c ≠ d) (e : pairN a b = pairN c d) : (a = c ∧ b = d) ∨ (a = d ∧ b = c) := by
  have : ∀ a b c d : Fin 8, (a : Nat) ≠ (b : Nat) → (c : Nat) ≠ (d : Nat) → pairN a b = pairN c d → ((a : Nat) = c ∧ (b : Nat) = d) ∨ ((a : Nat) = d ∧ (b : Nat) = c) := by decide +kernel
  exact this ⟨a, ha⟩ ⟨b, hb⟩ ⟨c, hc⟩ ⟨d, hd⟩ h h' e
/-- a stair's creak by the reference's row; -1: none -/
def cr (f : Nat → Int) (a b : Nat) : Int := if a = b then -1 else f (71 + pairN a b)
theorem cr_comm (f : Nat → Int) (a b : Nat) : cr f a b = cr f b a := by
  unfold cr; rw [pairN_comm]; by_cases h : a = b
  · rw [if_pos h, if_pos h.symm]
  · rw [if_neg h, if_neg (Ne.symm h)]
theorem c_creakOf (X : jX) (I : jMI) (a b : Nat) (ha : a < 8) (hb : b < 8) : C_X12_creakOf X [jR 105, jI a, jI b] I (fun r I' => r = cr (I 106) a b ∧ I' = I) := by
  refine CG.of (by decide) [some (jR 105), some (jI a), some (jI b)] rfl (Nat.le_of_ble_eq_true rfl) ?_
  refine j_iload_n (pc := 0) dX12_creakOf_0 rfl ?_
  refine j_iload_n (pc := 1) dX12_creakOf_1 rfl ?_
  refine j_icmp_ne (pc := 2) 9 dX12_creakOf_2 (by decide) (by omega) (by omega) (fun h_2 => ?_) (fun h_2 => ?_)
  · refine j_aload_n (pc := 9) dX12_creakOf_9 rfl ?_
    refine j_getR (pc := 10) f_X12_7 dX12_creakOf_10 rfl rfl (by decide) rfl ?_
    refine j_bipush (pc := 13) dX12_creakOf_13 (by decide) ?_
    refine j_iload_n (pc := 15) dX12_creakOf_15 rfl ?_
    refine j_iload_n (pc := 16) dX12_creakOf_16 rfl ?_
    refine j_goI (pc := 17) (j_runS k_X12_85 m_X12_pairOf (c_pairOf X I a b (by omega) (by omega)) dX12_creakOf_17 (by decide) rfl rfl (Nat.le_of_ble_eq_true rfl)) (fun r I1 h1 => ?_)
    obtain ⟨rfl, rfl⟩ := h1
    have hne : a ≠ b := by omega
    have hp := pairN_lt ha hb hne
    rw [pairI_n ha hb hne]
    refine j_iadd (pc := 20) dX12_creakOf_20 ?_
    refine j_iald_b (pc := 21) (71 + pairN a b) dX12_creakOf_21 rfl (by decide) (by decide) (by omega) (by omega) ?_
    exact j_reti dX12_creakOf_22 (⟨by unfold cr; split <;> first | rfl | omega, rfl⟩) rfl
  · refine j_iconst (pc := 5) dX12_creakOf_5 ?_
    refine j_goto (pc := 6) 22 dX12_creakOf_6 (by decide) ?_
    exact j_reti dX12_creakOf_22 (⟨by unfold cr; split <;> first | rfl | omega, rfl⟩) rfl
/-- the ranges of the reference's row -/
def stLo (k : Nat) : Int := if k < 71 then 0 else -1
def stHi (k : Nat) : Int := if k < 1 then 59 else if k < 2 then 31 else if k < 5 then 7 else if k < 11 then 5 else if k < 16 then 7 else if k < 21 then 9 else if k < 22 then 5 else if k < 27 then 7 else if k < 32 then 4 else if k < 52 then 2 else if k < 53 then 6 else if k < 71 then (if (k - 53) % 3 = 0 then 4 else if (k - 53) % 3 = 1 then 12 else 1) else 9
def okSt (f : Nat → Int) : Prop := ∀ k, k < 99 → stLo k ≤ f k ∧ f k ≤ stHi k
theorem c_mstair (X : jX) (I : jMI) (a b c : Int) (ha : -2147483648 ≤ a ∧ a < 2147483648) (hb : -2147483648 ≤ b ∧ b < 2147483648) (hc : -2147483648 ≤ c ∧ c < 2147483648) : C_X12_stair X [jR 105, jI a, jI b, jI c] I (fun r I' => (¬ ((0 ≤ a ∧ a ≤ 7) ∧ (0 ≤ b ∧ b ≤ 7) ∧ a ≠ b ∧ (0 ≤ c ∧ c ≤ 9)) ∧ r = -10 ∧ I' = mRef I 0) ∨ (∃ i j : Nat, a = i ∧ b = j ∧ i < 8 ∧ j < 8 ∧ i ≠ j ∧ (0 ≤ c ∧ c ≤ 9) ∧ r = cr (I 106) i j ∧ I' = jSf I 106 (jU (I 106) (71 + pairN i j) c))) := by
  refine CG.of (by decide) [some (jR 105), some (jI a), some (jI b), some (jI c), none] rfl (Nat.le_of_ble_eq_true rfl) ?_
  have kbad : ¬ ((0 ≤ a ∧ a ≤ 7) ∧ (0 ≤ b ∧ b ≤ 7) ∧ a ≠ b ∧ (0 ≤ c ∧ c ≤ 9)) → S_X12_stair X 31 [some (jR 105), some (jI a), some (jI b), some (jI c), none] [] I (fun r I' => (¬ ((0 ≤ a ∧ a ≤ 7) ∧ (0 ≤ b ∧ b ≤ 7) ∧ a ≠ b ∧ (0 ≤ c ∧ c ≤ 9)) ∧ r = -10 ∧ I' = mRef I 0) ∨ (∃ i j : Nat, a = i ∧ b = j ∧ i < 8 ∧ j < 8 ∧ i ≠ j ∧ (0 ≤ c ∧ c ≤ 9) ∧ r = cr (I 106) i j ∧ I' = jSf I 106 (jU (I 106) (71 + pairN i j) c))) := by
    intro hz
    refine j_aload_n (pc := 31) dX12_stair_31 rfl ?_
    refine j_goI (pc := 32) (j_runV k_X12_95 m_X12_bad (c_bad X I) dX12_stair_32 rfl (by decide) rfl (by decide) (by decide) rfl rfl (Nat.le_of_ble_eq_true rfl)) (fun r9 I9 h9 => ?_)
    obtain ⟨rfl, rfl⟩ := h9
    refine j_pop (pc := 35) dX12_stair_35 ?_
    refine j_bipush (pc := 36) dX12_stair_36 (by decide) ?_
    exact j_reti dX12_stair_38 (Or.inl ⟨hz, rfl, rfl⟩) rfl
  refine j_iload_n (pc := 0) dX12_stair_0 rfl ?_
  refine j_goI (pc := 1) (j_runS k_X12_89 m_X12_isRoom (c_mRoom X I a ha) dX12_stair_1 (by decide) rfl rfl (Nat.le_of_ble_eq_true rfl)) (fun r1 I1 h1 => ?_)
  obtain ⟨rfl, rfl⟩ := h1
  refine j_if_eq (pc := 4) 31 dX12_stair_4 (by decide) (by omega) (fun h_4 => ?_) (fun h_4 => ?_)
  · exact kbad (by omega)
  · refine j_iload_n (pc := 7) dX12_stair_7 rfl ?_
    refine j_goI (pc := 8) (j_runS k_X12_89 m_X12_isRoom (c_mRoom X I1 b hb) dX12_stair_8 (by decide) rfl rfl (Nat.le_of_ble_eq_true rfl)) (fun r2 I2 h2 => ?_)
    obtain ⟨rfl, rfl⟩ := h2
    refine j_if_eq (pc := 11) 31 dX12_stair_11 (by decide) (by omega) (fun h_11 => ?_) (fun h_11 => ?_)
    · exact kbad (by omega)
    · refine j_iload_n (pc := 14) dX12_stair_14 rfl ?_
      refine j_iload_n (pc := 15) dX12_stair_15 rfl ?_
      refine j_icmp_eq (pc := 16) 31 dX12_stair_16 (by decide) (by omega) (by omega) (fun h_16 => ?_) (fun h_16 => ?_)
      · exact kbad (by omega)
      · refine j_iload_n (pc := 19) dX12_stair_19 rfl ?_
        refine j_i2l (pc := 20) dX12_stair_20 (by omega) ?_
        refine j_lconst0 (pc := 21) dX12_stair_21 ?_
        refine j_ldc2 (pc := 22) cl_X12_93 dX12_stair_22 ?_
        refine j_goI (pc := 25) (j_runS k_X12_75 m_X12_in (c_in X I2 c 0 9 hc (by omega) (by omega)) dX12_stair_25 (by decide) rfl rfl (Nat.le_of_ble_eq_true rfl)) (fun r3 I3 h3 => ?_)
        obtain ⟨rfl, rfl⟩ := h3
        refine j_if_ne (pc := 28) 39 dX12_stair_28 (by decide) (by omega) (fun h_28 => ?_) (fun h_28 => ?_)
        · obtain ⟨i, rfl⟩ := Int.eq_ofNat_of_zero_le (show 0 ≤ a by omega)
          obtain ⟨j, rfl⟩ := Int.eq_ofNat_of_zero_le (show 0 ≤ b by omega)
          have hp := pairN_lt (a := i) (b := j) (by omega) (by omega) (by omega)
          refine j_aload_n (pc := 39) dX12_stair_39 rfl ?_
          refine j_iload_n (pc := 40) dX12_stair_40 rfl ?_
          refine j_iload_n (pc := 41) dX12_stair_41 rfl ?_
          refine j_goI (pc := 42) (j_runV k_X12_99 m_X12_creakOf (c_creakOf X I3 i j (by omega) (by omega)) dX12_stair_42 rfl (by decide) rfl (by decide) (by decide) rfl rfl (Nat.le_of_ble_eq_true rfl)) (fun r4 I4 h4 => ?_)
          obtain ⟨rfl, rfl⟩ := h4
          refine j_istore4 (pc := 45) dX12_stair_45 (by decide) rfl ?_
          refine j_aload_n (pc := 47) dX12_stair_47 rfl ?_
          refine j_getR (pc := 48) f_X12_7 dX12_stair_48 rfl rfl (by decide) rfl ?_
          refine j_bipush (pc := 51) dX12_stair_51 (by decide) ?_
          refine j_iload_n (pc := 53) dX12_stair_53 rfl ?_
          refine j_iload_n (pc := 54) dX12_stair_54 rfl ?_
          refine j_goI (pc := 55) (j_runS k_X12_85 m_X12_pairOf (c_pairOf X I4 i j (by omega) (by omega)) dX12_stair_55 (by decide) rfl rfl (Nat.le_of_ble_eq_true rfl)) (fun r5 I5 h5 => ?_)
          obtain ⟨rfl, rfl⟩ := h5
          rw [pairI_n (by omega) (by omega) (by omega)]
          refine j_iadd (pc := 58) dX12_stair_58 ?_
          refine j_iload_n (pc := 59) dX12_stair_59 rfl ?_
          refine j_iast_b (pc := 60) (71 + pairN i j) dX12_stair_60 rfl (by decide) (by decide) (by omega) (by omega) ?_
          refine j_iload (pc := 61) dX12_stair_61 rfl ?_
          exact j_reti dX12_stair_63 (Or.inr ⟨i, j, rfl, rfl, by omega, by omega, by omega, by omega, rfl, rfl⟩) rfl
        · exact kbad (by omega)
