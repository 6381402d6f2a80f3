/-! ===== the class: a night as another ===== -/
/-- a night's rows as another's -/
def nCp (I I' : jMI) (S D : Nat) : Prop := (∃ J : jMI, hCp I J (S + 1) (D + 1) ∧ ∀ z, z ≠ D → ¬ (D + 17 ≤ z ∧ z ≤ D + 24) → I' z = J z) ∧ (∀ p, p < 3 → I' (D + 17) p = I (S + 17) p) ∧ (∀ i, i < 8 → I' (D + 19) i = I (S + 19) i ∧ I' (D + 20) i = I (S + 20) i ∧ I' (D + 21) i = I (S + 21) i) ∧ (∀ i, i < 6 → I' (D + 22) i = I (S + 22) i ∧ I' (D + 23) i = I (S + 23) i ∧ I' (D + 24) i = I (S + 24) i) ∧ I' D 9 = I S 9 ∧ I' D 10 = I S 10 ∧ I' D 11 = I S 11 ∧ I' D 12 = I S 12
theorem nR_cp {f ah : Nat → Int} {u : Nat} {I I' : jMI} {S D : Nat} (h : nR f ah u I S) (hok : okSt f) (hu : u ≤ 8) (hc : nCp I I' S D) : nR f ah u I' D := by
  obtain ⟨n1, n2, n3, n4, n5, n6, n7, n8⟩ := h
  obtain ⟨⟨J, hJ, hz⟩, c1, c2, c3, c4, c5, c6, c7⟩ := hc
  obtain ⟨H, hH, hH6⟩ := okSt_52 hok
  refine ⟨hR_fr (hR_cp n1 hok hJ) (fun z hz' => hz z (by omega) (by omega)), c4.trans n2, c5.trans n3, c6.trans n4, c7.trans n5, fun p hp => (c1 p hp).trans (n6 p hp), fun i hi => ?_, fun i hi => ?_⟩
  · obtain ⟨d1, d2, d3⟩ := c2 i (by omega)
    obtain ⟨e1, e2, e3⟩ := n7 i hi
    exact ⟨d1.trans e1, d2.trans e2, d3.trans e3⟩
  · obtain ⟨d1, d2, d3⟩ := c3 i (by omega)
    obtain ⟨e1, e2, e3⟩ := n8 i hi
    exact ⟨d1.trans e1, d2.trans e2, d3.trans e3⟩
theorem nCp_fr {I I' : jMI} {S D : Nat} (hc : nCp I I' S D) {z : Nat} (hz : ¬ (D ≤ z ∧ z ≤ D + 24)) : I' z = I z := by
  obtain ⟨⟨J, hJ, h⟩, -⟩ := hc
  exact (h z (by omega) (by omega)).trans (hJ.2.2.2.2.2.2.1 z (by omega) (by omega))
set_option maxHeartbeats 4000000 in
theorem c_nCp_1_27 (X : jX) (I : jMI) : C_X4_copyFrom X [jR 27, jR 1] I (fun I' => nCp I I' 1 27) := by
  refine CG.of (by decide) [some (jR 27), some (jR 1)] rfl (Nat.le_of_ble_eq_true rfl) ?_
  refine j_aload_n (pc := 0) dX4_copyFrom_0 rfl ?_
  refine j_getR (pc := 1) f_X4_12 dX4_copyFrom_1 rfl rfl (by decide) rfl ?_
  refine j_aload_n (pc := 4) dX4_copyFrom_4 rfl ?_
  refine j_getR (pc := 5) f_X4_12 dX4_copyFrom_5 rfl rfl (by decide) rfl ?_
  refine j_goV (pc := 8) (j_runV k_X4_56 m_X2_copyFrom (c_hCp_2_28 X I) dX4_copyFrom_8 rfl (by decide) rfl (by decide) (by decide) rfl rfl (Nat.le_of_ble_eq_true rfl)) (fun I1 h1 => ?_)
  have hz : ∀ z, z ≠ 28 → ¬ (36 ≤ z ∧ z ≤ 43) → I1 z = I z := h1.2.2.2.2.2.2.1
  refine j_aload_n (pc := 11) dX4_copyFrom_11 rfl ?_
  refine j_getR (pc := 12) f_X4_18 dX4_copyFrom_12 rfl rfl (by decide) rfl ?_
  refine j_iconst (pc := 15) dX4_copyFrom_15 ?_
  refine j_aload_n (pc := 16) dX4_copyFrom_16 rfl ?_
  refine j_getR (pc := 17) f_X4_18 dX4_copyFrom_17 rfl rfl (by decide) rfl ?_
  refine j_iconst (pc := 20) dX4_copyFrom_20 ?_
  refine j_iconst (pc := 21) dX4_copyFrom_21 ?_
  refine j_acp (pc := 22) 3 k_acp_X4 dX4_copyFrom_22 rfl rfl (by decide) (by decide) (by decide) (by decide) (by decide) (by decide) ?_
  refine j_aload_n (pc := 25) dX4_copyFrom_25 rfl ?_
  refine j_getR (pc := 26) f_X4_25 dX4_copyFrom_26 rfl rfl (by decide) rfl ?_
  refine j_iconst (pc := 29) dX4_copyFrom_29 ?_
  refine j_aload_n (pc := 30) dX4_copyFrom_30 rfl ?_
  refine j_getR (pc := 31) f_X4_25 dX4_copyFrom_31 rfl rfl (by decide) rfl ?_
  refine j_iconst (pc := 34) dX4_copyFrom_34 ?_
  refine j_bipush (pc := 35) dX4_copyFrom_35 (by decide) ?_
  refine j_acp (pc := 37) 8 k_acp_X4 dX4_copyFrom_37 rfl rfl (by decide) (by decide) (by decide) (by decide) (by decide) (by decide) ?_
  refine j_aload_n (pc := 40) dX4_copyFrom_40 rfl ?_
  refine j_getR (pc := 41) f_X4_28 dX4_copyFrom_41 rfl rfl (by decide) rfl ?_
  refine j_iconst (pc := 44) dX4_copyFrom_44 ?_
  refine j_aload_n (pc := 45) dX4_copyFrom_45 rfl ?_
  refine j_getR (pc := 46) f_X4_28 dX4_copyFrom_46 rfl rfl (by decide) rfl ?_
  refine j_iconst (pc := 49) dX4_copyFrom_49 ?_
  refine j_bipush (pc := 50) dX4_copyFrom_50 (by decide) ?_
  refine j_acp (pc := 52) 8 k_acp_X4 dX4_copyFrom_52 rfl rfl (by decide) (by decide) (by decide) (by decide) (by decide) (by decide) ?_
  refine j_aload_n (pc := 55) dX4_copyFrom_55 rfl ?_
  refine j_getR (pc := 56) f_X4_31 dX4_copyFrom_56 rfl rfl (by decide) rfl ?_
  refine j_iconst (pc := 59) dX4_copyFrom_59 ?_
  refine j_aload_n (pc := 60) dX4_copyFrom_60 rfl ?_
  refine j_getR (pc := 61) f_X4_31 dX4_copyFrom_61 rfl rfl (by decide) rfl ?_
  refine j_iconst (pc := 64) dX4_copyFrom_64 ?_
  refine j_bipush (pc := 65) dX4_copyFrom_65 (by decide) ?_
  refine j_acp (pc := 67) 8 k_acp_X4 dX4_copyFrom_67 rfl rfl (by decide) (by decide) (by decide) (by decide) (by decide) (by decide) ?_
  refine j_aload_n (pc := 70) dX4_copyFrom_70 rfl ?_
  refine j_getR (pc := 71) f_X4_34 dX4_copyFrom_71 rfl rfl (by decide) rfl ?_
  refine j_iconst (pc := 74) dX4_copyFrom_74 ?_
  refine j_aload_n (pc := 75) dX4_copyFrom_75 rfl ?_
  refine j_getR (pc := 76) f_X4_34 dX4_copyFrom_76 rfl rfl (by decide) rfl ?_
  refine j_iconst (pc := 79) dX4_copyFrom_79 ?_
  refine j_bipush (pc := 80) dX4_copyFrom_80 (by decide) ?_
  refine j_acp (pc := 82) 6 k_acp_X4 dX4_copyFrom_82 rfl rfl (by decide) (by decide) (by decide) (by decide) (by decide) (by decide) ?_
  refine j_aload_n (pc := 85) dX4_copyFrom_85 rfl ?_
  refine j_getR (pc := 86) f_X4_37 dX4_copyFrom_86 rfl rfl (by decide) rfl ?_
  refine j_iconst (pc := 89) dX4_copyFrom_89 ?_
  refine j_aload_n (pc := 90) dX4_copyFrom_90 rfl ?_
  refine j_getR (pc := 91) f_X4_37 dX4_copyFrom_91 rfl rfl (by decide) rfl ?_
  refine j_iconst (pc := 94) dX4_copyFrom_94 ?_
  refine j_bipush (pc := 95) dX4_copyFrom_95 (by decide) ?_
  refine j_acp (pc := 97) 6 k_acp_X4 dX4_copyFrom_97 rfl rfl (by decide) (by decide) (by decide) (by decide) (by decide) (by decide) ?_
  refine j_aload_n (pc := 100) dX4_copyFrom_100 rfl ?_
  refine j_getR (pc := 101) f_X4_40 dX4_copyFrom_101 rfl rfl (by decide) rfl ?_
  refine j_iconst (pc := 104) dX4_copyFrom_104 ?_
  refine j_aload_n (pc := 105) dX4_copyFrom_105 rfl ?_
  refine j_getR (pc := 106) f_X4_40 dX4_copyFrom_106 rfl rfl (by decide) rfl ?_
  refine j_iconst (pc := 109) dX4_copyFrom_109 ?_
  refine j_bipush (pc := 110) dX4_copyFrom_110 (by decide) ?_
  refine j_acp (pc := 112) 6 k_acp_X4 dX4_copyFrom_112 rfl rfl (by decide) (by decide) (by decide) (by decide) (by decide) (by decide) ?_
  refine j_aload_n (pc := 115) dX4_copyFrom_115 rfl ?_
  refine j_aload_n (pc := 116) dX4_copyFrom_116 rfl ?_
  refine j_getI_c (pc := 117) f_X4_43 dX4_copyFrom_117 rfl rfl (by decide) (by decide) ?_
  refine j_putI_b (pc := 120) f_X4_43 dX4_copyFrom_120 rfl rfl rfl (by decide) ?_
  refine j_aload_n (pc := 123) dX4_copyFrom_123 rfl ?_
  refine j_aload_n (pc := 124) dX4_copyFrom_124 rfl ?_
  refine j_getI_c (pc := 125) f_X4_47 dX4_copyFrom_125 rfl rfl (by decide) (by decide) ?_
  refine j_putI_a (pc := 128) f_X4_47 dX4_copyFrom_128 rfl rfl rfl (by decide) ?_
  refine j_aload_n (pc := 131) dX4_copyFrom_131 rfl ?_
  refine j_aload_n (pc := 132) dX4_copyFrom_132 rfl ?_
  refine j_getI_c (pc := 133) f_X4_50 dX4_copyFrom_133 rfl rfl (by decide) (by decide) ?_
  refine j_putI_a (pc := 136) f_X4_50 dX4_copyFrom_136 rfl rfl rfl (by decide) ?_
  refine j_aload_n (pc := 139) dX4_copyFrom_139 rfl ?_
  refine j_aload_n (pc := 140) dX4_copyFrom_140 rfl ?_
  refine j_getI_c (pc := 141) f_X4_53 dX4_copyFrom_141 rfl rfl (by decide) (by decide) ?_
  refine j_putI_a (pc := 144) f_X4_53 dX4_copyFrom_144 rfl rfl rfl (by decide) ?_
  refine j_retv dX4_copyFrom_147 (?_) rfl
  refine ⟨⟨I1, h1, fun z z1 z2 => ?_⟩, fun i hi => ?_, fun i hi => ⟨?_, ?_, ?_⟩, fun i hi => ⟨?_, ?_, ?_⟩, ?_, ?_, ?_, ?_⟩
  · repeat' rw [jSf_n (by omega)]
  all_goals
    repeat' first | rw [jSf_s] | rw [jSf_n (by decide)]
    first
      | rw [acp_lt (by omega)]
      | rw [jU_s]
      | rw [jU_n (by omega), jU_s]
      | rw [jU_n (by omega), jU_n (by omega), jU_s]
      | rw [jU_n (by omega), jU_n (by omega), jU_n (by omega), jU_s]
    repeat' first | rw [jSf_s] | rw [jSf_n (by decide)]
    rw [hz _ (by decide) (by decide)]
set_option maxHeartbeats 4000000 in
theorem c_nCp_1_52 (X : jX) (I : jMI) : C_X4_copyFrom X [jR 52, jR 1] I (fun I' => nCp I I' 1 52) := by
  refine CG.of (by decide) [some (jR 52), some (jR 1)] rfl (Nat.le_of_ble_eq_true rfl) ?_
  refine j_aload_n (pc := 0) dX4_copyFrom_0 rfl ?_
  refine j_getR (pc := 1) f_X4_12 dX4_copyFrom_1 rfl rfl (by decide) rfl ?_
  refine j_aload_n (pc := 4) dX4_copyFrom_4 rfl ?_
  refine j_getR (pc := 5) f_X4_12 dX4_copyFrom_5 rfl rfl (by decide) rfl ?_
  refine j_goV (pc := 8) (j_runV k_X4_56 m_X2_copyFrom (c_hCp_2_53 X I) dX4_copyFrom_8 rfl (by decide) rfl (by decide) (by decide) rfl rfl (Nat.le_of_ble_eq_true rfl)) (fun I1 h1 => ?_)
  have hz : ∀ z, z ≠ 53 → ¬ (61 ≤ z ∧ z ≤ 68) → I1 z = I z := h1.2.2.2.2.2.2.1
  refine j_aload_n (pc := 11) dX4_copyFrom_11 rfl ?_
  refine j_getR (pc := 12) f_X4_18 dX4_copyFrom_12 rfl rfl (by decide) rfl ?_
  refine j_iconst (pc := 15) dX4_copyFrom_15 ?_
  refine j_aload_n (pc := 16) dX4_copyFrom_16 rfl ?_
  refine j_getR (pc := 17) f_X4_18 dX4_copyFrom_17 rfl rfl (by decide) rfl ?_
  refine j_iconst (pc := 20) dX4_copyFrom_20 ?_
  refine j_iconst (pc := 21) dX4_copyFrom_21 ?_
  refine j_acp (pc := 22) 3 k_acp_X4 dX4_copyFrom_22 rfl rfl (by decide) (by decide) (by decide) (by decide) (by decide) (by decide) ?_
  refine j_aload_n (pc := 25) dX4_copyFrom_25 rfl ?_
  refine j_getR (pc := 26) f_X4_25 dX4_copyFrom_26 rfl rfl (by decide) rfl ?_
  refine j_iconst (pc := 29) dX4_copyFrom_29 ?_
  refine j_aload_n (pc := 30) dX4_copyFrom_30 rfl ?_
  refine j_getR (pc := 31) f_X4_25 dX4_copyFrom_31 rfl rfl (by decide) rfl ?_
  refine j_iconst (pc := 34) dX4_copyFrom_34 ?_
  refine j_bipush (pc := 35) dX4_copyFrom_35 (by decide) ?_
  refine j_acp (pc := 37) 8 k_acp_X4 dX4_copyFrom_37 rfl rfl (by decide) (by decide) (by decide) (by decide) (by decide) (by decide) ?_
  refine j_aload_n (pc := 40) dX4_copyFrom_40 rfl ?_
  refine j_getR (pc := 41) f_X4_28 dX4_copyFrom_41 rfl rfl (by decide) rfl ?_
  refine j_iconst (pc := 44) dX4_copyFrom_44 ?_
  refine j_aload_n (pc := 45) dX4_copyFrom_45 rfl ?_
  refine j_getR (pc := 46) f_X4_28 dX4_copyFrom_46 rfl rfl (by decide) rfl ?_
  refine j_iconst (pc := 49) dX4_copyFrom_49 ?_
  refine j_bipush (pc := 50) dX4_copyFrom_50 (by decide) ?_
  refine j_acp (pc := 52) 8 k_acp_X4 dX4_copyFrom_52 rfl rfl (by decide) (by decide) (by decide) (by decide) (by decide) (by decide) ?_
  refine j_aload_n (pc := 55) dX4_copyFrom_55 rfl ?_
  refine j_getR (pc := 56) f_X4_31 dX4_copyFrom_56 rfl rfl (by decide) rfl ?_
  refine j_iconst (pc := 59) dX4_copyFrom_59 ?_
  refine j_aload_n (pc := 60) dX4_copyFrom_60 rfl ?_
  refine j_getR (pc := 61) f_X4_31 dX4_copyFrom_61 rfl rfl (by decide) rfl ?_
  refine j_iconst (pc := 64) dX4_copyFrom_64 ?_
  refine j_bipush (pc := 65) dX4_copyFrom_65 (by decide) ?_
  refine j_acp (pc := 67) 8 k_acp_X4 dX4_copyFrom_67 rfl rfl (by decide) (by decide) (by decide) (by decide) (by decide) (by decide) ?_
  refine j_aload_n (pc := 70) dX4_copyFrom_70 rfl ?_
  refine j_getR (pc := 71) f_X4_34 dX4_copyFrom_71 rfl rfl (by decide) rfl ?_
  refine j_iconst (pc := 74) dX4_copyFrom_74 ?_
  refine j_aload_n (pc := 75) dX4_copyFrom_75 rfl ?_
  refine j_getR (pc := 76) f_X4_34 dX4_copyFrom_76 rfl rfl (by decide) rfl ?_
  refine j_iconst (pc := 79) dX4_copyFrom_79 ?_
  refine j_bipush (pc := 80) dX4_copyFrom_80 (by decide) ?_
  refine j_acp (pc := 82) 6 k_acp_X4 dX4_copyFrom_82 rfl rfl (by decide) (by decide) (by decide) (by decide) (by decide) (by decide) ?_
  refine j_aload_n (pc := 85) dX4_copyFrom_85 rfl ?_
  refine j_getR (pc := 86) f_X4_37 dX4_copyFrom_86 rfl rfl (by decide) rfl ?_
  refine j_iconst (pc := 89) dX4_copyFrom_89 ?_
  refine j_aload_n (pc := 90) dX4_copyFrom_90 rfl ?_
  refine j_getR (pc := 91) f_X4_37 dX4_copyFrom_91 rfl rfl (by decide) rfl ?_
  refine j_iconst (pc := 94) dX4_copyFrom_94 ?_
  refine j_bipush (pc := 95) dX4_copyFrom_95 (by decide) ?_
  refine j_acp (pc := 97) 6 k_acp_X4 dX4_copyFrom_97 rfl rfl (by decide) (by decide) (by decide) (by decide) (by decide) (by decide) ?_
  refine j_aload_n (pc := 100) dX4_copyFrom_100 rfl ?_
  refine j_getR (pc := 101) f_X4_40 dX4_copyFrom_101 rfl rfl (by decide) rfl ?_
  refine j_iconst (pc := 104) dX4_copyFrom_104 ?_
  refine j_aload_n (pc := 105) dX4_copyFrom_105 rfl ?_
  refine j_getR (pc := 106) f_X4_40 dX4_copyFrom_106 rfl rfl (by decide) rfl ?_
  refine j_iconst (pc := 109) dX4_copyFrom_109 ?_
  refine j_bipush (pc := 110) dX4_copyFrom_110 (by decide) ?_
  refine j_acp (pc := 112) 6 k_acp_X4 dX4_copyFrom_112 rfl rfl (by decide) (by decide) (by decide) (by decide) (by decide) (by decide) ?_
  refine j_aload_n (pc := 115) dX4_copyFrom_115 rfl ?_
  refine j_aload_n (pc := 116) dX4_copyFrom_116 rfl ?_
  refine j_getI_c (pc := 117) f_X4_43 dX4_copyFrom_117 rfl rfl (by decide) (by decide) ?_
  refine j_putI_b (pc := 120) f_X4_43 dX4_copyFrom_120 rfl rfl rfl (by decide) ?_
  refine j_aload_n (pc := 123) dX4_copyFrom_123 rfl ?_
  refine j_aload_n (pc := 124) dX4_copyFrom_124 rfl ?_
  refine j_getI_c (pc := 125) f_X4_47 dX4_copyFrom_125 rfl rfl (by decide) (by decide) ?_
  refine j_putI_a (pc := 128) f_X4_47 dX4_copyFrom_128 rfl rfl rfl (by decide) ?_
  refine j_aload_n (pc := 131) dX4_copyFrom_131 rfl ?_
  refine j_aload_n (pc := 132) dX4_copyFrom_132 rfl ?_
  refine j_getI_c (pc := 133) f_X4_50 dX4_copyFrom_133 rfl rfl (by decide) (by decide) ?_
  refine j_putI_a (pc := 136) f_X4_50 dX4_copyFrom_136 rfl rfl rfl (by decide) ?_
  refine j_aload_n (pc := 139) dX4_copyFrom_139 rfl ?_
  refine j_aload_n (pc := 140) dX4_copyFrom_140 rfl ?_
  refine j_getI_c (pc := 141) f_X4_53 dX4_copyFrom_141 rfl rfl (by decide) (by decide) ?_
  refine j_putI_a (pc := 144) f_X4_53 dX4_copyFrom_144 rfl rfl rfl (by decide) ?_
  refine j_retv dX4_copyFrom_147 (?_) rfl
  refine ⟨⟨I1, h1, fun z z1 z2 => ?_⟩, fun i hi => ?_, fun i hi => ⟨?_, ?_, ?_⟩, fun i hi => ⟨?_, ?_, ?_⟩, ?_, ?_, ?_, ?_⟩
  · repeat' rw [jSf_n (by omega)]
  all_goals
    repeat' first | rw [jSf_s] | rw [jSf_n (by decide)]
    first
      | rw [acp_lt (by omega)]
      | rw [jU_s]
      | rw [jU_n (by omega), jU_s]
      | rw [jU_n (by omega), jU_n (by omega), jU_s]
      | rw [jU_n (by omega), jU_n (by omega), jU_n (by omega), jU_s]
    repeat' first | rw [jSf_s] | rw [jSf_n (by decide)]
    rw [hz _ (by decide) (by decide)]
set_option maxHeartbeats 4000000 in
theorem c_nCp_27_1 (X : jX) (I : jMI) : C_X4_copyFrom X [jR 1, jR 27] I (fun I' => nCp I I' 27 1) := by
  refine CG.of (by decide) [some (jR 1), some (jR 27)] rfl (Nat.le_of_ble_eq_true rfl) ?_
  refine j_aload_n (pc := 0) dX4_copyFrom_0 rfl ?_
  refine j_getR (pc := 1) f_X4_12 dX4_copyFrom_1 rfl rfl (by decide) rfl ?_
  refine j_aload_n (pc := 4) dX4_copyFrom_4 rfl ?_
  refine j_getR (pc := 5) f_X4_12 dX4_copyFrom_5 rfl rfl (by decide) rfl ?_
  refine j_goV (pc := 8) (j_runV k_X4_56 m_X2_copyFrom (c_hCp_28_2 X I) dX4_copyFrom_8 rfl (by decide) rfl (by decide) (by decide) rfl rfl (Nat.le_of_ble_eq_true rfl)) (fun I1 h1 => ?_)
  have hz : ∀ z, z ≠ 2 → ¬ (10 ≤ z ∧ z ≤ 17) → I1 z = I z := h1.2.2.2.2.2.2.1
  refine j_aload_n (pc := 11) dX4_copyFrom_11 rfl ?_
  refine j_getR (pc := 12) f_X4_18 dX4_copyFrom_12 rfl rfl (by decide) rfl ?_
  refine j_iconst (pc := 15) dX4_copyFrom_15 ?_
  refine j_aload_n (pc := 16) dX4_copyFrom_16 rfl ?_
  refine j_getR (pc := 17) f_X4_18 dX4_copyFrom_17 rfl rfl (by decide) rfl ?_
  refine j_iconst (pc := 20) dX4_copyFrom_20 ?_
  refine j_iconst (pc := 21) dX4_copyFrom_21 ?_
  refine j_acp (pc := 22) 3 k_acp_X4 dX4_copyFrom_22 rfl rfl (by decide) (by decide) (by decide) (by decide) (by decide) (by decide) ?_
  refine j_aload_n (pc := 25) dX4_copyFrom_25 rfl ?_
  refine j_getR (pc := 26) f_X4_25 dX4_copyFrom_26 rfl rfl (by decide) rfl ?_
  refine j_iconst (pc := 29) dX4_copyFrom_29 ?_
  refine j_aload_n (pc := 30) dX4_copyFrom_30 rfl ?_
  refine j_getR (pc := 31) f_X4_25 dX4_copyFrom_31 rfl rfl (by decide) rfl ?_
  refine j_iconst (pc := 34) dX4_copyFrom_34 ?_
  refine j_bipush (pc := 35) dX4_copyFrom_35 (by decide) ?_
  refine j_acp (pc := 37) 8 k_acp_X4 dX4_copyFrom_37 rfl rfl (by decide) (by decide) (by decide) (by decide) (by decide) (by decide) ?_
  refine j_aload_n (pc := 40) dX4_copyFrom_40 rfl ?_
  refine j_getR (pc := 41) f_X4_28 dX4_copyFrom_41 rfl rfl (by decide) rfl ?_
  refine j_iconst (pc := 44) dX4_copyFrom_44 ?_
  refine j_aload_n (pc := 45) dX4_copyFrom_45 rfl ?_
  refine j_getR (pc := 46) f_X4_28 dX4_copyFrom_46 rfl rfl (by decide) rfl ?_
  refine j_iconst (pc := 49) dX4_copyFrom_49 ?_
  refine j_bipush (pc := 50) dX4_copyFrom_50 (by decide) ?_
  refine j_acp (pc := 52) 8 k_acp_X4 dX4_copyFrom_52 rfl rfl (by decide) (by decide) (by decide) (by decide) (by decide) (by decide) ?_
  refine j_aload_n (pc := 55) dX4_copyFrom_55 rfl ?_
  refine j_getR (pc := 56) f_X4_31 dX4_copyFrom_56 rfl rfl (by decide) rfl ?_
  refine j_iconst (pc := 59) dX4_copyFrom_59 ?_
  refine j_aload_n (pc := 60) dX4_copyFrom_60 rfl ?_
  refine j_getR (pc := 61) f_X4_31 dX4_copyFrom_61 rfl rfl (by decide) rfl ?_
  refine j_iconst (pc := 64) dX4_copyFrom_64 ?_
  refine j_bipush (pc := 65) dX4_copyFrom_65 (by decide) ?_
  refine j_acp (pc := 67) 8 k_acp_X4 dX4_copyFrom_67 rfl rfl (by decide) (by decide) (by decide) (by decide) (by decide) (by decide) ?_
  refine j_aload_n (pc := 70) dX4_copyFrom_70 rfl ?_
  refine j_getR (pc := 71) f_X4_34 dX4_copyFrom_71 rfl rfl (by decide) rfl ?_
  refine j_iconst (pc := 74) dX4_copyFrom_74 ?_
  refine j_aload_n (pc := 75) dX4_copyFrom_75 rfl ?_
  refine j_getR (pc := 76) f_X4_34 dX4_copyFrom_76 rfl rfl (by decide) rfl ?_
  refine j_iconst (pc := 79) dX4_copyFrom_79 ?_
  refine j_bipush (pc := 80) dX4_copyFrom_80 (by decide) ?_
  refine j_acp (pc := 82) 6 k_acp_X4 dX4_copyFrom_82 rfl rfl (by decide) (by decide) (by decide) (by decide) (by decide) (by decide) ?_
  refine j_aload_n (pc := 85) dX4_copyFrom_85 rfl ?_
  refine j_getR (pc := 86) f_X4_37 dX4_copyFrom_86 rfl rfl (by decide) rfl ?_
  refine j_iconst (pc := 89) dX4_copyFrom_89 ?_
  refine j_aload_n (pc := 90) dX4_copyFrom_90 rfl ?_
  refine j_getR (pc := 91) f_X4_37 dX4_copyFrom_91 rfl rfl (by decide) rfl ?_
  refine j_iconst (pc := 94) dX4_copyFrom_94 ?_
  refine j_bipush (pc := 95) dX4_copyFrom_95 (by decide) ?_
  refine j_acp (pc := 97) 6 k_acp_X4 dX4_copyFrom_97 rfl rfl (by decide) (by decide) (by decide) (by decide) (by decide) (by decide) ?_
  refine j_aload_n (pc := 100) dX4_copyFrom_100 rfl ?_
  refine j_getR (pc := 101) f_X4_40 dX4_copyFrom_101 rfl rfl (by decide) rfl ?_
  refine j_iconst (pc := 104) dX4_copyFrom_104 ?_
  refine j_aload_n (pc := 105) dX4_copyFrom_105 rfl ?_
  refine j_getR (pc := 106) f_X4_40 dX4_copyFrom_106 rfl rfl (by decide) rfl ?_
  refine j_iconst (pc := 109) dX4_copyFrom_109 ?_
  refine j_bipush (pc := 110) dX4_copyFrom_110 (by decide) ?_
  refine j_acp (pc := 112) 6 k_acp_X4 dX4_copyFrom_112 rfl rfl (by decide) (by decide) (by decide) (by decide) (by decide) (by decide) ?_
  refine j_aload_n (pc := 115) dX4_copyFrom_115 rfl ?_
  refine j_aload_n (pc := 116) dX4_copyFrom_116 rfl ?_
  refine j_getI_c (pc := 117) f_X4_43 dX4_copyFrom_117 rfl rfl (by decide) (by decide) ?_
  refine j_putI_b (pc := 120) f_X4_43 dX4_copyFrom_120 rfl rfl rfl (by decide) ?_
  refine j_aload_n (pc := 123) dX4_copyFrom_123 rfl ?_
  refine j_aload_n (pc := 124) dX4_copyFrom_124 rfl ?_
  refine j_getI_c (pc := 125) f_X4_47 dX4_copyFrom_125 rfl rfl (by decide) (by decide) ?_
  refine j_putI_a (pc := 128) f_X4_47 dX4_copyFrom_128 rfl rfl rfl (by decide) ?_
  refine j_aload_n (pc := 131) dX4_copyFrom_131 rfl ?_
  refine j_aload_n (pc := 132) dX4_copyFrom_132 rfl ?_
  refine j_getI_c (pc := 133) f_X4_50 dX4_copyFrom_133 rfl rfl (by decide) (by decide) ?_
  refine j_putI_a (pc := 136) f_X4_50 dX4_copyFrom_136 rfl rfl rfl (by decide) ?_
  refine j_aload_n (pc := 139) dX4_copyFrom_139 rfl ?_
  refine j_aload_n (pc := 140) dX4_copyFrom_140 rfl ?_
  refine j_getI_c (pc := 141) f_X4_53 dX4_copyFrom_141 rfl rfl (by decide) (by decide) ?_
  refine j_putI_a (pc := 144) f_X4_53 dX4_copyFrom_144 rfl rfl rfl (by decide) ?_
  refine j_retv dX4_copyFrom_147 (?_) rfl
  refine ⟨⟨I1, h1, fun z z1 z2 => ?_⟩, fun i hi => ?_, fun i hi => ⟨?_, ?_, ?_⟩, fun i hi => ⟨?_, ?_, ?_⟩, ?_, ?_, ?_, ?_⟩
  · repeat' rw [jSf_n (by omega)]
  all_goals
    repeat' first | rw [jSf_s] | rw [jSf_n (by decide)]
    first
      | rw [acp_lt (by omega)]
      | rw [jU_s]
      | rw [jU_n (by omega), jU_s]
      | rw [jU_n (by omega), jU_n (by omega), jU_s]
      | rw [jU_n (by omega), jU_n (by omega), jU_n (by omega), jU_s]
    repeat' first | rw [jSf_s] | rw [jSf_n (by decide)]
    rw [hz _ (by decide) (by decide)]
set_option maxHeartbeats 4000000 in
theorem c_nCp_52_1 (X : jX) (I : jMI) : C_X4_copyFrom X [jR 1, jR 52] I (fun I' => nCp I I' 52 1) := by
  refine CG.of (by decide) [some (jR 1), some (jR 52)] rfl (Nat.le_of_ble_eq_true rfl) ?_
  refine j_aload_n (pc := 0) dX4_copyFrom_0 rfl ?_
  refine j_getR (pc := 1) f_X4_12 dX4_copyFrom_1 rfl rfl (by decide) rfl ?_
  refine j_aload_n (pc := 4) dX4_copyFrom_4 rfl ?_
  refine j_getR (pc := 5) f_X4_12 dX4_copyFrom_5 rfl rfl (by decide) rfl ?_
  refine j_goV (pc := 8) (j_runV k_X4_56 m_X2_copyFrom (c_hCp_53_2 X I) dX4_copyFrom_8 rfl (by decide) rfl (by decide) (by decide) rfl rfl (Nat.le_of_ble_eq_true rfl)) (fun I1 h1 => ?_)
  have hz : ∀ z, z ≠ 2 → ¬ (10 ≤ z ∧ z ≤ 17) → I1 z = I z := h1.2.2.2.2.2.2.1
  refine j_aload_n (pc := 11) dX4_copyFrom_11 rfl ?_
  refine j_getR (pc := 12) f_X4_18 dX4_copyFrom_12 rfl rfl (by decide) rfl ?_
  refine j_iconst (pc := 15) dX4_copyFrom_15 ?_
  refine j_aload_n (pc := 16) dX4_copyFrom_16 rfl ?_
  refine j_getR (pc := 17) f_X4_18 dX4_copyFrom_17 rfl rfl (by decide) rfl ?_
  refine j_iconst (pc := 20) dX4_copyFrom_20 ?_
  refine j_iconst (pc := 21) dX4_copyFrom_21 ?_
  refine j_acp (pc := 22) 3 k_acp_X4 dX4_copyFrom_22 rfl rfl (by decide) (by decide) (by decide) (by decide) (by decide) (by decide) ?_
  refine j_aload_n (pc := 25) dX4_copyFrom_25 rfl ?_
  refine j_getR (pc := 26) f_X4_25 dX4_copyFrom_26 rfl rfl (by decide) rfl ?_
  refine j_iconst (pc := 29) dX4_copyFrom_29 ?_
  refine j_aload_n (pc := 30) dX4_copyFrom_30 rfl ?_
  refine j_getR (pc := 31) f_X4_25 dX4_copyFrom_31 rfl rfl (by decide) rfl ?_
  refine j_iconst (pc := 34) dX4_copyFrom_34 ?_
  refine j_bipush (pc := 35) dX4_copyFrom_35 (by decide) ?_
  refine j_acp (pc := 37) 8 k_acp_X4 dX4_copyFrom_37 rfl rfl (by decide) (by decide) (by decide) (by decide) (by decide) (by decide) ?_
  refine j_aload_n (pc := 40) dX4_copyFrom_40 rfl ?_
  refine j_getR (pc := 41) f_X4_28 dX4_copyFrom_41 rfl rfl (by decide) rfl ?_
  refine j_iconst (pc := 44) dX4_copyFrom_44 ?_
  refine j_aload_n (pc := 45) dX4_copyFrom_45 rfl ?_
  refine j_getR (pc := 46) f_X4_28 dX4_copyFrom_46 rfl rfl (by decide) rfl ?_
  refine j_iconst (pc := 49) dX4_copyFrom_49 ?_
  refine j_bipush (pc := 50) dX4_copyFrom_50 (by decide) ?_
  refine j_acp (pc := 52) 8 k_acp_X4 dX4_copyFrom_52 rfl rfl (by decide) (by decide) (by decide) (by decide) (by decide) (by decide) ?_
  refine j_aload_n (pc := 55) dX4_copyFrom_55 rfl ?_
  refine j_getR (pc := 56) f_X4_31 dX4_copyFrom_56 rfl rfl (by decide) rfl ?_
  refine j_iconst (pc := 59) dX4_copyFrom_59 ?_
  refine j_aload_n (pc := 60) dX4_copyFrom_60 rfl ?_
  refine j_getR (pc := 61) f_X4_31 dX4_copyFrom_61 rfl rfl (by decide) rfl ?_
  refine j_iconst (pc := 64) dX4_copyFrom_64 ?_
  refine j_bipush (pc := 65) dX4_copyFrom_65 (by decide) ?_
  refine j_acp (pc := 67) 8 k_acp_X4 dX4_copyFrom_67 rfl rfl (by decide) (by decide) (by decide) (by decide) (by decide) (by decide) ?_
  refine j_aload_n (pc := 70) dX4_copyFrom_70 rfl ?_
  refine j_getR (pc := 71) f_X4_34 dX4_copyFrom_71 rfl rfl (by decide) rfl ?_
  refine j_iconst (pc := 74) dX4_copyFrom_74 ?_
  refine j_aload_n (pc := 75) dX4_copyFrom_75 rfl ?_
  refine j_getR (pc := 76) f_X4_34 dX4_copyFrom_76 rfl rfl (by decide) rfl ?_
  refine j_iconst (pc := 79) dX4_copyFrom_79 ?_
  refine j_bipush (pc := 80) dX4_copyFrom_80 (by decide) ?_
  refine j_acp (pc := 82) 6 k_acp_X4 dX4_copyFrom_82 rfl rfl (by decide) (by decide) (by decide) (by decide) (by decide) (by decide) ?_
  refine j_aload_n (pc := 85) dX4_copyFrom_85 rfl ?_
  refine j_getR (pc := 86) f_X4_37 dX4_copyFrom_86 rfl rfl (by decide) rfl ?_
  refine j_iconst (pc := 89) dX4_copyFrom_89 ?_
  refine j_aload_n (pc := 90) dX4_copyFrom_90 rfl ?_
  refine j_getR (pc := 91) f_X4_37 dX4_copyFrom_91 rfl rfl (by decide) rfl ?_
  refine j_iconst (pc := 94) dX4_copyFrom_94 ?_
  refine j_bipush (pc := 95) dX4_copyFrom_95 (by decide) ?_
  refine j_acp (pc := 97) 6 k_acp_X4 dX4_copyFrom_97 rfl rfl (by decide) (by decide) (by decide) (by decide) (by decide) (by decide) ?_
  refine j_aload_n (pc := 100) dX4_copyFrom_100 rfl ?_
  refine j_getR (pc := 101) f_X4_40 dX4_copyFrom_101 rfl rfl (by decide) rfl ?_
  refine j_iconst (pc := 104) dX4_copyFrom_104 ?_
  refine j_aload_n (pc := 105) dX4_copyFrom_105 rfl ?_
  refine j_getR (pc := 106) f_X4_40 dX4_copyFrom_106 rfl rfl (by decide) rfl ?_
  refine j_iconst (pc := 109) dX4_copyFrom_109 ?_
  refine j_bipush (pc := 110) dX4_copyFrom_110 (by decide) ?_
  refine j_acp (pc := 112) 6 k_acp_X4 dX4_copyFrom_112 rfl rfl (by decide) (by decide) (by decide) (by decide) (by decide) (by decide) ?_
  refine j_aload_n (pc := 115) dX4_copyFrom_115 rfl ?_
  refine j_aload_n (pc := 116) dX4_copyFrom_116 rfl ?_
  refine j_getI_c (pc := 117) f_X4_43 dX4_copyFrom_117 rfl rfl (by decide) (by decide) ?_
  refine j_putI_b (pc := 120) f_X4_43 dX4_copyFrom_120 rfl rfl rfl (by decide) ?_
  refine j_aload_n (pc := 123) dX4_copyFrom_123 rfl ?_
  refine j_aload_n (pc := 124) dX4_copyFrom_124 rfl ?_
  refine j_getI_c (pc := 125) f_X4_47 dX4_copyFrom_125 rfl rfl (by decide) (by decide) ?_
  refine j_putI_a (pc := 128) f_X4_47 dX4_copyFrom_128 rfl rfl rfl (by decide) ?_
  refine j_aload_n (pc := 131) dX4_copyFrom_131 rfl ?_
  refine j_aload_n (pc := 132) dX4_copyFrom_132 rfl ?_
  refine j_getI_c (pc := 133) f_X4_50 dX4_copyFrom_133 rfl rfl (by decide) (by decide) ?_
  refine j_putI_a (pc := 136) f_X4_50 dX4_copyFrom_136 rfl rfl rfl (by decide) ?_
  refine j_aload_n (pc := 139) dX4_copyFrom_139 rfl ?_
  refine j_aload_n (pc := 140) dX4_copyFrom_140 rfl ?_
  refine j_getI_c (pc := 141) f_X4_53 dX4_copyFrom_141 rfl rfl (by decide) (by decide) ?_
  refine j_putI_a (pc := 144) f_X4_53 dX4_copyFrom_144 rfl rfl rfl (by decide) ?_
  refine j_retv dX4_copyFrom_147 (?_) rfl
  refine ⟨⟨I1, h1, fun z z1 z2 => ?_⟩, fun i hi => ?_, fun i hi => ⟨?_, ?_, ?_⟩, fun i hi => ⟨?_, ?_, ?_⟩, ?_, ?_, ?_, ?_⟩
  · repeat' rw [jSf_n (by omega)]
  all_goals
    repeat' first | rw [jSf_s] | rw [jSf_n (by decide)]
    first
      | rw [acp_lt (by omega)]
      | rw [jU_s]
      | rw [jU_n (by omega), jU_s]
      | rw [jU_n (by omega), jU_n (by omega), jU_s]
      | rw [jU_n (by omega), jU_n (by omega), jU_n (by omega), jU_s]
    repeat' first | rw [jSf_s] | rw [jSf_n (by decide)]
    rw [hz _ (by decide) (by decide)]
