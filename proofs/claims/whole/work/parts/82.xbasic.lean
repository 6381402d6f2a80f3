/-! ===== the class: its small parts ===== -/
theorem c_xbad (X : jX) (I : jMI) (r : Int) : C_X11_refuseBad X [jR 0, jI r] I (fun v I' => v = r ∧ I' = cRef I 0) := by
  refine CG.of (by decide) [some (jR 0), some (jI r)] rfl (Nat.le_of_ble_eq_true rfl) ?_
  refine j_aload_n (pc := 0) dX11_refuseBad_0 rfl ?_
  refine j_dupR (pc := 1) dX11_refuseBad_1 ?_
  refine j_getI (pc := 2) f_X11_261 dX11_refuseBad_2 rfl rfl (by decide) ?_
  refine j_iconst (pc := 5) dX11_refuseBad_5 ?_
  refine j_iadd (pc := 6) dX11_refuseBad_6 ?_
  refine j_putI_b (pc := 7) f_X11_261 dX11_refuseBad_7 rfl rfl rfl (by decide) ?_
  refine j_iload_n (pc := 10) dX11_refuseBad_10 rfl ?_
  exact j_reti dX11_refuseBad_11 (⟨rfl, rfl⟩) rfl
theorem c_xno (X : jX) (I : jMI) : C_X11_refuseNo X [jR 0] I (fun v I' => v = -3 ∧ I' = cRef I 1) := by
  refine CG.of (by decide) [some (jR 0)] rfl (Nat.le_of_ble_eq_true rfl) ?_
  refine j_aload_n (pc := 0) dX11_refuseNo_0 rfl ?_
  refine j_dupR (pc := 1) dX11_refuseNo_1 ?_
  refine j_getI (pc := 2) f_X11_264 dX11_refuseNo_2 rfl rfl (by decide) ?_
  refine j_iconst (pc := 5) dX11_refuseNo_5 ?_
  refine j_iadd (pc := 6) dX11_refuseNo_6 ?_
  refine j_putI_b (pc := 7) f_X11_264 dX11_refuseNo_7 rfl rfl rfl (by decide) ?_
  refine j_bipush (pc := 10) dX11_refuseNo_10 (by decide) ?_
  exact j_reti dX11_refuseNo_12 (⟨rfl, rfl⟩) rfl
theorem c_xfull (X : jX) (I : jMI) : C_X11_refuseFull X [jR 0] I (fun v I' => v = -4 ∧ I' = cRef I 2) := by
  refine CG.of (by decide) [some (jR 0)] rfl (Nat.le_of_ble_eq_true rfl) ?_
  refine j_aload_n (pc := 0) dX11_refuseFull_0 rfl ?_
  refine j_dupR (pc := 1) dX11_refuseFull_1 ?_
  refine j_getI (pc := 2) f_X11_267 dX11_refuseFull_2 rfl rfl (by decide) ?_
  refine j_iconst (pc := 5) dX11_refuseFull_5 ?_
  refine j_iadd (pc := 6) dX11_refuseFull_6 ?_
  refine j_putI_b (pc := 7) f_X11_267 dX11_refuseFull_7 rfl rfl rfl (by decide) ?_
  refine j_bipush (pc := 10) dX11_refuseFull_10 (by decide) ?_
  exact j_reti dX11_refuseFull_12 (⟨rfl, rfl⟩) rfl
theorem c_xin (X : jX) (I : jMI) (a b : Int) (ha : -2147483648 ≤ a ∧ a < 2147483648) (hb : -2147483648 ≤ b ∧ b < 2147483648) : C_X11_within X [jI a, jI b] I (fun v I' => ((v = 1 ∧ 0 ≤ a ∧ a ≤ b) ∨ (v = 0 ∧ ¬ (0 ≤ a ∧ a ≤ b))) ∧ I' = I) := by
  refine CG.of (by decide) [some (jI a), some (jI b)] rfl (Nat.le_of_ble_eq_true rfl) ?_
  refine j_iload_n (pc := 0) dX11_within_0 rfl ?_
  refine j_if_lt (pc := 1) 13 dX11_within_1 (by decide) (by omega) (fun h_1 => ?_) (fun h_1 => ?_)
  · refine j_iconst (pc := 13) dX11_within_13 ?_
    refine j_retz dX11_within_14 (by omega) (?_) rfl
    refine ⟨?_, rfl⟩
    omega
  · refine j_iload_n (pc := 4) dX11_within_4 rfl ?_
    refine j_iload_n (pc := 5) dX11_within_5 rfl ?_
    refine j_icmp_gt (pc := 6) 13 dX11_within_6 (by decide) (by omega) (by omega) (fun h_6 => ?_) (fun h_6 => ?_)
    · refine j_iconst (pc := 13) dX11_within_13 ?_
      refine j_retz dX11_within_14 (by omega) (?_) rfl
      refine ⟨?_, rfl⟩
      omega
    · refine j_iconst (pc := 9) dX11_within_9 ?_
      refine j_goto (pc := 10) 14 dX11_within_10 (by decide) ?_
      refine j_retz dX11_within_14 (by omega) (?_) rfl
      refine ⟨?_, rfl⟩
      omega
theorem c_xroom (X : jX) (I : jMI) (a : Int) (ha : -2147483648 ≤ a ∧ a < 2147483648) : C_X11_isRoom X [jI a] I (fun v I' => ((v = 1 ∧ 0 ≤ a ∧ a ≤ 7) ∨ (v = 0 ∧ ¬ (0 ≤ a ∧ a ≤ 7))) ∧ I' = I) := by
  refine CG.of (by decide) [some (jI a)] rfl (Nat.le_of_ble_eq_true rfl) ?_
  refine j_iload_n (pc := 0) dX11_isRoom_0 rfl ?_
  refine j_bipush (pc := 1) dX11_isRoom_1 (by decide) ?_
  refine j_goI (pc := 3) (j_runS k_X11_80 m_X11_within (c_xin X I a 7 ha (by omega)) dX11_isRoom_3 (by decide) rfl rfl (Nat.le_of_ble_eq_true rfl)) (fun r1 I1 h1 => ?_)
  obtain ⟨h1, rfl⟩ := h1
  refine j_retz dX11_isRoom_6 (by omega) (?_) rfl
  exact ⟨h1, rfl⟩
theorem c_xpupil (X : jX) (I : jMI) (a : Int) (ha : -2147483648 ≤ a ∧ a < 2147483648) : C_X11_isPupil X [jI a] I (fun v I' => ((v = 1 ∧ 0 ≤ a ∧ a ≤ 2) ∨ (v = 0 ∧ ¬ (0 ≤ a ∧ a ≤ 2))) ∧ I' = I) := by
  refine CG.of (by decide) [some (jI a)] rfl (Nat.le_of_ble_eq_true rfl) ?_
  refine j_iload_n (pc := 0) dX11_isPupil_0 rfl ?_
  refine j_iconst (pc := 1) dX11_isPupil_1 ?_
  refine j_goI (pc := 2) (j_runS k_X11_80 m_X11_within (c_xin X I a 2 ha (by omega)) dX11_isPupil_2 (by decide) rfl rfl (Nat.le_of_ble_eq_true rfl)) (fun r1 I1 h1 => ?_)
  obtain ⟨h1, rfl⟩ := h1
  refine j_retz dX11_isPupil_5 (by omega) (?_) rfl
  exact ⟨h1, rfl⟩
theorem c_xsl (X : jX) (I : jMI) (a b : Int) (ha : -2147483648 ≤ a ∧ a < 2147483648) (hb : I 2 9 = b) (hb5 : 0 ≤ b ∧ b ≤ 5) : C_X11_isSleeper X [jR 0, jI a] I (fun v I' => ((v = 1 ∧ 0 ≤ a ∧ a < b) ∨ (v = 0 ∧ ¬ (0 ≤ a ∧ a < b))) ∧ I' = I) := by
  refine CG.of (by decide) [some (jR 0), some (jI a)] rfl (Nat.le_of_ble_eq_true rfl) ?_
  refine j_iload_n (pc := 0) dX11_isSleeper_0 rfl ?_
  refine j_aload_n (pc := 1) dX11_isSleeper_1 rfl ?_
  refine j_getR (pc := 2) f_X11_10 dX11_isSleeper_2 rfl rfl (by decide) rfl ?_
  refine j_getR (pc := 5) f_X11_63 dX11_isSleeper_5 rfl rfl (by decide) rfl ?_
  refine j_getI (pc := 8) f_X11_66 dX11_isSleeper_8 rfl rfl (by decide) ?_
  rw [hb]
  refine j_iconst (pc := 11) dX11_isSleeper_11 ?_
  refine j_isub (pc := 12) dX11_isSleeper_12 ?_
  refine j_goI (pc := 13) (j_runS k_X11_80 m_X11_within (c_xin X I a (b - 1) ha (by omega)) dX11_isSleeper_13 (by decide) rfl rfl (Nat.le_of_ble_eq_true rfl)) (fun r1 I1 h1 => ?_)
  obtain ⟨h1, rfl⟩ := h1
  refine j_retz dX11_isSleeper_16 (by omega) (?_) rfl
  refine ⟨?_, rfl⟩
  omega
theorem c_xth (X : jX) (I : jMI) (a b : Int) (ha : -2147483648 ≤ a ∧ a < 2147483648) (hb : I 2 10 = b) (hb5 : 0 ≤ b ∧ b ≤ 5) : C_X11_isThing X [jR 0, jI a] I (fun v I' => ((v = 1 ∧ 0 ≤ a ∧ a < b) ∨ (v = 0 ∧ ¬ (0 ≤ a ∧ a < b))) ∧ I' = I) := by
  refine CG.of (by decide) [some (jR 0), some (jI a)] rfl (Nat.le_of_ble_eq_true rfl) ?_
  refine j_iload_n (pc := 0) dX11_isThing_0 rfl ?_
  refine j_aload_n (pc := 1) dX11_isThing_1 rfl ?_
  refine j_getR (pc := 2) f_X11_10 dX11_isThing_2 rfl rfl (by decide) rfl ?_
  refine j_getR (pc := 5) f_X11_63 dX11_isThing_5 rfl rfl (by decide) rfl ?_
  refine j_getI (pc := 8) f_X11_102 dX11_isThing_8 rfl rfl (by decide) ?_
  rw [hb]
  refine j_iconst (pc := 11) dX11_isThing_11 ?_
  refine j_isub (pc := 12) dX11_isThing_12 ?_
  refine j_goI (pc := 13) (j_runS k_X11_80 m_X11_within (c_xin X I a (b - 1) ha (by omega)) dX11_isThing_13 (by decide) rfl rfl (Nat.le_of_ble_eq_true rfl)) (fun r1 I1 h1 => ?_)
  obtain ⟨h1, rfl⟩ := h1
  refine j_retz dX11_isThing_16 (by omega) (?_) rfl
  refine ⟨?_, rfl⟩
  omega
