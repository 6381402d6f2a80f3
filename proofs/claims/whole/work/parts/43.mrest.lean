/-! ===== the reference: part, image, from, status, count ===== -/
theorem c_mpart (X : jX) (I : jMI) (w : Int) (q : Int → jMI → Prop) (hw : -2147483648 ≤ w ∧ w < 2147483648) (q0 : ¬ (0 ≤ w ∧ w ≤ 1) → q (-2) (mRef I 0)) (q1 : w = 0 → q (I 105 1) I) (q2 : w = 1 → q (I 105 2) I) : C_X12_part X [jR 105, jI w] I q := by
  refine CG.of (by decide) [some (jR 105), some (jI w)] rfl (Nat.le_of_ble_eq_true rfl) ?_
  refine j_iload_n (pc := 0) dX12_part_0 rfl ?_
  refine j_if_ne (pc := 1) 11 dX12_part_1 (by decide) (by omega) (fun h_1 => ?_) (fun h_1 => ?_)
  · refine j_iload_n (pc := 11) dX12_part_11 rfl ?_
    refine j_iconst (pc := 12) dX12_part_12 ?_
    refine j_icmp_ne (pc := 13) 23 dX12_part_13 (by decide) (by omega) (by omega) (fun h_13 => ?_) (fun h_13 => ?_)
    · refine j_aload_n (pc := 23) dX12_part_23 rfl ?_
      refine j_goI (pc := 24) (j_runV k_X12_95 m_X12_bad (c_bad X I) dX12_part_24 rfl (by decide) rfl (by decide) (by decide) rfl rfl (Nat.le_of_ble_eq_true rfl)) (fun r9 I9 h9 => ?_)
      obtain ⟨rfl, rfl⟩ := h9
      refine j_i2l (pc := 27) dX12_part_27 (by omega) ?_
      exact j_retl dX12_part_28 (by first | exact q1 (by omega) | exact q2 (by omega) | exact q0 (by omega)) rfl
    · refine j_aload_n (pc := 16) dX12_part_16 rfl ?_
      refine j_getL (pc := 17) f_X12_13 dX12_part_17 rfl rfl (by decide) ?_
      refine j_goto (pc := 20) 28 dX12_part_20 (by decide) ?_
      exact j_retl dX12_part_28 (by first | exact q1 (by omega) | exact q2 (by omega) | exact q0 (by omega)) rfl
  · refine j_aload_n (pc := 4) dX12_part_4 rfl ?_
    refine j_getL (pc := 5) f_X12_263 dX12_part_5 rfl rfl (by decide) ?_
    refine j_goto (pc := 8) 28 dX12_part_8 (by decide) ?_
    exact j_retl dX12_part_28 (by first | exact q1 (by omega) | exact q2 (by omega) | exact q0 (by omega)) rfl
def cpTo (s d : Nat → Int) (o n : Nat) : Nat → Int := fun j => if o ≤ j ∧ j < o + n then s (j - o) else d j
def cpFr (s d : Nat → Int) (o n : Nat) : Nat → Int := fun j => if j < n then s (o + j) else d j
theorem cpTo_s {s d g : Nat → Int} {o k : Nat} (hg : g = cpTo s d o k) : jU g (o + k) (s k) = cpTo s d o (k + 1) := by
  subst hg
  funext j
  unfold cpTo
  by_cases e : j = o + k
  · subst e; rw [jU_s, if_pos (by omega), show o + k - o = k by omega]
  · rw [jU_n e]
    repeat' split
    all_goals first | rfl | omega
theorem cpTo_0 {s d : Nat → Int} {o : Nat} : cpTo s d o 0 = d := by
  funext j
  unfold cpTo
  rw [if_neg (by omega)]
theorem cpFr_s {s d g : Nat → Int} {o k : Nat} (hg : g = cpFr s d o k) : jU g k (s (o + k)) = cpFr s d o (k + 1) := by
  subst hg
  funext j
  unfold cpFr
  by_cases e : j = k
  · subst e; rw [jU_s, if_pos (by omega)]
  · rw [jU_n e]
    repeat' split
    all_goals first | rfl | omega
theorem cpFr_0 {s d : Nat → Int} {o : Nat} : cpFr s d o 0 = d := by
  funext j
  unfold cpFr
  rw [if_neg (by omega)]
def mImg (I : jMI) (i : Nat) : jMI := jSf (jSf (jSf (jSf I 121 (cpTo (I 106) (I 121) (99 * i) 99)) 122 (cpTo (I 111) (I 122) (40 * i) 40)) 123 (jU (I 123) i (I 105 16))) 120 (jU (I 120) i 1)
def mFro (I : jMI) (i : Nat) : jMI := jSf (jSf (jSf I 106 (cpFr (I 121) (I 106) (99 * i) 99)) 111 (cpFr (I 122) (I 111) (40 * i) 40)) 105 (jU (I 105) 16 (I 123 i))
theorem c_mimage (X : jX) (I : jMI) (a : Int) (q : Int → jMI → Prop) (ha : -2147483648 ≤ a ∧ a < 2147483648) (q0 : ¬ (0 ≤ a ∧ a ≤ 1) → q (-2) (mRef I 0)) (q1 : ∀ i : Nat, a = i → i < 2 → q 1 (mImg I i)) : C_X12_image X [jR 105, jI a] I q := by
  refine CG.of (by decide) [some (jR 105), some (jI a), none] rfl (Nat.le_of_ble_eq_true rfl) ?_
  have k45 : ∀ i : Nat, a = i → i < 2 → ∀ (k : Nat) (g : Nat → Int), k ≤ 40 → g = cpTo (I 111) (I 122) (40 * i) k → S_X12_image X 45 [some (jR 105), some (jI i), some (jI k)] [] (jSf (jSf I 121 (cpTo (I 106) (I 121) (99 * i) 99)) 122 g) q := by
    intro i hai hi
    refine mu2 (fun k _ => 40 - k) _ (fun k g ih hk hg => ?_)
    refine j_iload_n (pc := 45) dX12_image_45 rfl ?_
    refine j_bipush (pc := 46) dX12_image_46 (by decide) ?_
    refine j_icmp_ge (pc := 48) 74 dX12_image_48 (by decide) (by omega) (by omega) (fun h_48 => ?_) (fun h_48 => ?_)
    · refine j_aload_n (pc := 74) dX12_image_74 rfl ?_
      refine j_getR (pc := 75) f_X12_67 dX12_image_75 rfl rfl (by decide) rfl ?_
      refine j_iload_n (pc := 78) dX12_image_78 rfl ?_
      refine j_aload_n (pc := 79) dX12_image_79 rfl ?_
      refine j_getI_c (pc := 80) f_X12_81 dX12_image_80 rfl rfl (by decide) (by decide) ?_
      refine j_iast_b (pc := 83) (i) dX12_image_83 rfl (by decide) (by decide) (by omega) (by omega) ?_
      refine j_aload_n (pc := 84) dX12_image_84 rfl ?_
      refine j_getR (pc := 85) f_X12_58 dX12_image_85 rfl rfl (by decide) rfl ?_
      refine j_iload_n (pc := 88) dX12_image_88 rfl ?_
      refine j_iconst (pc := 89) dX12_image_89 ?_
      refine j_zast_b (pc := 90) (i) dX12_image_90 rfl (by decide) (by decide) (by decide) (by omega) (by omega) ?_
      refine j_iconst (pc := 91) dX12_image_91 ?_
      refine j_reti dX12_image_92 (?_) rfl
      obtain rfl : k = 40 := by omega
      subst hg
      have h1 := q1 i hai hi
      unfold mImg at h1
      repeat rw [jSf_n (by decide)]
      exact h1
    · refine j_aload_n (pc := 51) dX12_image_51 rfl ?_
      refine j_getR (pc := 52) f_X12_64 dX12_image_52 rfl rfl (by decide) rfl ?_
      refine j_bipush (pc := 55) dX12_image_55 (by decide) ?_
      refine j_iload_n (pc := 57) dX12_image_57 rfl ?_
      refine j_imul (pc := 58) dX12_image_58 ?_
      refine j_iload_n (pc := 59) dX12_image_59 rfl ?_
      refine j_iadd (pc := 60) dX12_image_60 ?_
      refine j_aload_n (pc := 61) dX12_image_61 rfl ?_
      refine j_getR (pc := 62) f_X12_29 dX12_image_62 rfl rfl (by decide) rfl ?_
      refine j_iload_n (pc := 65) dX12_image_65 rfl ?_
      refine j_iald_c (pc := 66) (k) dX12_image_66 rfl (by decide) (by decide) (by omega) (by omega) (by decide) ?_
      rw [jSf_n (by decide)]
      refine j_iast_a (pc := 67) (40 * i + k) dX12_image_67 rfl (by decide) (by decide) (by omega) (by omega) ?_
      refine j_iinc2 (pc := 68) dX12_image_68 (by decide) rfl ?_
      refine j_goto (pc := 71) 45 dX12_image_71 (by decide) ?_
      exact ih (k + 1) _ (by omega) (by omega) (cpTo_s hg)
  have k14 : ∀ i : Nat, a = i → i < 2 → ∀ (k : Nat) (g : Nat → Int), k ≤ 99 → g = cpTo (I 106) (I 121) (99 * i) k → S_X12_image X 14 [some (jR 105), some (jI i), some (jI k)] [] (jSf I 121 g) q := by
    intro i hai hi
    refine mu2 (fun k _ => 99 - k) _ (fun k g ih hk hg => ?_)
    refine j_iload_n (pc := 14) dX12_image_14 rfl ?_
    refine j_bipush (pc := 15) dX12_image_15 (by decide) ?_
    refine j_icmp_ge (pc := 17) 43 dX12_image_17 (by decide) (by omega) (by omega) (fun h_17 => ?_) (fun h_17 => ?_)
    · refine j_iconst (pc := 43) dX12_image_43 ?_
      refine j_istore_n2 (pc := 44) dX12_image_44 (by decide) rfl ?_
      obtain rfl : k = 99 := by omega
      have hy := k45 i hai hi 0 (I 122) (by omega) cpTo_0.symm
      rw [show I 122 = (jSf I 121 (cpTo (I 106) (I 121) (99 * i) 99)) 122 from (jSf_n (by decide)).symm, jSf_i, ← hg] at hy
      exact hy
    · refine j_aload_n (pc := 20) dX12_image_20 rfl ?_
      refine j_getR (pc := 21) f_X12_61 dX12_image_21 rfl rfl (by decide) rfl ?_
      refine j_bipush (pc := 24) dX12_image_24 (by decide) ?_
      refine j_iload_n (pc := 26) dX12_image_26 rfl ?_
      refine j_imul (pc := 27) dX12_image_27 ?_
      refine j_iload_n (pc := 28) dX12_image_28 rfl ?_
      refine j_iadd (pc := 29) dX12_image_29 ?_
      refine j_aload_n (pc := 30) dX12_image_30 rfl ?_
      refine j_getR (pc := 31) f_X12_7 dX12_image_31 rfl rfl (by decide) rfl ?_
      refine j_iload_n (pc := 34) dX12_image_34 rfl ?_
      refine j_iald_c (pc := 35) (k) dX12_image_35 rfl (by decide) (by decide) (by omega) (by omega) (by decide) ?_
      refine j_iast_a (pc := 36) (99 * i + k) dX12_image_36 rfl (by decide) (by decide) (by omega) (by omega) ?_
      refine j_iinc2 (pc := 37) dX12_image_37 (by decide) rfl ?_
      refine j_goto (pc := 40) 14 dX12_image_40 (by decide) ?_
      exact ih (k + 1) _ (by omega) (by omega) (cpTo_s hg)
  refine j_iload_n (pc := 0) dX12_image_0 rfl ?_
  refine j_goI (pc := 1) (j_runS k_X12_238 m_X12_isWhat (c_isWhat X I a ha) dX12_image_1 (by decide) rfl rfl (Nat.le_of_ble_eq_true rfl)) (fun r1 I1 h1 => ?_)
  obtain ⟨rfl, rfl⟩ := h1
  refine j_if_ne (pc := 4) 12 dX12_image_4 (by decide) (by omega) (fun h_4 => ?_) (fun h_4 => ?_)
  · refine j_iconst (pc := 12) dX12_image_12 ?_
    refine j_istore_n2 (pc := 13) dX12_image_13 (by decide) rfl ?_
    obtain ⟨i, rfl⟩ := Int.eq_ofNat_of_zero_le (show 0 ≤ a by omega)
    have hy := k14 i rfl (by omega) 0 (I1 121) (by omega) cpTo_0.symm
    rw [jSf_i] at hy
    exact hy
  · refine j_aload_n (pc := 7) dX12_image_7 rfl ?_
    refine j_goI (pc := 8) (j_runV k_X12_95 m_X12_bad (c_bad X I1) dX12_image_8 rfl (by decide) rfl (by decide) (by decide) rfl rfl (Nat.le_of_ble_eq_true rfl)) (fun r9 I9 h9 => ?_)
    obtain ⟨rfl, rfl⟩ := h9
    exact j_reti dX12_image_11 (q0 (by omega)) rfl
theorem c_mfrom (X : jX) (I : jMI) (a : Int) (q : Int → jMI → Prop) (ha : -2147483648 ≤ a ∧ a < 2147483648) (hz : ∀ i, i < 2 → I 120 i = 0 ∨ I 120 i = 1) (q0 : ¬ (0 ≤ a ∧ a ≤ 1) → q (-2) (mRef I 0)) (q1 : ∀ i : Nat, a = i → i < 2 → I 120 i = 0 → q (-3) (mRef I 1)) (q2 : ∀ i : Nat, a = i → i < 2 → I 120 i = 1 → q 1 (mFro I i)) : C_X12_from X [jR 105, jI a] I q := by
  refine CG.of (by decide) [some (jR 105), some (jI a), none] rfl (Nat.le_of_ble_eq_true rfl) ?_
  have k59 : ∀ i : Nat, a = i → i < 2 → I 120 i = 1 → ∀ (k : Nat) (g : Nat → Int), k ≤ 40 → g = cpFr (I 122) (I 111) (40 * i) k → S_X12_from X 59 [some (jR 105), some (jI i), some (jI k)] [] (jSf (jSf I 106 (cpFr (I 121) (I 106) (99 * i) 99)) 111 g) q := by
    intro i hai hi h1
    refine mu2 (fun k _ => 40 - k) _ (fun k g ih hk hg => ?_)
    refine j_iload_n (pc := 59) dX12_from_59 rfl ?_
    refine j_bipush (pc := 60) dX12_from_60 (by decide) ?_
    refine j_icmp_ge (pc := 62) 88 dX12_from_62 (by decide) (by omega) (by omega) (fun h_62 => ?_) (fun h_62 => ?_)
    · refine j_aload_n (pc := 88) dX12_from_88 rfl ?_
      refine j_aload_n (pc := 89) dX12_from_89 rfl ?_
      refine j_getR (pc := 90) f_X12_67 dX12_from_90 rfl rfl (by decide) rfl ?_
      refine j_iload_n (pc := 93) dX12_from_93 rfl ?_
      refine j_iald_c (pc := 94) (i) dX12_from_94 rfl (by decide) (by decide) (by omega) (by omega) (by decide) ?_
      rw [jSf_n (by decide)]
      refine j_putI_b (pc := 95) f_X12_81 dX12_from_95 rfl rfl rfl (by decide) ?_
      refine j_iconst (pc := 98) dX12_from_98 ?_
      refine j_reti dX12_from_99 (?_) rfl
      obtain rfl : k = 40 := by omega
      subst hg
      have h1 := q2 i hai hi h1
      unfold mFro at h1
      rw [jSf_n (by decide), jSf_n (by decide)]
      exact h1
    · refine j_aload_n (pc := 65) dX12_from_65 rfl ?_
      refine j_getR (pc := 66) f_X12_29 dX12_from_66 rfl rfl (by decide) rfl ?_
      refine j_iload_n (pc := 69) dX12_from_69 rfl ?_
      refine j_aload_n (pc := 70) dX12_from_70 rfl ?_
      refine j_getR (pc := 71) f_X12_64 dX12_from_71 rfl rfl (by decide) rfl ?_
      refine j_bipush (pc := 74) dX12_from_74 (by decide) ?_
      refine j_iload_n (pc := 76) dX12_from_76 rfl ?_
      refine j_imul (pc := 77) dX12_from_77 ?_
      refine j_iload_n (pc := 78) dX12_from_78 rfl ?_
      refine j_iadd (pc := 79) dX12_from_79 ?_
      refine j_iald_c (pc := 80) (40 * i + k) dX12_from_80 rfl (by decide) (by decide) (by omega) (by omega) (by decide) ?_
      rw [jSf_n (by decide)]
      refine j_iast_a (pc := 81) (k) dX12_from_81 rfl (by decide) (by decide) (by omega) (by omega) ?_
      refine j_iinc2 (pc := 82) dX12_from_82 (by decide) rfl ?_
      refine j_goto (pc := 85) 59 dX12_from_85 (by decide) ?_
      exact ih (k + 1) _ (by omega) (by omega) (cpFr_s hg)
  have k28 : ∀ i : Nat, a = i → i < 2 → I 120 i = 1 → ∀ (k : Nat) (g : Nat → Int), k ≤ 99 → g = cpFr (I 121) (I 106) (99 * i) k → S_X12_from X 28 [some (jR 105), some (jI i), some (jI k)] [] (jSf I 106 g) q := by
    intro i hai hi h1
    refine mu2 (fun k _ => 99 - k) _ (fun k g ih hk hg => ?_)
    refine j_iload_n (pc := 28) dX12_from_28 rfl ?_
    refine j_bipush (pc := 29) dX12_from_29 (by decide) ?_
    refine j_icmp_ge (pc := 31) 57 dX12_from_31 (by decide) (by omega) (by omega) (fun h_31 => ?_) (fun h_31 => ?_)
    · refine j_iconst (pc := 57) dX12_from_57 ?_
      refine j_istore_n2 (pc := 58) dX12_from_58 (by decide) rfl ?_
      obtain rfl : k = 99 := by omega
      have hy := k59 i hai hi h1 0 (I 111) (by omega) cpFr_0.symm
      rw [show I 111 = (jSf I 106 (cpFr (I 121) (I 106) (99 * i) 99)) 111 from (jSf_n (by decide)).symm, jSf_i, ← hg] at hy
      exact hy
    · refine j_aload_n (pc := 34) dX12_from_34 rfl ?_
      refine j_getR (pc := 35) f_X12_7 dX12_from_35 rfl rfl (by decide) rfl ?_
      refine j_iload_n (pc := 38) dX12_from_38 rfl ?_
      refine j_aload_n (pc := 39) dX12_from_39 rfl ?_
      refine j_getR (pc := 40) f_X12_61 dX12_from_40 rfl rfl (by decide) rfl ?_
      refine j_bipush (pc := 43) dX12_from_43 (by decide) ?_
      refine j_iload_n (pc := 45) dX12_from_45 rfl ?_
      refine j_imul (pc := 46) dX12_from_46 ?_
      refine j_iload_n (pc := 47) dX12_from_47 rfl ?_
      refine j_iadd (pc := 48) dX12_from_48 ?_
      refine j_iald_c (pc := 49) (99 * i + k) dX12_from_49 rfl (by decide) (by decide) (by omega) (by omega) (by decide) ?_
      refine j_iast_a (pc := 50) (k) dX12_from_50 rfl (by decide) (by decide) (by omega) (by omega) ?_
      refine j_iinc2 (pc := 51) dX12_from_51 (by decide) rfl ?_
      refine j_goto (pc := 54) 28 dX12_from_54 (by decide) ?_
      exact ih (k + 1) _ (by omega) (by omega) (cpFr_s hg)
  refine j_iload_n (pc := 0) dX12_from_0 rfl ?_
  refine j_goI (pc := 1) (j_runS k_X12_238 m_X12_isWhat (c_isWhat X I a ha) dX12_from_1 (by decide) rfl rfl (Nat.le_of_ble_eq_true rfl)) (fun r1 I1 h1 => ?_)
  obtain ⟨rfl, rfl⟩ := h1
  refine j_if_ne (pc := 4) 12 dX12_from_4 (by decide) (by omega) (fun h_4 => ?_) (fun h_4 => ?_)
  · obtain ⟨i, rfl⟩ := Int.eq_ofNat_of_zero_le (show 0 ≤ a by omega)
    have hz1 := hz i (by omega)
    refine j_aload_n (pc := 12) dX12_from_12 rfl ?_
    refine j_getR (pc := 13) f_X12_58 dX12_from_13 rfl rfl (by decide) rfl ?_
    refine j_iload_n (pc := 16) dX12_from_16 rfl ?_
    refine j_zald_b (pc := 17) (i) dX12_from_17 rfl (by decide) (by decide) (by omega) (by omega) ?_
    refine j_if_ne (pc := 18) 26 dX12_from_18 (by decide) (by omega) (fun h_18 => ?_) (fun h_18 => ?_)
    · refine j_iconst (pc := 26) dX12_from_26 ?_
      refine j_istore_n2 (pc := 27) dX12_from_27 (by decide) rfl ?_
      have hy := k28 i rfl (by omega) (by omega) 0 (I1 106) (by omega) cpFr_0.symm
      rw [jSf_i] at hy
      exact hy
    · refine j_aload_n (pc := 21) dX12_from_21 rfl ?_
      refine j_goI (pc := 22) (j_runV k_X12_214 m_X12_no (c_no X I1) dX12_from_22 rfl (by decide) rfl (by decide) (by decide) rfl rfl (Nat.le_of_ble_eq_true rfl)) (fun r8 I8 h8 => ?_)
      obtain ⟨rfl, rfl⟩ := h8
      exact j_reti dX12_from_25 (q1 i rfl (by omega) (by omega)) rfl
  · refine j_aload_n (pc := 7) dX12_from_7 rfl ?_
    refine j_goI (pc := 8) (j_runV k_X12_95 m_X12_bad (c_bad X I1) dX12_from_8 rfl (by decide) rfl (by decide) (by decide) rfl rfl (Nat.le_of_ble_eq_true rfl)) (fun r9 I9 h9 => ?_)
    obtain ⟨rfl, rfl⟩ := h9
    exact j_reti dX12_from_11 (q0 (by omega)) rfl
theorem c_mstatus (X : jX) (I : jMI) (w : Int) (q : Int → jMI → Prop) (hw : -2147483648 ≤ w ∧ w < 2147483648) (q0 : ¬ (0 ≤ w ∧ w ≤ 2) → q (-1) (mRef I 0)) (q1 : ∀ i : Nat, w = i → i < 3 → q (I 107 i) I) : C_X12_status X [jR 105, jI w] I q := by
  refine CG.of (by decide) [some (jR 105), some (jI w)] rfl (Nat.le_of_ble_eq_true rfl) ?_
  refine j_iload_n (pc := 0) dX12_status_0 rfl ?_
  refine j_i2l (pc := 1) dX12_status_1 (by omega) ?_
  refine j_lconst0 (pc := 2) dX12_status_2 ?_
  refine j_ldc2 (pc := 3) cl_X12_118 dX12_status_3 ?_
  refine j_goI (pc := 6) (j_runS k_X12_75 m_X12_in (c_in X I w 0 2 hw (by omega) (by omega)) dX12_status_6 (by decide) rfl rfl (Nat.le_of_ble_eq_true rfl)) (fun r1 I1 h1 => ?_)
  obtain ⟨rfl, rfl⟩ := h1
  refine j_if_ne (pc := 9) 19 dX12_status_9 (by decide) (by omega) (fun h_9 => ?_) (fun h_9 => ?_)
  · obtain ⟨i, rfl⟩ := Int.eq_ofNat_of_zero_le (show 0 ≤ w by omega)
    refine j_aload_n (pc := 19) dX12_status_19 rfl ?_
    refine j_getR (pc := 20) f_X12_17 dX12_status_20 rfl rfl (by decide) rfl ?_
    refine j_iload_n (pc := 23) dX12_status_23 rfl ?_
    refine j_iald_b (pc := 24) (i) dX12_status_24 rfl (by decide) (by decide) (by omega) (by omega) ?_
    exact j_reti dX12_status_25 (q1 i rfl (by omega)) rfl
  · refine j_aload_n (pc := 12) dX12_status_12 rfl ?_
    refine j_goI (pc := 13) (j_runV k_X12_95 m_X12_bad (c_bad X I1) dX12_status_13 rfl (by decide) rfl (by decide) (by decide) rfl rfl (Nat.le_of_ble_eq_true rfl)) (fun r9 I9 h9 => ?_)
    obtain ⟨rfl, rfl⟩ := h9
    refine j_pop (pc := 16) dX12_status_16 ?_
    refine j_iconst (pc := 17) dX12_status_17 ?_
    exact j_reti dX12_status_18 (q0 (by omega)) rfl
/-- what is counted -/
def cnt (I : jMI) (i : Nat) : Int := if i = 0 then I 106 5 else if i = 1 then I 106 21 else if i = 2 then I 106 0 else if i = 3 then (pop5 (I 106 1).toNat : Nat) else if i = 4 then I 106 52 else if i = 5 then I 105 16 else I 105 5
theorem c_countOf (X : jX) (I : jMI) (i : Nat) (hi : i ≤ 6) (hok : okSt (I 106)) : C_X12_countOf X [jR 105, jI i] I (fun r I' => r = cnt I i ∧ I' = I) := by
  refine CG.of (by decide) [some (jR 105), some (jI i)] rfl (Nat.le_of_ble_eq_true rfl) ?_
  obtain ⟨aw, haw, haw32⟩ := okSt_1 hok
  have hc : cnt I i = if i = 0 then I 106 5 else if i = 1 then I 106 21 else if i = 2 then I 106 0 else if i = 3 then (pop5 aw : Nat) else if i = 4 then I 106 52 else if i = 5 then I 105 16 else I 105 5 := by
    unfold cnt; rw [haw, Int.toNat_natCast]
  rw [hc]
  clear hc
  refine j_iload_n (pc := 0) dX12_countOf_0 rfl ?_
  refine j_tsw (pc := 1) dX12_countOf_1 (by omega) ?_ ?_
  · intro hsw
    refine j_pcto 85 (by decide) ?_
    refine j_aload_n (pc := 85) dX12_countOf_85 rfl ?_
    refine j_getI (pc := 86) f_X12_130 dX12_countOf_86 rfl rfl (by decide) ?_
    refine j_reti dX12_countOf_89 (?_) rfl
    refine ⟨?_, rfl⟩
    repeat' split
    all_goals first | rfl | omega
  · intro hsw1 hsw2
    rcases (show (i : Int) = 0 ∨ (i : Int) = 1 ∨ (i : Int) = 2 ∨ (i : Int) = 3 ∨ (i : Int) = 4 ∨ (i : Int) = 5 by omega) with hsw | hsw | hsw | hsw | hsw | hsw
    · refine j_swt (39) 40 rfl (by rw [hsw]; rfl) (by decide) ?_
      refine j_aload_n (pc := 40) dX12_countOf_40 rfl ?_
      refine j_getR (pc := 41) f_X12_7 dX12_countOf_41 rfl rfl (by decide) rfl ?_
      refine j_iconst (pc := 44) dX12_countOf_44 ?_
      refine j_iald_b (pc := 45) (5) dX12_countOf_45 rfl (by decide) (by decide) (by omega) (by omega) ?_
      refine j_reti dX12_countOf_46 (?_) rfl
      refine ⟨?_, rfl⟩
      repeat' split
      all_goals first | rfl | omega
    · refine j_swt (46) 47 rfl (by rw [hsw]; rfl) (by decide) ?_
      refine j_aload_n (pc := 47) dX12_countOf_47 rfl ?_
      refine j_getR (pc := 48) f_X12_7 dX12_countOf_48 rfl rfl (by decide) rfl ?_
      refine j_bipush (pc := 51) dX12_countOf_51 (by decide) ?_
      refine j_iald_b (pc := 53) (21) dX12_countOf_53 rfl (by decide) (by decide) (by omega) (by omega) ?_
      refine j_reti dX12_countOf_54 (?_) rfl
      refine ⟨?_, rfl⟩
      repeat' split
      all_goals first | rfl | omega
    · refine j_swt (54) 55 rfl (by rw [hsw]; rfl) (by decide) ?_
      refine j_aload_n (pc := 55) dX12_countOf_55 rfl ?_
      refine j_getR (pc := 56) f_X12_7 dX12_countOf_56 rfl rfl (by decide) rfl ?_
      refine j_iconst (pc := 59) dX12_countOf_59 ?_
      refine j_iald_b (pc := 60) (0) dX12_countOf_60 rfl (by decide) (by decide) (by omega) (by omega) ?_
      refine j_reti dX12_countOf_61 (?_) rfl
      refine ⟨?_, rfl⟩
      repeat' split
      all_goals first | rfl | omega
    · refine j_swt (61) 62 rfl (by rw [hsw]; rfl) (by decide) ?_
      refine j_aload_n (pc := 62) dX12_countOf_62 rfl ?_
      refine j_getR (pc := 63) f_X12_7 dX12_countOf_63 rfl rfl (by decide) rfl ?_
      refine j_iconst (pc := 66) dX12_countOf_66 ?_
      refine j_iald_b (pc := 67) (1) dX12_countOf_67 rfl (by decide) (by decide) (by omega) (by omega) ?_
      rw [haw]
      refine j_goI (pc := 68) (j_runS k_X12_268 m_X12_ones (c_ones X I aw haw32) dX12_countOf_68 (by decide) rfl rfl (Nat.le_of_ble_eq_true rfl)) (fun r1 I1 h1 => ?_)
      obtain ⟨rfl, rfl⟩ := h1
      refine j_reti dX12_countOf_71 (?_) rfl
      refine ⟨?_, rfl⟩
      repeat' split
      all_goals first | rfl | omega
    · refine j_swt (71) 72 rfl (by rw [hsw]; rfl) (by decide) ?_
      refine j_aload_n (pc := 72) dX12_countOf_72 rfl ?_
      refine j_getR (pc := 73) f_X12_7 dX12_countOf_73 rfl rfl (by decide) rfl ?_
      refine j_bipush (pc := 76) dX12_countOf_76 (by decide) ?_
      refine j_iald_b (pc := 78) (52) dX12_countOf_78 rfl (by decide) (by decide) (by omega) (by omega) ?_
      refine j_reti dX12_countOf_79 (?_) rfl
      refine ⟨?_, rfl⟩
      repeat' split
      all_goals first | rfl | omega
    · refine j_swt (79) 80 rfl (by rw [hsw]; rfl) (by decide) ?_
      refine j_aload_n (pc := 80) dX12_countOf_80 rfl ?_
      refine j_getI (pc := 81) f_X12_81 dX12_countOf_81 rfl rfl (by decide) ?_
      refine j_reti dX12_countOf_84 (?_) rfl
      refine ⟨?_, rfl⟩
      repeat' split
      all_goals first | rfl | omega
theorem c_mcount (X : jX) (I : jMI) (w : Int) (q : Int → jMI → Prop) (hw : -2147483648 ≤ w ∧ w < 2147483648) (hok : okSt (I 106)) (q0 : ¬ (0 ≤ w ∧ w ≤ 6) → q (-2) (mRef I 0)) (q1 : ∀ i : Nat, w = i → i ≤ 6 → q (cnt I i) I) : C_X12_count X [jR 105, jI w] I q := by
  refine CG.of (by decide) [some (jR 105), some (jI w)] rfl (Nat.le_of_ble_eq_true rfl) ?_
  refine j_iload_n (pc := 0) dX12_count_0 rfl ?_
  refine j_i2l (pc := 1) dX12_count_1 (by omega) ?_
  refine j_lconst0 (pc := 2) dX12_count_2 ?_
  refine j_ldc2 (pc := 3) cl_X12_287 dX12_count_3 ?_
  refine j_goI (pc := 6) (j_runS k_X12_75 m_X12_in (c_in X I w 0 6 hw (by omega) (by omega)) dX12_count_6 (by decide) rfl rfl (Nat.le_of_ble_eq_true rfl)) (fun r1 I1 h1 => ?_)
  obtain ⟨rfl, rfl⟩ := h1
  refine j_if_eq (pc := 9) 20 dX12_count_9 (by decide) (by omega) (fun h_9 => ?_) (fun h_9 => ?_)
  · refine j_aload_n (pc := 20) dX12_count_20 rfl ?_
    refine j_goI (pc := 21) (j_runV k_X12_95 m_X12_bad (c_bad X I1) dX12_count_21 rfl (by decide) rfl (by decide) (by decide) rfl rfl (Nat.le_of_ble_eq_true rfl)) (fun r9 I9 h9 => ?_)
    obtain ⟨rfl, rfl⟩ := h9
    exact j_reti dX12_count_24 (by first | exact q0 (by omega) | exact q1 _ rfl (by omega)) rfl
  · obtain ⟨i, rfl⟩ := Int.eq_ofNat_of_zero_le (show 0 ≤ w by omega)
    refine j_aload_n (pc := 12) dX12_count_12 rfl ?_
    refine j_iload_n (pc := 13) dX12_count_13 rfl ?_
    refine j_goI (pc := 14) (j_runV k_X12_289 m_X12_countOf (c_countOf X I1 i (by omega) hok) dX12_count_14 rfl (by decide) rfl (by decide) (by decide) rfl rfl (Nat.le_of_ble_eq_true rfl)) (fun r2 I2 h2 => ?_)
    obtain ⟨rfl, rfl⟩ := h2
    refine j_goto (pc := 17) 24 dX12_count_17 (by decide) ?_
    exact j_reti dX12_count_24 (by first | exact q0 (by omega) | exact q1 _ rfl (by omega)) rfl
