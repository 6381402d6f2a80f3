/-! ===== the reference: steps, waiting, undoing ===== -/
def noteB (u : Nat) : Nat := if u = 8 then 7 else u
def noteA (ah f : Nat → Int) (u : Nat) : Nat → Int := fun j => if 5 * noteB u ≤ j ∧ j < 5 * noteB u + 5 then f (j - 5 * noteB u) else if u = 8 ∧ j < 35 then ah (j + 5) else ah j
def mNote (I : jMI) (u : Nat) : jMI := jSf (jSf I 111 (noteA (I 111) (I 106) u)) 105 (jU (I 105) 16 ((noteB u : Nat) + 1))
set_option maxHeartbeats 2000000 in
theorem c_note (X : jX) (I : jMI) (u : Nat) (hu : I 105 16 = u) (hu8 : u ≤ 8) : C_X12_note X [jR 105] I (fun I' => I' = mNote I u) := by
  refine CG.of (by decide) [some (jR 105), none] rfl (Nat.le_of_ble_eq_true rfl) ?_
  have k49 : ∀ (B : jMI) (v : Nat) (a0 : Nat → Int) (q : jMI → Prop), B 105 16 = v → v ≤ 7 → (∀ a : Nat → Int, (∀ j, a j = if 5 * v ≤ j ∧ j < 5 * v + 5 then B 106 (j - 5 * v) else a0 j) → q (jSf (jSf B 111 a) 105 (jU (B 105) 16 ((v : Int) + 1)))) → ∀ (k : Nat) (a : Nat → Int), k ≤ 5 → (∀ j, a j = if 5 * v ≤ j ∧ j < 5 * v + k then B 106 (j - 5 * v) else a0 j) → S_X12_note X 49 [some (jR 105), some (jI k)] [] (jSf B 111 a) q := by
    intro B v a0 q hv hv7 hq
    refine mu2 (fun k _ => 5 - k) _ (fun k a ih hk ha => ?_)
    refine j_iload_n (pc := 49) dX12_note_49 rfl ?_
    refine j_iconst (pc := 50) dX12_note_50 ?_
    refine j_icmp_ge (pc := 51) 79 dX12_note_51 (by decide) (by omega) (by omega) (fun h_51 => ?_) (fun h_51 => ?_)
    · refine j_aload_n (pc := 79) dX12_note_79 rfl ?_
      refine j_dupR (pc := 80) dX12_note_80 ?_
      refine j_getI_c (pc := 81) f_X12_81 dX12_note_81 rfl rfl (by decide) (by decide) ?_
      refine j_iconst (pc := 84) dX12_note_84 ?_
      rw [hv]
      refine j_iadd (pc := 85) dX12_note_85 ?_
      refine j_putI_b (pc := 86) f_X12_81 dX12_note_86 rfl rfl rfl (by decide) ?_
      rw [jSf_n (by decide)]
      refine j_retv dX12_note_89 (?_) rfl
      obtain rfl : k = 5 := by omega
      exact hq a ha
    · refine j_aload_n (pc := 54) dX12_note_54 rfl ?_
      refine j_getR (pc := 55) f_X12_29 dX12_note_55 rfl rfl (by decide) rfl ?_
      refine j_iconst (pc := 58) dX12_note_58 ?_
      refine j_aload_n (pc := 59) dX12_note_59 rfl ?_
      refine j_getI_c (pc := 60) f_X12_81 dX12_note_60 rfl rfl (by decide) (by decide) ?_
      rw [hv]
      refine j_imul (pc := 63) dX12_note_63 ?_
      refine j_iload_n (pc := 64) dX12_note_64 rfl ?_
      refine j_iadd (pc := 65) dX12_note_65 ?_
      refine j_aload_n (pc := 66) dX12_note_66 rfl ?_
      refine j_getR (pc := 67) f_X12_7 dX12_note_67 rfl rfl (by decide) rfl ?_
      refine j_iload_n (pc := 70) dX12_note_70 rfl ?_
      refine j_iald_c (pc := 71) (k) dX12_note_71 rfl (by decide) (by decide) (by omega) (by omega) (by decide) ?_
      refine j_iast_a (pc := 72) (5 * v + k) dX12_note_72 rfl (by decide) (by decide) (by omega) (by omega) ?_
      refine j_iinc1 (pc := 73) dX12_note_73 (by decide) rfl ?_
      refine j_goto (pc := 76) 49 dX12_note_76 (by decide) ?_
      refine ih (k + 1) _ (by omega) (by omega) (fun j => ?_)
      by_cases hj : j = 5 * v + k
      · subst hj
        rw [jU_s, if_pos (by omega), show 5 * v + k - 5 * v = k by omega]
      · rw [jU_n hj, ha j]
        repeat' split
        all_goals first | rfl | omega
  have k11 : u = 8 → ∀ (k : Nat) (a : Nat → Int), k ≤ 35 → (∀ j, a j = if j < k then I 111 (j + 5) else I 111 j) → S_X12_note X 11 [some (jR 105), some (jI k)] [] (jSf I 111 a) (fun I' => I' = mNote I u) := by
    intro hu1
    subst hu1
    refine mu2 (fun k _ => 35 - k) _ (fun k a ih hk ha => ?_)
    refine j_iload_n (pc := 11) dX12_note_11 rfl ?_
    refine j_bipush (pc := 12) dX12_note_12 (by decide) ?_
    refine j_icmp_ge (pc := 14) 37 dX12_note_14 (by decide) (by omega) (by omega) (fun h_14 => ?_) (fun h_14 => ?_)
    · refine j_aload_n (pc := 37) dX12_note_37 rfl ?_
      refine j_dupR (pc := 38) dX12_note_38 ?_
      refine j_getI_c (pc := 39) f_X12_81 dX12_note_39 rfl rfl (by decide) (by decide) ?_
      rw [hu]
      refine j_iconst (pc := 42) dX12_note_42 ?_
      refine j_isub (pc := 43) dX12_note_43 ?_
      refine j_putI_b (pc := 44) f_X12_81 dX12_note_44 rfl rfl rfl (by decide) ?_
      rw [jSf_n (by decide), jSf_c (by decide)]
      refine j_iconst (pc := 47) dX12_note_47 ?_
      refine j_istore_n1 (pc := 48) dX12_note_48 (by decide) rfl ?_
      refine k49 _ 7 a _ ?_ (by omega) (fun a2 ha2 => ?_) 0 a (by omega) (fun j => by rw [if_neg (by omega)])
      · rw [jSf_s, jU_s]; rfl
      · obtain rfl : k = 35 := by omega
        unfold mNote noteA noteB
        rw [jSf_3 (by decide), jSf_s, jU_u]
        congr 2
        funext j
        rw [ha2 j, ha j, jSf_n (by decide)]
        repeat' split
        all_goals first | rfl | omega
    · refine j_aload_n (pc := 17) dX12_note_17 rfl ?_
      refine j_getR (pc := 18) f_X12_29 dX12_note_18 rfl rfl (by decide) rfl ?_
      refine j_iload_n (pc := 21) dX12_note_21 rfl ?_
      refine j_aload_n (pc := 22) dX12_note_22 rfl ?_
      refine j_getR (pc := 23) f_X12_29 dX12_note_23 rfl rfl (by decide) rfl ?_
      refine j_iload_n (pc := 26) dX12_note_26 rfl ?_
      refine j_iconst (pc := 27) dX12_note_27 ?_
      refine j_iadd (pc := 28) dX12_note_28 ?_
      refine j_iald_a (pc := 29) (k + 5) dX12_note_29 rfl (by decide) (by decide) (by omega) (by omega) ?_
      refine j_iast_a (pc := 30) (k) dX12_note_30 rfl (by decide) (by decide) (by omega) (by omega) ?_
      refine j_iinc1 (pc := 31) dX12_note_31 (by decide) rfl ?_
      refine j_goto (pc := 34) 11 dX12_note_34 (by decide) ?_
      refine ih (k + 1) _ (by omega) (by omega) (fun j => ?_)
      by_cases hj : j = k
      · subst hj
        rw [jU_s, if_pos (by omega), ha, if_neg (by omega)]
      · rw [jU_n hj, ha j]
        repeat' split
        all_goals first | rfl | omega
  refine j_aload_n (pc := 0) dX12_note_0 rfl ?_
  refine j_getI (pc := 1) f_X12_81 dX12_note_1 rfl rfl (by decide) ?_
  rw [hu]
  refine j_bipush (pc := 4) dX12_note_4 (by decide) ?_
  refine j_icmp_ne (pc := 6) 47 dX12_note_6 (by decide) (by omega) (by omega) (fun h_6 => ?_) (fun h_6 => ?_)
  · refine j_iconst (pc := 47) dX12_note_47 ?_
    refine j_istore_n1 (pc := 48) dX12_note_48 (by decide) rfl ?_
    refine (fun hk => ?_) (k49 I u (I 111) (fun I' => I' = mNote I u) hu (by omega) (fun a ha => ?_) 0 (I 111) (by omega) (fun j => by rw [if_neg (by omega)]))
    · rw [jSf_i] at hk
      exact hk
    · unfold mNote noteA noteB
      congr 2
      funext j
      rw [ha j]
      repeat' split
      all_goals first | rfl | omega | (congr 1; omega)
  · refine j_iconst (pc := 9) dX12_note_9 ?_
    refine j_istore_n1 (pc := 10) dX12_note_10 (by decide) rfl ?_
    have hk := k11 (by omega) 0 (I 111) (by omega) (fun j => by rw [if_neg (by omega)])
    rw [jSf_i] at hk
    exact hk
theorem c_passes (X : jX) (I : jMI) (n : Int) (hn : 0 ≤ n ∧ n ≤ 59) (h0 : 0 ≤ I 106 0 ∧ I 106 0 ≤ 59) : C_X12_passes X [jR 105, jI n] I (fun I' => I' = jSf I 106 (jU (I 106) 0 (if I 106 0 + n > 59 then 59 else I 106 0 + n))) := by
  refine CG.of (by decide) [some (jR 105), some (jI n)] rfl (Nat.le_of_ble_eq_true rfl) ?_
  refine j_aload_n (pc := 0) dX12_passes_0 rfl ?_
  refine j_getR (pc := 1) f_X12_7 dX12_passes_1 rfl rfl (by decide) rfl ?_
  refine j_iconst (pc := 4) dX12_passes_4 ?_
  refine j_aload_n (pc := 5) dX12_passes_5 rfl ?_
  refine j_getR (pc := 6) f_X12_7 dX12_passes_6 rfl rfl (by decide) rfl ?_
  refine j_iconst (pc := 9) dX12_passes_9 ?_
  refine j_iald_b (pc := 10) (0) dX12_passes_10 rfl (by decide) (by decide) (by omega) (by omega) ?_
  refine j_iload_n (pc := 11) dX12_passes_11 rfl ?_
  refine j_iadd (pc := 12) dX12_passes_12 ?_
  refine j_bipush (pc := 13) dX12_passes_13 (by decide) ?_
  refine j_icmp_le (pc := 15) 23 dX12_passes_15 (by decide) (by omega) (by omega) (fun h_15 => ?_) (fun h_15 => ?_)
  · refine j_aload_n (pc := 23) dX12_passes_23 rfl ?_
    refine j_getR (pc := 24) f_X12_7 dX12_passes_24 rfl rfl (by decide) rfl ?_
    refine j_iconst (pc := 27) dX12_passes_27 ?_
    refine j_iald_b (pc := 28) (0) dX12_passes_28 rfl (by decide) (by decide) (by omega) (by omega) ?_
    refine j_iload_n (pc := 29) dX12_passes_29 rfl ?_
    refine j_iadd (pc := 30) dX12_passes_30 ?_
    refine j_iast_b (pc := 31) (0) dX12_passes_31 rfl (by decide) (by decide) (by omega) (by omega) ?_
    refine j_retv dX12_passes_32 (?_) rfl
    first | rw [if_pos (by omega)] | rw [if_neg (by omega)]
  · refine j_bipush (pc := 18) dX12_passes_18 (by decide) ?_
    refine j_goto (pc := 20) 31 dX12_passes_20 (by decide) ?_
    refine j_iast_b (pc := 31) (0) dX12_passes_31 rfl (by decide) (by decide) (by omega) (by omega) ?_
    refine j_retv dX12_passes_32 (?_) rfl
    first | rw [if_pos (by omega)] | rw [if_neg (by omega)]
