/-! ===== the class: weights, fractions ===== -/
theorem euc {a b : Nat} (hb : 0 < b) (hab : b ≤ a) : 2 * (b * (a % b)) ≤ a * b := by
  have h1 : a % b < b := Nat.mod_lt a hb
  have h2 : a % b ≤ a - b := by rw [Nat.mod_eq_sub_mod hab]; exact Nat.mod_le _ _
  have h3 : 2 * (a % b) ≤ a := by omega
  calc 2 * (b * (a % b)) = b * (2 * (a % b)) := by rw [Nat.mul_left_comm]
    _ ≤ b * a := Nat.mul_le_mul_left b h3
    _ = a * b := Nat.mul_comm b a
theorem euc2 {a b k : Nat} (hk : k ≤ 60) (h : a * b * 2 ^ k ≤ 2 ^ 48) (hb : 0 < b) (hab : b ≤ a) : (k ≤ 48) ∧ b * (a % b) * 2 ^ (k + 1) ≤ 2 ^ 48 := by
  refine ⟨?_, ?_⟩
  · refine Nat.le_of_not_lt (fun hlt => ?_)
    have h1 : 1 ≤ a * b := Nat.mul_pos (by omega) hb
    have h2 : 2 ^ 49 ≤ 2 ^ k := Nat.pow_le_pow_right (by omega) (by omega)
    have h3 : 1 * 2 ^ k ≤ a * b * 2 ^ k := Nat.mul_le_mul_right _ h1
    have : (2 : Nat) ^ 49 = 562949953421312 := by decide
    have : (2 : Nat) ^ 48 = 281474976710656 := by decide
    omega
  · rw [Nat.pow_succ, ← Nat.mul_assoc, Nat.mul_right_comm]
    refine Nat.le_trans (Nat.mul_le_mul_right _ ?_) h
    rw [Nat.mul_comm]
    exact euc hb hab
set_option maxHeartbeats 1000000 in
theorem c_gcd (X : jX) (I : jMI) (u d : Nat) (hu : u ≤ 10000000) (hd : 0 < d) (hd2 : d ≤ 10000000) (hud : u ≤ d) : C_X11_commonDivisor X [jL u, jL d] I (fun r I' => r = (Nat.gcd u d : Nat) ∧ I' = I) := by
  refine CG.of (by decide) [some (jL u), none, some (jL d), none, none, none, none, none, none, none, none] rfl (Nat.le_of_ble_eq_true rfl) ?_
  have key : ∀ (k a b : Nat), k ≤ 49 → b ≤ a → a ≤ 10000000 → a * b * 2 ^ k ≤ 2 ^ 48 → Nat.gcd a b = Nat.gcd u d → ∀ x9 x10, S_X11_commonDivisor X 9 [some (jL u), none, some (jL d), none, some (jL a), none, some (jL b), none, some (jI ((k : Int) + 1)), x9, x10] [] I (fun r I' => r = (Nat.gcd u d : Nat) ∧ I' = I) := by
    refine mu1 (fun k => 60 - k) _ (fun k ih a b hk hab ha hm hg x9 x10 => ?_)
    have hj := jcmp_0 (a := (b : Int)) (by omega)
    refine j_iload (pc := 9) dX11_commonDivisor_9 rfl ?_
    refine j_bipush (pc := 11) dX11_commonDivisor_11 (by decide) ?_
    refine j_icmp_ge (pc := 13) 44 dX11_commonDivisor_13 (by decide) (by omega) (by omega) (fun h_13 => ?_) (fun h_13 => ?_)
    · refine j_lload (pc := 44) dX11_commonDivisor_44 rfl ?_
      refine j_retl dX11_commonDivisor_46 (?_) rfl
      refine ⟨?_, rfl⟩
      have hb0 : b = 0 := by
        first
          | (exfalso; omega)
          | (split at h_20 <;> omega)
      rw [hb0, Nat.gcd_zero_right] at hg
      rw [hg]
    · refine j_lload (pc := 16) dX11_commonDivisor_16 rfl ?_
      refine j_lconst0 (pc := 18) dX11_commonDivisor_18 ?_
      refine j_lcmp (pc := 19) dX11_commonDivisor_19 ?_
      rw [hj]
      refine j_if_eq (pc := 20) 44 dX11_commonDivisor_20 (by decide) (by omega) (fun h_20 => ?_) (fun h_20 => ?_)
      · refine j_lload (pc := 44) dX11_commonDivisor_44 rfl ?_
        refine j_retl dX11_commonDivisor_46 (?_) rfl
        refine ⟨?_, rfl⟩
        have hb0 : b = 0 := by
          first
            | (exfalso; omega)
            | (split at h_20 <;> omega)
        rw [hb0, Nat.gcd_zero_right] at hg
        rw [hg]
      · have hb0 : 0 < b := by split at h_20 <;> omega
        obtain ⟨e1, e2⟩ := euc2 (by omega) hm hb0 hab
        have hmod := Nat.mod_lt a hb0
        refine j_lload (pc := 23) dX11_commonDivisor_23 rfl ?_
        refine j_lload (pc := 25) dX11_commonDivisor_25 rfl ?_
        refine j_lrem (pc := 27) dX11_commonDivisor_27 (by omega) (by omega) ?_
        rw [show ((a : Int) % (b : Int)) = ((a % b : Nat) : Int) from (Int.natCast_emod a b).symm]
        refine j_lstore9 (pc := 28) dX11_commonDivisor_28 (by decide) rfl ?_
        refine j_lload (pc := 30) dX11_commonDivisor_30 rfl ?_
        refine j_lstore4 (pc := 32) dX11_commonDivisor_32 (by decide) rfl ?_
        refine j_lload (pc := 34) dX11_commonDivisor_34 rfl ?_
        refine j_lstore6 (pc := 36) dX11_commonDivisor_36 (by decide) rfl ?_
        refine j_iinc8 (pc := 38) dX11_commonDivisor_38 (by decide) rfl ?_
        refine j_goto (pc := 41) 9 dX11_commonDivisor_41 (by decide) ?_
        have e9 : ((k : Int) + 1 + 1) = ((k + 1 : Nat) : Int) + 1 := by omega
        rw [e9]
        exact ih (k + 1) (by omega) b (a % b) (by omega) (by omega) (by omega) e2 (by rw [← hg, Nat.gcd_comm b, ← Nat.gcd_rec, Nat.gcd_comm]) _ _
  have k9 : S_X11_commonDivisor X 9 [some (jL u), none, some (jL d), none, some (jL u), none, some (jL d), none, some (jI 0), none, none] [] I (fun r I' => r = (Nat.gcd u d : Nat) ∧ I' = I) := by
    have hj := jcmp_0 (a := (d : Int)) (by omega)
    have hmod := Nat.mod_lt u hd
    refine j_iload (pc := 9) dX11_commonDivisor_9 rfl ?_
    refine j_bipush (pc := 11) dX11_commonDivisor_11 (by decide) ?_
    refine j_icmp_ge (pc := 13) 44 dX11_commonDivisor_13 (by decide) (by omega) (by omega) (fun h_13 => ?_) (fun h_13 => ?_)
    · first
        | (exfalso; omega)
        | (exfalso; split at h_20 <;> omega)
    · refine j_lload (pc := 16) dX11_commonDivisor_16 rfl ?_
      refine j_lconst0 (pc := 18) dX11_commonDivisor_18 ?_
      refine j_lcmp (pc := 19) dX11_commonDivisor_19 ?_
      rw [hj]
      refine j_if_eq (pc := 20) 44 dX11_commonDivisor_20 (by decide) (by omega) (fun h_20 => ?_) (fun h_20 => ?_)
      · first
          | (exfalso; omega)
          | (exfalso; split at h_20 <;> omega)
      · refine j_lload (pc := 23) dX11_commonDivisor_23 rfl ?_
        refine j_lload (pc := 25) dX11_commonDivisor_25 rfl ?_
        refine j_lrem (pc := 27) dX11_commonDivisor_27 (by omega) (by omega) ?_
        rw [show ((u : Int) % (d : Int)) = ((u % d : Nat) : Int) from (Int.natCast_emod u d).symm]
        refine j_lstore9 (pc := 28) dX11_commonDivisor_28 (by decide) rfl ?_
        refine j_lload (pc := 30) dX11_commonDivisor_30 rfl ?_
        refine j_lstore4 (pc := 32) dX11_commonDivisor_32 (by decide) rfl ?_
        refine j_lload (pc := 34) dX11_commonDivisor_34 rfl ?_
        refine j_lstore6 (pc := 36) dX11_commonDivisor_36 (by decide) rfl ?_
        refine j_iinc8 (pc := 38) dX11_commonDivisor_38 (by decide) rfl ?_
        refine j_goto (pc := 41) 9 dX11_commonDivisor_41 (by decide) ?_
        refine key 0 d (u % d) (by omega) (by omega) hd2 ?_ (by rw [Nat.gcd_comm d, ← Nat.gcd_rec, Nat.gcd_comm]) _ _
        rw [Nat.pow_zero, Nat.mul_one]
        exact Nat.le_trans (Nat.mul_le_mul hd2 (show u % d ≤ 10000000 by omega)) (by decide)
  refine j_lload_n (pc := 0) dX11_commonDivisor_0 rfl ?_
  refine j_lstore4 (pc := 1) dX11_commonDivisor_1 (by decide) rfl ?_
  refine j_lload_n (pc := 3) dX11_commonDivisor_3 rfl ?_
  refine j_lstore6 (pc := 4) dX11_commonDivisor_4 (by decide) rfl ?_
  refine j_iconst (pc := 6) dX11_commonDivisor_6 ?_
  refine j_istore8 (pc := 7) dX11_commonDivisor_7 (by decide) rfl ?_
  exact k9
def cFr (I : jMI) (u d : Nat) : jMI := jSf I 0 (jU (jU (I 0) 8 ((u / Nat.gcd u d : Nat) : Int)) 9 ((d / Nat.gcd u d : Nat) : Int))
set_option maxHeartbeats 1000000 in
theorem c_keep (X : jX) (I : jMI) (u d : Nat) (hu : u ≤ 10000000) (hd : 0 < d) (hd2 : d ≤ 10000000) (hud : u ≤ d) : C_X11_keepFraction X [jR 0, jL u, jL d] I (fun I' => I' = cFr I u d) := by
  refine CG.of (by decide) [some (jR 0), some (jL u), none, some (jL d), none, none, none] rfl (Nat.le_of_ble_eq_true rfl) ?_
  have hg1 : 0 < Nat.gcd u d := Nat.gcd_pos_of_pos_right u hd
  have hg2 : Nat.gcd u d ≤ d := Nat.gcd_le_right u hd
  refine j_lload_n (pc := 0) dX11_keepFraction_0 rfl ?_
  refine j_lload_n (pc := 1) dX11_keepFraction_1 rfl ?_
  refine j_goL (pc := 2) (j_runS k_X11_290 m_X11_commonDivisor (c_gcd X I u d hu hd hd2 hud) dX11_keepFraction_2 (by decide) rfl rfl (Nat.le_of_ble_eq_true rfl)) (fun r1 I1 h1 => ?_)
  obtain ⟨rfl, rfl⟩ := h1
  have hj := jcmp_0 (a := ((Nat.gcd u d : Nat) : Int)) (by omega)
  refine j_lstore5 (pc := 5) dX11_keepFraction_5 (by decide) rfl ?_
  refine j_lload (pc := 7) dX11_keepFraction_7 rfl ?_
  refine j_lconst0 (pc := 9) dX11_keepFraction_9 ?_
  refine j_lcmp (pc := 10) dX11_keepFraction_10 ?_
  rw [hj]
  refine j_if_le (pc := 11) 30 dX11_keepFraction_11 (by decide) (by repeat' split <;> omega) (fun h_11 => ?_) (fun h_11 => ?_)
  · refine j_retv dX11_keepFraction_30 (?_) rfl
    first
      | rfl
      | (exfalso; repeat' split at h_11
         all_goals omega)
  · refine j_aload_n (pc := 14) dX11_keepFraction_14 rfl ?_
    refine j_lload_n (pc := 15) dX11_keepFraction_15 rfl ?_
    refine j_lload (pc := 16) dX11_keepFraction_16 rfl ?_
    refine j_ldiv (pc := 18) dX11_keepFraction_18 (by omega) (by omega) ?_
    rw [show ((u : Int) / ((Nat.gcd u d : Nat) : Int)) = ((u / Nat.gcd u d : Nat) : Int) from (Int.natCast_ediv u _).symm]
    refine j_putL_b (pc := 19) f_X11_56 dX11_keepFraction_19 rfl rfl rfl (by decide) ?_
    refine j_aload_n (pc := 22) dX11_keepFraction_22 rfl ?_
    refine j_lload_n (pc := 23) dX11_keepFraction_23 rfl ?_
    refine j_lload (pc := 24) dX11_keepFraction_24 rfl ?_
    refine j_ldiv (pc := 26) dX11_keepFraction_26 (by omega) (by omega) ?_
    rw [show ((d : Int) / ((Nat.gcd u d : Nat) : Int)) = ((d / Nat.gcd u d : Nat) : Int) from (Int.natCast_ediv d _).symm]
    refine j_putL_a (pc := 27) f_X11_60 dX11_keepFraction_27 rfl rfl rfl (by decide) ?_
    refine j_retv dX11_keepFraction_30 (?_) rfl
    first
      | rfl
      | (exfalso; repeat' split at h_11
         all_goals omega)
set_option maxHeartbeats 1000000 in
theorem c_weigh (X : jX) (I : jMI) (sure c M : Nat) (hM : I 2 9 = (M : Nat)) (hM5 : M ≤ 5) (hs : sure < 32) (hc : c ≤ 10) : C_X11_weighClocks X [jR 0, jI sure, jI c] I (fun I' => (∀ up, up ≤ 5 → I' 104 up = (ch c sure M up : Nat)) ∧ ∀ z, z ≠ 104 → I' z = I z) := by
  refine CG.of (by decide) [some (jR 0), some (jI sure), some (jI c), none, none] rfl (Nat.le_of_ble_eq_true rfl) ?_
  have hp5 := pop5_le sure
  have key2 : ∀ (j : Nat) (g : Nat → Int), j ≤ M → (∀ up, up ≤ 5 → g up = (ch c sure j up : Nat)) → ∀ x4, S_X11_weighClocks X 34 [some (jR 0), some (jI sure), some (jI c), some (jI j), x4] [] (jSf I 104 g) (fun I' => (∀ up, up ≤ 5 → I' 104 up = (ch c sure M up : Nat)) ∧ ∀ z, z ≠ 104 → I' z = I z) := by
    refine mu2 (fun j _ => 5 - j) _ (fun j g ih hj hg x4 => ?_)
    have e1 : ∀ up, sure.testBit j = true → ch c sure (j + 1) up = ch c sure j up := fun up h => by
      show (if sure.testBit j then ch c sure j up else _) = _
      rw [if_pos h]
    have e2 : sure.testBit j = false → ch c sure (j + 1) 0 = ch c sure j 0 * (10 - c) := fun h => by
      show (if sure.testBit j then ch c sure j 0 else _) = _
      rw [if_neg (by rw [h]; simp)]
    have e3 : ∀ v, sure.testBit j = false → ch c sure (j + 1) (v + 1) = ch c sure j (v + 1) * (10 - c) + ch c sure j v * c := fun v h => by
      show (if sure.testBit j then ch c sure j (v + 1) else _) = _
      rw [if_neg (by rw [h]; simp)]
    have key3 : j < M → sure.testBit j = false → ∀ (up : Nat) (g : Nat → Int), up ≤ 5 → (∀ v, v ≤ up → g v = (ch c sure j v : Nat)) → (∀ v, up < v → v ≤ 5 → g v = (ch c sure (j + 1) v : Nat)) → S_X11_weighClocks X 59 [some (jR 0), some (jI sure), some (jI c), some (jI j), some (jI up)] [] (jSf I 104 g) (fun I' => (∀ up, up ≤ 5 → I' 104 up = (ch c sure M up : Nat)) ∧ ∀ z, z ≠ 104 → I' z = I z) := by
      intro hjM hbit
      refine mu2 (fun up _ => up) _ (fun up g ih3 hup h1 h2 => ?_)
      refine j_iload (pc := 59) dX11_weighClocks_59 rfl ?_
      refine j_if_le (pc := 61) 103 dX11_weighClocks_61 (by decide) (by omega) (fun h_61 => ?_) (fun h_61 => ?_)
      · refine j_aload_n (pc := 103) dX11_weighClocks_103 rfl ?_
        refine j_getR (pc := 104) f_X11_52 dX11_weighClocks_104 rfl rfl (by decide) rfl ?_
        refine j_iconst (pc := 107) dX11_weighClocks_107 ?_
        refine j_dup2 (pc := 108) dX11_weighClocks_108 ?_
        refine j_lald_a (pc := 109) (0) dX11_weighClocks_109 rfl (by decide) (by decide) (by omega) (by omega) ?_
        refine j_bipush (pc := 110) dX11_weighClocks_110 (by decide) ?_
        refine j_iload_n (pc := 112) dX11_weighClocks_112 rfl ?_
        refine j_isub (pc := 113) dX11_weighClocks_113 ?_
        refine j_i2l (pc := 114) dX11_weighClocks_114 (by omega) ?_
        refine j_lmul (pc := 115) dX11_weighClocks_115 ?_
        refine j_last_a (pc := 116) (0) dX11_weighClocks_116 rfl (by decide) (by decide) (by omega) (by omega) ?_
        rw [h1 0 (by omega)]
        refine j_iinc3 (pc := 117) dX11_weighClocks_117 (by decide) rfl ?_
        refine j_goto (pc := 120) 34 dX11_weighClocks_120 (by decide) ?_
        refine ih (j + 1) _ (by omega) (by omega) (fun z hz => ?_) _
        by_cases hz0 : z = 0
        · subst hz0
          rw [jU_s, e2 hbit]
          push_cast
          rw [Int.ofNat_sub hc]
          rfl
        · rw [jU_n hz0]; exact h2 z (by omega) hz
      · refine j_aload_n (pc := 64) dX11_weighClocks_64 rfl ?_
        refine j_getR (pc := 65) f_X11_52 dX11_weighClocks_65 rfl rfl (by decide) rfl ?_
        refine j_iload (pc := 68) dX11_weighClocks_68 rfl ?_
        refine j_aload_n (pc := 70) dX11_weighClocks_70 rfl ?_
        refine j_getR (pc := 71) f_X11_52 dX11_weighClocks_71 rfl rfl (by decide) rfl ?_
        refine j_iload (pc := 74) dX11_weighClocks_74 rfl ?_
        refine j_lald_a (pc := 76) (up) dX11_weighClocks_76 rfl (by decide) (by decide) (by omega) (by omega) ?_
        refine j_bipush (pc := 77) dX11_weighClocks_77 (by decide) ?_
        refine j_iload_n (pc := 79) dX11_weighClocks_79 rfl ?_
        refine j_isub (pc := 80) dX11_weighClocks_80 ?_
        refine j_i2l (pc := 81) dX11_weighClocks_81 (by omega) ?_
        refine j_lmul (pc := 82) dX11_weighClocks_82 ?_
        refine j_aload_n (pc := 83) dX11_weighClocks_83 rfl ?_
        refine j_getR (pc := 84) f_X11_52 dX11_weighClocks_84 rfl rfl (by decide) rfl ?_
        refine j_iload (pc := 87) dX11_weighClocks_87 rfl ?_
        refine j_iconst (pc := 89) dX11_weighClocks_89 ?_
        refine j_isub (pc := 90) dX11_weighClocks_90 ?_
        refine j_lald_a (pc := 91) (up - 1) dX11_weighClocks_91 rfl (by decide) (by decide) (by omega) (by omega) ?_
        refine j_iload_n (pc := 92) dX11_weighClocks_92 rfl ?_
        refine j_i2l (pc := 93) dX11_weighClocks_93 (by omega) ?_
        refine j_lmul (pc := 94) dX11_weighClocks_94 ?_
        refine j_ladd (pc := 95) dX11_weighClocks_95 ?_
        refine j_last_a (pc := 96) (up) dX11_weighClocks_96 rfl (by decide) (by decide) (by omega) (by omega) ?_
        obtain ⟨v, rfl⟩ : ∃ v, up = v + 1 := ⟨up - 1, by omega⟩
        rw [h1 (v + 1) (Nat.le_refl _), h1 (v + 1 - 1) (by omega)]
        refine j_iinc4 (pc := 97) dX11_weighClocks_97 (by decide) rfl ?_
        refine j_goto (pc := 100) 59 dX11_weighClocks_100 (by decide) ?_
        have e9 : ((v + 1 : Nat) : Int) + -1 = ((v : Nat) : Int) := by omega
        rw [e9]
        refine ih3 v _ (by omega) (by omega) (fun z hz => ?_) (fun z hz1 hz2 => ?_)
        · rw [jU_n (by omega)]; exact h1 z (by omega)
        · by_cases hzv : z = v + 1
          · subst hzv
            rw [jU_s, e3 v hbit, Nat.add_sub_cancel]
            push_cast
            rw [Int.ofNat_sub hc]
            rfl
          · rw [jU_n hzv]; exact h2 z (by omega) hz2
    refine j_iload_n (pc := 34) dX11_weighClocks_34 rfl ?_
    refine j_aload_n (pc := 35) dX11_weighClocks_35 rfl ?_
    refine j_getR (pc := 36) f_X11_10 dX11_weighClocks_36 rfl rfl (by decide) rfl ?_
    refine j_getR (pc := 39) f_X11_63 dX11_weighClocks_39 rfl rfl (by decide) rfl ?_
    refine j_getI_c (pc := 42) f_X11_66 dX11_weighClocks_42 rfl rfl (by decide) (by decide) ?_
    rw [hM]
    refine j_icmp_ge (pc := 45) 123 dX11_weighClocks_45 (by decide) (by omega) (by omega) (fun h_45 => ?_) (fun h_45 => ?_)
    · refine j_retv dX11_weighClocks_123 (?_) rfl
      obtain rfl : j = M := by omega
      exact ⟨fun up hup => by rw [jSf_s]; exact hg up hup, fun z hz => jSf_n hz⟩
    · refine j_iload_n (pc := 48) dX11_weighClocks_48 rfl ?_
      refine j_iload_n (pc := 49) dX11_weighClocks_49 rfl ?_
      refine j_goI (pc := 50) (j_runS k_X11_183 m_X11_bit (c_bit X (jSf I 104 g) sure j) dX11_weighClocks_50 (by decide) rfl rfl (Nat.le_of_ble_eq_true rfl)) (fun r1 I1 h1 => ?_)
      obtain ⟨rfl, rfl⟩ := h1
      rw [jbit (by omega) (by omega)]
      refine j_if_ne (pc := 53) 117 dX11_weighClocks_53 (by decide) (by split <;> omega) (fun h_53 => ?_) (fun h_53 => ?_)
      · refine j_iinc3 (pc := 117) dX11_weighClocks_117 (by decide) rfl ?_
        refine j_goto (pc := 120) 34 dX11_weighClocks_120 (by decide) ?_
        have hbit : sure.testBit j = true := by
          cases q : sure.testBit j with
          | true => rfl
          | false => rw [q] at h_53; simp at h_53
        exact ih (j + 1) g (by omega) (by omega) (fun z hz => by rw [e1 z hbit]; exact hg z hz) _
      · refine j_iconst (pc := 56) dX11_weighClocks_56 ?_
        refine j_istore4 (pc := 57) dX11_weighClocks_57 (by decide) rfl ?_
        have hbit : sure.testBit j = false := by
          cases q : sure.testBit j with
          | false => rfl
          | true => rw [q] at h_53; simp at h_53
        exact key3 (by omega) hbit 5 g (by omega) (fun v hv => hg v hv) (fun v hv1 hv2 => by omega)
  have key1 : ∀ (k : Nat) (g : Nat → Int), k ≤ 6 → (∀ up, up < k → g up = (ch c sure 0 up : Nat)) → S_X11_weighClocks X 2 [some (jR 0), some (jI sure), some (jI c), some (jI k), none] [] (jSf I 104 g) (fun I' => (∀ up, up ≤ 5 → I' 104 up = (ch c sure M up : Nat)) ∧ ∀ z, z ≠ 104 → I' z = I z) := by
    refine mu2 (fun k _ => 7 - k) _ (fun k g ih hk hg => ?_)
    refine j_iload_n (pc := 2) dX11_weighClocks_2 rfl ?_
    refine j_iconst (pc := 3) dX11_weighClocks_3 ?_
    refine j_icmp_gt (pc := 4) 32 dX11_weighClocks_4 (by decide) (by omega) (by omega) (fun h_4 => ?_) (fun h_4 => ?_)
    · refine j_iconst (pc := 32) dX11_weighClocks_32 ?_
      refine j_istore_n3 (pc := 33) dX11_weighClocks_33 (by decide) rfl ?_
      exact key2 0 g (by omega) (fun up hup => hg up (by omega)) _
    · refine j_aload_n (pc := 7) dX11_weighClocks_7 rfl ?_
      refine j_getR (pc := 8) f_X11_52 dX11_weighClocks_8 rfl rfl (by decide) rfl ?_
      refine j_iload_n (pc := 11) dX11_weighClocks_11 rfl ?_
      refine j_iload_n (pc := 12) dX11_weighClocks_12 rfl ?_
      refine j_iload_n (pc := 13) dX11_weighClocks_13 rfl ?_
      refine j_goI (pc := 14) (j_runS k_X11_244 m_J6_bitCount_0f7a4 (c_bitCount X (jSf I 104 g) sure hs) dX11_weighClocks_14 (by decide) rfl rfl (Nat.le_of_ble_eq_true rfl)) (fun r1 I1 h1 => ?_)
      obtain ⟨rfl, rfl⟩ := h1
      refine j_icmp_ne (pc := 17) 24 dX11_weighClocks_17 (by decide) (by omega) (by omega) (fun h_17 => ?_) (fun h_17 => ?_)
      · refine j_lconst0 (pc := 24) dX11_weighClocks_24 ?_
        refine j_last_a (pc := 25) (k) dX11_weighClocks_25 rfl (by decide) (by decide) (by omega) (by omega) ?_
        refine j_iinc3 (pc := 26) dX11_weighClocks_26 (by decide) rfl ?_
        refine j_goto (pc := 29) 2 dX11_weighClocks_29 (by decide) ?_
        refine ih (k + 1) _ (by omega) (by omega) (fun z hz => ?_)
        by_cases hzk : z = k
        · subst hzk
          rw [jU_s]
          show _ = (((if z = pop5 sure then 1 else 0 : Nat)) : Int)
          first
            | (rw [if_pos (by omega)]; rfl)
            | (rw [if_neg (by omega)]; rfl)
        · rw [jU_n hzk]; exact hg z (by omega)
      · refine j_lconst1 (pc := 20) dX11_weighClocks_20 ?_
        refine j_goto (pc := 21) 25 dX11_weighClocks_21 (by decide) ?_
        refine j_last_a (pc := 25) (k) dX11_weighClocks_25 rfl (by decide) (by decide) (by omega) (by omega) ?_
        refine j_iinc3 (pc := 26) dX11_weighClocks_26 (by decide) rfl ?_
        refine j_goto (pc := 29) 2 dX11_weighClocks_29 (by decide) ?_
        refine ih (k + 1) _ (by omega) (by omega) (fun z hz => ?_)
        by_cases hzk : z = k
        · subst hzk
          rw [jU_s]
          show _ = (((if z = pop5 sure then 1 else 0 : Nat)) : Int)
          first
            | (rw [if_pos (by omega)]; rfl)
            | (rw [if_neg (by omega)]; rfl)
        · rw [jU_n hzk]; exact hg z (by omega)
  have k2 : S_X11_weighClocks X 2 [some (jR 0), some (jI sure), some (jI c), some (jI 0), none] [] I (fun I' => (∀ up, up ≤ 5 → I' 104 up = (ch c sure M up : Nat)) ∧ ∀ z, z ≠ 104 → I' z = I z) := by
    have := key1 0 (I 104) (by omega) (fun up h => by omega)
    rw [jSf_i] at this
    exact this
  refine j_iconst (pc := 0) dX11_weighClocks_0 ?_
  refine j_istore_n3 (pc := 1) dX11_weighClocks_1 (by decide) rfl ?_
  exact k2
