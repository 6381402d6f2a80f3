/-! ===== the class: how many rows ===== -/
noncomputable def bfF (f : Nat → Int) (m y : Nat) : Nat → Int := fun a => ind (ldP f m a y) * cm f m a
def bfI (f : Nat → Int) (m a b : Nat) (g : Nat → Int) : Prop := (∀ m' x, m' ≤ m → x < 8 → g (8 * m' + x) = cm f m' x) ∧ (m < 12 → ∀ y, y < 8 → g (8 * (m + 1) + y) = sumTo (if y < b then a + 1 else a) (bfF f m y)) ∧ (∀ m' x, m + 1 < m' → m' ≤ 12 → x < 8 → g (8 * m' + x) = 0)
theorem bfI_step {f : Nat → Int} {m a b : Nat} {g : Nat → Int} {v : Int} (h : bfI f m a b g) (hb : b < 8) (hv : v = g (8 * (m + 1) + b) + bfF f m b a) : bfI f m a (b + 1) (jU g (8 * (m + 1) + b) v) := by
  obtain ⟨h1, h2, h3⟩ := h
  refine ⟨fun m' x hm hx => ?_, fun h12 y hy => ?_, fun m' x hm hm2 hx => ?_⟩
  · rw [jU_n (by omega)]; exact h1 m' x hm hx
  · by_cases e : y = b
    · subst e
      rw [jU_s, if_pos (by omega), hv, h2 h12 y hy, if_neg (by omega)]
      rfl
    · rw [jU_n (by omega), h2 h12 y hy]
      by_cases hyb : y < b
      · rw [if_pos hyb, if_pos (by omega)]
      · rw [if_neg hyb, if_neg (by omega)]
  · rw [jU_n (by omega)]; exact h3 m' x hm hm2 hx
theorem bfI_same {f : Nat → Int} {m a b : Nat} {g : Nat → Int} (h : bfI f m a b g) (hb : b < 8) (hl : ¬ ldP f m a b) : bfI f m a (b + 1) g := by
  have := bfI_step (v := g (8 * (m + 1) + b)) h hb (by unfold bfF; rw [ind_f hl]; omega)
  rwa [show jU g (8 * (m + 1) + b) (g (8 * (m + 1) + b)) = g from by funext j; unfold jU; split <;> simp_all] at this
theorem bfI_next {f : Nat → Int} {m a : Nat} {g : Nat → Int} (h : bfI f m a 8 g) : bfI f m (a + 1) 0 g := by
  obtain ⟨h1, h2, h3⟩ := h
  refine ⟨h1, fun h12 y hy => ?_, h3⟩
  rw [h2 h12 y hy, if_pos hy, if_neg (by omega)]
theorem bfI_row {f : Nat → Int} {m : Nat} {g : Nat → Int} (h : bfI f m 8 0 g) (hm : m < 12) : bfI f (m + 1) 0 0 g := by
  obtain ⟨h1, h2, h3⟩ := h
  refine ⟨fun m' x hm' hx => ?_, fun h12 y hy => ?_, fun m' x hm' hm2 hx => h3 m' x (by omega) hm2 hx⟩
  · by_cases e : m' = m + 1
    · subst e
      rw [h2 hm x hx, if_neg (by omega)]
      rfl
    · exact h1 m' x (by omega) hx
  · rw [if_neg (by omega)]
    exact h3 (m + 2) y (by omega) (by omega) hy
theorem c_tBefore (X : jX) (I : jMI) (f : Nat → Int) (hL : ∀ m, m < 12 → ldB f m (I 101)) : C_X9_tallyBefore X [jR 100] I (fun I' => (∀ m x, m ≤ 12 → x < 8 → I' 102 (8 * m + x) = cm f m x) ∧ ∀ z, z ≠ 102 → I' z = I z) := by
  refine CG.of (by decide) [some (jR 100), none, none, none] rfl (Nat.le_of_ble_eq_true rfl) ?_
  have k33 : ∀ (m : Nat) (g : Nat → Int), m ≤ 12 → bfI f m 0 0 g → ∀ x2 x3, S_X9_tallyBefore X 33 [some (jR 100), some (jI m), x2, x3] [] (jSf I 102 g) (fun I' => (∀ m x, m ≤ 12 → x < 8 → I' 102 (8 * m + x) = cm f m x) ∧ ∀ z, z ≠ 102 → I' z = I z) := by
    refine mu2 (fun m _ => 12 - m) _ (fun m g ih hm hg x2 x3 => ?_)
    have k41 : m < 12 → ∀ (a : Nat) (g : Nat → Int), a ≤ 8 → bfI f m a 0 g → ∀ x3, S_X9_tallyBefore X 41 [some (jR 100), some (jI m), some (jI a), x3] [] (jSf I 102 g) (fun I' => (∀ m x, m ≤ 12 → x < 8 → I' 102 (8 * m + x) = cm f m x) ∧ ∀ z, z ≠ 102 → I' z = I z) := by
      intro hm12
      refine mu2 (fun a _ => 8 - a) _ (fun a g iha ha hg x3 => ?_)
      have k49 : a < 8 → ∀ (b : Nat) (g : Nat → Int), b ≤ 8 → bfI f m a b g → S_X9_tallyBefore X 49 [some (jR 100), some (jI m), some (jI a), some (jI b)] [] (jSf I 102 g) (fun I' => (∀ m x, m ≤ 12 → x < 8 → I' 102 (8 * m + x) = cm f m x) ∧ ∀ z, z ≠ 102 → I' z = I z) := by
        intro ha8
        obtain ⟨w, hw1, hw2, hw3⟩ := hL m hm12 a ha8
        refine mu2 (fun b _ => 8 - b) _ (fun b g ihb hb hg => ?_)
        refine j_iload_n (pc := 49) dX9_tallyBefore_49 rfl ?_
        refine j_bipush (pc := 50) dX9_tallyBefore_50 (by decide) ?_
        refine j_icmp_ge (pc := 52) 104 dX9_tallyBefore_52 (by decide) (by omega) (by omega) (fun h_52 => ?_) (fun h_52 => ?_)
        · refine j_iinc2 (pc := 104) dX9_tallyBefore_104 (by decide) rfl ?_
          refine j_goto (pc := 107) 41 dX9_tallyBefore_107 (by decide) ?_
          obtain rfl : b = 8 := by omega
          exact iha (a + 1) g (by omega) (by omega) (bfI_next hg) _
        · refine j_aload_n (pc := 55) dX9_tallyBefore_55 rfl ?_
          refine j_getR (pc := 56) f_X9_9 dX9_tallyBefore_56 rfl rfl (by decide) rfl ?_
          refine j_iload_n (pc := 59) dX9_tallyBefore_59 rfl ?_
          refine j_iload_n (pc := 60) dX9_tallyBefore_60 rfl ?_
          refine j_goI (pc := 61) (j_runSN k_X9_22 m_X11_pair (c_pair X (jSf I 102 g) m a) dX9_tallyBefore_61 (by decide) rfl rfl (Nat.le_of_ble_eq_true rfl)) (fun r1 I1 h1 => ?_)
          obtain ⟨rfl, rfl⟩ := h1
          refine j_iald_c (pc := 64) (8 * m + a) dX9_tallyBefore_64 rfl (by decide) (by decide) (by omega) (by omega) (by decide) ?_
          rw [hw1]
          refine j_iload_n (pc := 65) dX9_tallyBefore_65 rfl ?_
          refine j_goI (pc := 66) (j_runSN k_X9_54 m_X11_bit (c_bit X (jSf I 102 g) w b) dX9_tallyBefore_66 (by decide) rfl rfl (Nat.le_of_ble_eq_true rfl)) (fun r2 I2 h2 => ?_)
          obtain ⟨rfl, rfl⟩ := h2
          rw [jbit (by omega) (by omega)]
          refine j_iconst (pc := 69) dX9_tallyBefore_69 ?_
          refine j_icmp_ne (pc := 70) 98 dX9_tallyBefore_70 (by decide) (by split <;> omega) (by omega) (fun h_70 => ?_) (fun h_70 => ?_)
          · refine j_iinc3 (pc := 98) dX9_tallyBefore_98 (by decide) rfl ?_
            refine j_goto (pc := 101) 49 dX9_tallyBefore_101 (by decide) ?_
            first
              | (have hx : w.testBit b = true := by split at h_70 <;> first | assumption | omega
                 refine ihb (b + 1) _ (by omega) (by omega) (bfI_step hg (by omega) ?_)
                 unfold bfF
                 rw [ind_t ((hw3 b).mp hx).2, Int.one_mul, hg.1 m a (Nat.le_refl _) ha8])
              | (have hx : ¬ w.testBit b = true := by split at h_70 <;> first | assumption | omega
                 exact ihb (b + 1) g (by omega) (by omega) (bfI_same hg (by omega) (fun h => hx ((hw3 b).mpr ⟨by omega, h⟩))))
          · refine j_aload_n (pc := 73) dX9_tallyBefore_73 rfl ?_
            refine j_getR (pc := 74) f_X9_15 dX9_tallyBefore_74 rfl rfl (by decide) rfl ?_
            refine j_iload_n (pc := 77) dX9_tallyBefore_77 rfl ?_
            refine j_iconst (pc := 78) dX9_tallyBefore_78 ?_
            refine j_iadd (pc := 79) dX9_tallyBefore_79 ?_
            refine j_iload_n (pc := 80) dX9_tallyBefore_80 rfl ?_
            refine j_goI (pc := 81) (j_runSN k_X9_22 m_X11_pair (c_pair X (jSf I 102 g) ((m : Int) + 1) b) dX9_tallyBefore_81 (by decide) rfl rfl (Nat.le_of_ble_eq_true rfl)) (fun r3 I3 h3 => ?_)
            obtain ⟨rfl, rfl⟩ := h3
            refine j_dup2 (pc := 84) dX9_tallyBefore_84 ?_
            refine j_lald_a (pc := 85) (8 * (m + 1) + b) dX9_tallyBefore_85 rfl (by decide) (by decide) (by omega) (by omega) ?_
            refine j_aload_n (pc := 86) dX9_tallyBefore_86 rfl ?_
            refine j_getR (pc := 87) f_X9_15 dX9_tallyBefore_87 rfl rfl (by decide) rfl ?_
            refine j_iload_n (pc := 90) dX9_tallyBefore_90 rfl ?_
            refine j_iload_n (pc := 91) dX9_tallyBefore_91 rfl ?_
            refine j_goI (pc := 92) (j_runSN k_X9_22 m_X11_pair (c_pair X (jSf I 102 g) m a) dX9_tallyBefore_92 (by decide) rfl rfl (Nat.le_of_ble_eq_true rfl)) (fun r4 I4 h4 => ?_)
            obtain ⟨rfl, rfl⟩ := h4
            refine j_lald_a (pc := 95) (8 * m + a) dX9_tallyBefore_95 rfl (by decide) (by decide) (by omega) (by omega) ?_
            refine j_ladd (pc := 96) dX9_tallyBefore_96 ?_
            refine j_last_a (pc := 97) (8 * (m + 1) + b) dX9_tallyBefore_97 rfl (by decide) (by decide) (by omega) (by omega) ?_
            refine j_iinc3 (pc := 98) dX9_tallyBefore_98 (by decide) rfl ?_
            refine j_goto (pc := 101) 49 dX9_tallyBefore_101 (by decide) ?_
            first
              | (have hx : w.testBit b = true := by split at h_70 <;> first | assumption | omega
                 refine ihb (b + 1) _ (by omega) (by omega) (bfI_step hg (by omega) ?_)
                 unfold bfF
                 rw [ind_t ((hw3 b).mp hx).2, Int.one_mul, hg.1 m a (Nat.le_refl _) ha8])
              | (have hx : ¬ w.testBit b = true := by split at h_70 <;> first | assumption | omega
                 exact ihb (b + 1) g (by omega) (by omega) (bfI_same hg (by omega) (fun h => hx ((hw3 b).mpr ⟨by omega, h⟩))))
      refine j_iload_n (pc := 41) dX9_tallyBefore_41 rfl ?_
      refine j_bipush (pc := 42) dX9_tallyBefore_42 (by decide) ?_
      refine j_icmp_ge (pc := 44) 110 dX9_tallyBefore_44 (by decide) (by omega) (by omega) (fun h_44 => ?_) (fun h_44 => ?_)
      · refine j_iinc1 (pc := 110) dX9_tallyBefore_110 (by decide) rfl ?_
        refine j_goto (pc := 113) 33 dX9_tallyBefore_113 (by decide) ?_
        obtain rfl : a = 8 := by omega
        exact ih (m + 1) g (by omega) (by omega) (bfI_row hg hm12) _ _
      · refine j_iconst (pc := 47) dX9_tallyBefore_47 ?_
        refine j_istore_n3 (pc := 48) dX9_tallyBefore_48 (by decide) rfl ?_
        exact k49 (by omega) 0 g (by omega) hg
    refine j_iload_n (pc := 33) dX9_tallyBefore_33 rfl ?_
    refine j_bipush (pc := 34) dX9_tallyBefore_34 (by decide) ?_
    refine j_icmp_ge (pc := 36) 116 dX9_tallyBefore_36 (by decide) (by omega) (by omega) (fun h_36 => ?_) (fun h_36 => ?_)
    · refine j_retv dX9_tallyBefore_116 (?_) rfl
      obtain rfl : m = 12 := by omega
      rw [jSf_s]
      exact ⟨hg.1, fun z hz => jSf_n hz⟩
    · refine j_iconst (pc := 39) dX9_tallyBefore_39 ?_
      refine j_istore_n2 (pc := 40) dX9_tallyBefore_40 (by decide) rfl ?_
      exact k41 (by omega) 0 g (by omega) hg _
  have k2 : ∀ (i : Nat) (g : Nat → Int), i ≤ 104 → (∀ j, j < i → g j = 0) → S_X9_tallyBefore X 2 [some (jR 100), some (jI i), none, none] [] (jSf I 102 g) (fun I' => (∀ m x, m ≤ 12 → x < 8 → I' 102 (8 * m + x) = cm f m x) ∧ ∀ z, z ≠ 102 → I' z = I z) := by
    refine mu2 (fun i _ => 104 - i) _ (fun i g ih hi hg => ?_)
    refine j_iload_n (pc := 2) dX9_tallyBefore_2 rfl ?_
    refine j_aload_n (pc := 3) dX9_tallyBefore_3 rfl ?_
    refine j_getR (pc := 4) f_X9_15 dX9_tallyBefore_4 rfl rfl (by decide) rfl ?_
    refine j_alen (pc := 7) 1 dX9_tallyBefore_7 rfl rfl (by decide) ?_
    refine j_icmp_ge (pc := 8) 24 dX9_tallyBefore_8 (by decide) (by omega) (by omega) (fun h_8 => ?_) (fun h_8 => ?_)
    · refine j_aload_n (pc := 24) dX9_tallyBefore_24 rfl ?_
      refine j_getR (pc := 25) f_X9_15 dX9_tallyBefore_25 rfl rfl (by decide) rfl ?_
      refine j_iconst (pc := 28) dX9_tallyBefore_28 ?_
      refine j_lconst1 (pc := 29) dX9_tallyBefore_29 ?_
      refine j_last_a (pc := 30) (0) dX9_tallyBefore_30 rfl (by decide) (by decide) (by omega) (by omega) ?_
      refine j_iconst (pc := 31) dX9_tallyBefore_31 ?_
      refine j_istore_n1 (pc := 32) dX9_tallyBefore_32 (by decide) rfl ?_
      refine k33 0 _ (by omega) ⟨fun m' x hm hx => ?_, fun _ y hy => ?_, fun m' x hm hm2 hx => ?_⟩ _ _
      · obtain rfl : m' = 0 := by omega
        by_cases e : x = 0
        · subst e; rw [show 8 * 0 + 0 = 0 from rfl, jU_s]; rfl
        · rw [jU_n (by omega), hg _ (by omega)]
          show (0 : Int) = if x = 0 then 1 else 0
          rw [if_neg e]
      · rw [jU_n (by omega), hg _ (by omega), if_neg (by omega)]; rfl
      · rw [jU_n (by omega)]; exact hg _ (by omega)
    · refine j_aload_n (pc := 11) dX9_tallyBefore_11 rfl ?_
      refine j_getR (pc := 12) f_X9_15 dX9_tallyBefore_12 rfl rfl (by decide) rfl ?_
      refine j_iload_n (pc := 15) dX9_tallyBefore_15 rfl ?_
      refine j_lconst0 (pc := 16) dX9_tallyBefore_16 ?_
      refine j_last_a (pc := 17) (i) dX9_tallyBefore_17 rfl (by decide) (by decide) (by omega) (by omega) ?_
      refine j_iinc1 (pc := 18) dX9_tallyBefore_18 (by decide) rfl ?_
      refine j_goto (pc := 21) 2 dX9_tallyBefore_21 (by decide) ?_
      refine ih (i + 1) _ (by omega) (by omega) (fun j hj => ?_)
      by_cases e : j = i
      · subst e; rw [jU_s]
      · rw [jU_n e]; exact hg j (by omega)
  refine j_iconst (pc := 0) dX9_tallyBefore_0 ?_
  refine j_istore_n1 (pc := 1) dX9_tallyBefore_1 (by decide) rfl ?_
  have hy := k2 0 (I 102) (by omega) (fun j hj => by omega)
  rw [jSf_i] at hy
  exact hy
