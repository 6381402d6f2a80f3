/-! ===== the class: rows from behind, and what they tell ===== -/
noncomputable def bhF (f : Nat → Int) (m a : Nat) : Nat → Int := fun b => ind (ldP f m a b) * onF f (11 - m) b
theorem bhF_8 {f : Nat → Int} {m a : Nat} (hm : m < 12) : sumTo 8 (bhF f m a) = onF f (12 - m) a := by
  rw [show 12 - m = (11 - m) + 1 by omega]
  show _ = sumTo 8 (fun b => ind (ldP f ((11 - (11 - m) : Nat) : Int) a b) * onF f (11 - m) b)
  rw [show 11 - (11 - m) = m by omega]
  rfl
/-- m rows are still to come -/
def bhI (f : Nat → Int) (m a b : Nat) (g : Nat → Int) : Prop := (∀ m' x, m < m' → m' ≤ 12 → x < 8 → g (8 * m' + x) = onF f (12 - m') x) ∧ (∀ x, x < a → x < 8 → g (8 * m + x) = onF f (12 - m) x) ∧ (a < 8 → g (8 * m + a) = sumTo b (bhF f m a)) ∧ (∀ x, a < x → x < 8 → g (8 * m + x) = 0) ∧ (∀ m' x, m' < m → x < 8 → g (8 * m' + x) = 0)
theorem bhI_step {f : Nat → Int} {m a b : Nat} {g : Nat → Int} {v : Int} (h : bhI f m a b g) (ha : a < 8) (hv : v = g (8 * m + a) + bhF f m a b) : bhI f m a (b + 1) (jU g (8 * m + a) v) := by
  obtain ⟨h1, h2, h3, h4, h5⟩ := h
  refine ⟨fun m' x hm hm2 hx => ?_, fun x hx hx8 => ?_, fun _ => ?_, fun x hx hx8 => ?_, fun m' x hm hx => ?_⟩
  · rw [jU_n (by omega)]; exact h1 m' x hm hm2 hx
  · rw [jU_n (by omega)]; exact h2 x hx hx8
  · rw [jU_s, hv, h3 ha]; rfl
  · rw [jU_n (by omega)]; exact h4 x hx hx8
  · rw [jU_n (by omega)]; exact h5 m' x hm hx
theorem bhI_same {f : Nat → Int} {m a b : Nat} {g : Nat → Int} (h : bhI f m a b g) (ha : a < 8) (hl : ¬ ldP f m a b) : bhI f m a (b + 1) g := by
  have := bhI_step (v := g (8 * m + a)) h ha (by unfold bhF; rw [ind_f hl]; omega)
  rwa [show jU g (8 * m + a) (g (8 * m + a)) = g from by funext j; unfold jU; split <;> simp_all] at this
theorem bhI_next {f : Nat → Int} {m a : Nat} {g : Nat → Int} (h : bhI f m a 8 g) (hm : m < 12) (ha : a < 8) : bhI f m (a + 1) 0 g := by
  obtain ⟨h1, h2, h3, h4, h5⟩ := h
  refine ⟨h1, fun x hx hx8 => ?_, fun ha1 => ?_, fun x hx hx8 => h4 x (by omega) hx8, h5⟩
  · by_cases e : x = a
    · subst e; rw [h3 ha, bhF_8 hm]
    · exact h2 x (by omega) hx8
  · rw [h4 (a + 1) (by omega) ha1]; rfl
theorem bhI_row {f : Nat → Int} {m : Nat} {g : Nat → Int} (h : bhI f (m + 1) 8 0 g) (hm : m < 11) : bhI f m 0 0 g := by
  obtain ⟨h1, h2, h3, h4, h5⟩ := h
  refine ⟨fun m' x hm' hm2 hx => ?_, fun x hx => by omega, fun _ => ?_, fun x hx hx8 => h5 m x (by omega) hx8, fun m' x hm' hx => h5 m' x (by omega) hx⟩
  · by_cases e : m' = m + 1
    · subst e; exact h2 x hx hx
    · exact h1 m' x (by omega) hm2 hx
  · rw [h5 m 0 (by omega) (by omega)]; rfl
theorem c_tBehind (X : jX) (I : jMI) (f : Nat → Int) (hL : ∀ m, m < 12 → ldB f m (I 101)) : C_X9_tallyBehind X [jR 100] I (fun I' => (∀ m x, m ≤ 12 → x < 8 → I' 103 (8 * m + x) = onF f (12 - m) x) ∧ ∀ z, z ≠ 103 → I' z = I z) := by
  refine CG.of (by decide) [some (jR 100), none, none, none] rfl (Nat.le_of_ble_eq_true rfl) ?_
  have k37 : ∀ (m : Nat) (g : Nat → Int), m ≤ 12 → (1 ≤ m → bhI f (m - 1) 0 0 g) → (m = 0 → ∀ m x, m ≤ 12 → x < 8 → g (8 * m + x) = onF f (12 - m) x) → ∀ x2 x3, S_X9_tallyBehind X 37 [some (jR 100), some (jI ((m : Int) - 1)), x2, x3] [] (jSf I 103 g) (fun I' => (∀ m x, m ≤ 12 → x < 8 → I' 103 (8 * m + x) = onF f (12 - m) x) ∧ ∀ z, z ≠ 103 → I' z = I z) := by
    refine mu2 (fun m _ => m) _ (fun m g ih hm hg hg0 x2 x3 => ?_)
    have k43 : ∀ n, m = n + 1 → ∀ (a : Nat) (g : Nat → Int), a ≤ 8 → bhI f n a 0 g → ∀ x3, S_X9_tallyBehind X 43 [some (jR 100), some (jI n), some (jI a), x3] [] (jSf I 103 g) (fun I' => (∀ m x, m ≤ 12 → x < 8 → I' 103 (8 * m + x) = onF f (12 - m) x) ∧ ∀ z, z ≠ 103 → I' z = I z) := by
      intro n hn
      refine mu2 (fun a _ => 8 - a) _ (fun a g iha ha hg x3 => ?_)
      have k51 : a < 8 → ∀ (b : Nat) (g : Nat → Int), b ≤ 8 → bhI f n a b g → S_X9_tallyBehind X 51 [some (jR 100), some (jI n), some (jI a), some (jI b)] [] (jSf I 103 g) (fun I' => (∀ m x, m ≤ 12 → x < 8 → I' 103 (8 * m + x) = onF f (12 - m) x) ∧ ∀ z, z ≠ 103 → I' z = I z) := by
        intro ha8
        obtain ⟨w, hw1, hw2, hw3⟩ := hL n (by omega) a ha8
        refine mu2 (fun b _ => 8 - b) _ (fun b g ihb hb hg => ?_)
        refine j_iload_n (pc := 51) dX9_tallyBehind_51 rfl ?_
        refine j_bipush (pc := 52) dX9_tallyBehind_52 (by decide) ?_
        refine j_icmp_ge (pc := 54) 106 dX9_tallyBehind_54 (by decide) (by omega) (by omega) (fun h_54 => ?_) (fun h_54 => ?_)
        · refine j_iinc2 (pc := 106) dX9_tallyBehind_106 (by decide) rfl ?_
          refine j_goto (pc := 109) 43 dX9_tallyBehind_109 (by decide) ?_
          obtain rfl : b = 8 := by omega
          exact iha (a + 1) g (by omega) (by omega) (bhI_next hg (by omega) ha8) _
        · refine j_aload_n (pc := 57) dX9_tallyBehind_57 rfl ?_
          refine j_getR (pc := 58) f_X9_9 dX9_tallyBehind_58 rfl rfl (by decide) rfl ?_
          refine j_iload_n (pc := 61) dX9_tallyBehind_61 rfl ?_
          refine j_iload_n (pc := 62) dX9_tallyBehind_62 rfl ?_
          refine j_goI (pc := 63) (j_runSN k_X9_22 m_X11_pair (c_pair X (jSf I 103 g) n a) dX9_tallyBehind_63 (by decide) rfl rfl (Nat.le_of_ble_eq_true rfl)) (fun r1 I1 h1 => ?_)
          obtain ⟨rfl, rfl⟩ := h1
          refine j_iald_c (pc := 66) (8 * n + a) dX9_tallyBehind_66 rfl (by decide) (by decide) (by omega) (by omega) (by decide) ?_
          rw [hw1]
          refine j_iload_n (pc := 67) dX9_tallyBehind_67 rfl ?_
          refine j_goI (pc := 68) (j_runSN k_X9_54 m_X11_bit (c_bit X (jSf I 103 g) w b) dX9_tallyBehind_68 (by decide) rfl rfl (Nat.le_of_ble_eq_true rfl)) (fun r2 I2 h2 => ?_)
          obtain ⟨rfl, rfl⟩ := h2
          rw [jbit (by omega) (by omega)]
          refine j_iconst (pc := 71) dX9_tallyBehind_71 ?_
          refine j_icmp_ne (pc := 72) 100 dX9_tallyBehind_72 (by decide) (by split <;> omega) (by omega) (fun h_72 => ?_) (fun h_72 => ?_)
          · refine j_iinc3 (pc := 100) dX9_tallyBehind_100 (by decide) rfl ?_
            refine j_goto (pc := 103) 51 dX9_tallyBehind_103 (by decide) ?_
            first
              | (have hx : w.testBit b = true := by split at h_72 <;> first | assumption | omega
                 refine ihb (b + 1) _ (by omega) (by omega) (bhI_step hg ha8 ?_)
                 unfold bhF
                 rw [ind_t ((hw3 b).mp hx).2, Int.one_mul, hg.1 (n + 1) b (by omega) (by omega) (by omega), show 12 - (n + 1) = 11 - n by omega])
              | (have hx : ¬ w.testBit b = true := by split at h_72 <;> first | assumption | omega
                 exact ihb (b + 1) g (by omega) (by omega) (bhI_same hg ha8 (fun h => hx ((hw3 b).mpr ⟨by omega, h⟩))))
          · refine j_aload_n (pc := 75) dX9_tallyBehind_75 rfl ?_
            refine j_getR (pc := 76) f_X9_19 dX9_tallyBehind_76 rfl rfl (by decide) rfl ?_
            refine j_iload_n (pc := 79) dX9_tallyBehind_79 rfl ?_
            refine j_iload_n (pc := 80) dX9_tallyBehind_80 rfl ?_
            refine j_goI (pc := 81) (j_runSN k_X9_22 m_X11_pair (c_pair X (jSf I 103 g) n a) dX9_tallyBehind_81 (by decide) rfl rfl (Nat.le_of_ble_eq_true rfl)) (fun r3 I3 h3 => ?_)
            obtain ⟨rfl, rfl⟩ := h3
            refine j_dup2 (pc := 84) dX9_tallyBehind_84 ?_
            refine j_lald_a (pc := 85) (8 * n + a) dX9_tallyBehind_85 rfl (by decide) (by decide) (by omega) (by omega) ?_
            refine j_aload_n (pc := 86) dX9_tallyBehind_86 rfl ?_
            refine j_getR (pc := 87) f_X9_19 dX9_tallyBehind_87 rfl rfl (by decide) rfl ?_
            refine j_iload_n (pc := 90) dX9_tallyBehind_90 rfl ?_
            refine j_iconst (pc := 91) dX9_tallyBehind_91 ?_
            refine j_iadd (pc := 92) dX9_tallyBehind_92 ?_
            refine j_iload_n (pc := 93) dX9_tallyBehind_93 rfl ?_
            refine j_goI (pc := 94) (j_runSN k_X9_22 m_X11_pair (c_pair X (jSf I 103 g) ((n : Int) + 1) b) dX9_tallyBehind_94 (by decide) rfl rfl (Nat.le_of_ble_eq_true rfl)) (fun r4 I4 h4 => ?_)
            obtain ⟨rfl, rfl⟩ := h4
            refine j_lald_a (pc := 97) (8 * (n + 1) + b) dX9_tallyBehind_97 rfl (by decide) (by decide) (by omega) (by omega) ?_
            refine j_ladd (pc := 98) dX9_tallyBehind_98 ?_
            refine j_last_a (pc := 99) (8 * n + a) dX9_tallyBehind_99 rfl (by decide) (by decide) (by omega) (by omega) ?_
            refine j_iinc3 (pc := 100) dX9_tallyBehind_100 (by decide) rfl ?_
            refine j_goto (pc := 103) 51 dX9_tallyBehind_103 (by decide) ?_
            first
              | (have hx : w.testBit b = true := by split at h_72 <;> first | assumption | omega
                 refine ihb (b + 1) _ (by omega) (by omega) (bhI_step hg ha8 ?_)
                 unfold bhF
                 rw [ind_t ((hw3 b).mp hx).2, Int.one_mul, hg.1 (n + 1) b (by omega) (by omega) (by omega), show 12 - (n + 1) = 11 - n by omega])
              | (have hx : ¬ w.testBit b = true := by split at h_72 <;> first | assumption | omega
                 exact ihb (b + 1) g (by omega) (by omega) (bhI_same hg ha8 (fun h => hx ((hw3 b).mpr ⟨by omega, h⟩))))
      refine j_iload_n (pc := 43) dX9_tallyBehind_43 rfl ?_
      refine j_bipush (pc := 44) dX9_tallyBehind_44 (by decide) ?_
      refine j_icmp_ge (pc := 46) 112 dX9_tallyBehind_46 (by decide) (by omega) (by omega) (fun h_46 => ?_) (fun h_46 => ?_)
      · refine j_iinc1 (pc := 112) dX9_tallyBehind_112 (by decide) rfl ?_
        refine j_goto (pc := 115) 37 dX9_tallyBehind_115 (by decide) ?_
        obtain rfl : a = 8 := by omega
        rw [show ((n : Int) + -1) = (n : Int) - 1 by omega]
        refine ih n g (by omega) (by omega) (fun h1 => ?_) (fun h0 m' x hm' hx => ?_) _ _
        · obtain ⟨n', rfl⟩ : ∃ n', n = n' + 1 := ⟨n - 1, by omega⟩
          rw [Nat.add_sub_cancel]
          exact bhI_row hg (by omega)
        · subst h0
          by_cases e : m' = 0
          · subst e; exact hg.2.1 x hx hx
          · exact hg.1 m' x (by omega) hm' hx
      · refine j_iconst (pc := 49) dX9_tallyBehind_49 ?_
        refine j_istore_n3 (pc := 50) dX9_tallyBehind_50 (by decide) rfl ?_
        exact k51 (by omega) 0 g (by omega) hg
    refine j_iload_n (pc := 37) dX9_tallyBehind_37 rfl ?_
    refine j_if_lt (pc := 38) 118 dX9_tallyBehind_38 (by decide) (by omega) (fun h_38 => ?_) (fun h_38 => ?_)
    · refine j_retv dX9_tallyBehind_118 (?_) rfl
      rw [jSf_s]
      exact ⟨hg0 (by omega), fun z hz => jSf_n hz⟩
    · refine j_iconst (pc := 41) dX9_tallyBehind_41 ?_
      refine j_istore_n2 (pc := 42) dX9_tallyBehind_42 (by decide) rfl ?_
      obtain ⟨n, rfl⟩ : ∃ n, m = n + 1 := ⟨m - 1, by omega⟩
      rw [show ((n + 1 : Nat) : Int) - 1 = (n : Int) by omega]
      have hg' := hg (by omega)
      rw [Nat.add_sub_cancel] at hg'
      exact k43 n rfl 0 g (by omega) hg' _
  have k2 : ∀ (i : Nat) (g : Nat → Int), i ≤ 104 → (∀ j, j < i → g j = if j < 96 then 0 else 1) → S_X9_tallyBehind X 2 [some (jR 100), some (jI i), none, none] [] (jSf I 103 g) (fun I' => (∀ m x, m ≤ 12 → x < 8 → I' 103 (8 * m + x) = onF f (12 - m) x) ∧ ∀ z, z ≠ 103 → I' z = I z) := by
    refine mu2 (fun i _ => 104 - i) _ (fun i g ih hi hg => ?_)
    refine j_iload_n (pc := 2) dX9_tallyBehind_2 rfl ?_
    refine j_aload_n (pc := 3) dX9_tallyBehind_3 rfl ?_
    refine j_getR (pc := 4) f_X9_19 dX9_tallyBehind_4 rfl rfl (by decide) rfl ?_
    refine j_alen (pc := 7) 1 dX9_tallyBehind_7 rfl rfl (by decide) ?_
    refine j_icmp_ge (pc := 8) 34 dX9_tallyBehind_8 (by decide) (by omega) (by omega) (fun h_8 => ?_) (fun h_8 => ?_)
    · refine j_bipush (pc := 34) dX9_tallyBehind_34 (by decide) ?_
      refine j_istore_n1 (pc := 36) dX9_tallyBehind_36 (by decide) rfl ?_
      refine k37 12 g (by omega) (fun _ => ⟨fun m' x hm hm2 hx => ?_, fun x hx => by omega, fun _ => ?_, fun x hx hx8 => ?_, fun m' x hm hx => ?_⟩) (fun h => by omega) _ _
      · obtain rfl : m' = 12 := by omega
        rw [hg _ (by omega), if_neg (by omega)]; rfl
      · rw [hg _ (by omega), if_pos (by omega)]; rfl
      · rw [hg _ (by omega), if_pos (by omega)]
      · rw [hg _ (by omega), if_pos (by omega)]
    · refine j_aload_n (pc := 11) dX9_tallyBehind_11 rfl ?_
      refine j_getR (pc := 12) f_X9_19 dX9_tallyBehind_12 rfl rfl (by decide) rfl ?_
      refine j_iload_n (pc := 15) dX9_tallyBehind_15 rfl ?_
      refine j_iload_n (pc := 16) dX9_tallyBehind_16 rfl ?_
      refine j_bipush (pc := 17) dX9_tallyBehind_17 (by decide) ?_
      refine j_icmp_ge (pc := 19) 26 dX9_tallyBehind_19 (by decide) (by omega) (by omega) (fun h_19 => ?_) (fun h_19 => ?_)
      · refine j_lconst1 (pc := 26) dX9_tallyBehind_26 ?_
        refine j_last_a (pc := 27) (i) dX9_tallyBehind_27 rfl (by decide) (by decide) (by omega) (by omega) ?_
        refine j_iinc1 (pc := 28) dX9_tallyBehind_28 (by decide) rfl ?_
        refine j_goto (pc := 31) 2 dX9_tallyBehind_31 (by decide) ?_
        refine ih (i + 1) _ (by omega) (by omega) (fun j hj => ?_)
        by_cases e : j = i
        · subst e
          rw [jU_s]
          first
            | rw [if_pos (by omega)]
            | rw [if_neg (by omega)]
        · rw [jU_n e]; exact hg j (by omega)
      · refine j_lconst0 (pc := 22) dX9_tallyBehind_22 ?_
        refine j_goto (pc := 23) 27 dX9_tallyBehind_23 (by decide) ?_
        refine j_last_a (pc := 27) (i) dX9_tallyBehind_27 rfl (by decide) (by decide) (by omega) (by omega) ?_
        refine j_iinc1 (pc := 28) dX9_tallyBehind_28 (by decide) rfl ?_
        refine j_goto (pc := 31) 2 dX9_tallyBehind_31 (by decide) ?_
        refine ih (i + 1) _ (by omega) (by omega) (fun j hj => ?_)
        by_cases e : j = i
        · subst e
          rw [jU_s]
          first
            | rw [if_pos (by omega)]
            | rw [if_neg (by omega)]
        · rw [jU_n e]; exact hg j (by omega)
  refine j_iconst (pc := 0) dX9_tallyBehind_0 ?_
  refine j_istore_n1 (pc := 1) dX9_tallyBehind_1 (by decide) rfl ?_
  have hy := k2 0 (I 103) (by omega) (fun j hj => by omega)
  rw [jSf_i] at hy
  exact hy
/-- the tallies stand -/
def tlQ (f : Nat → Int) (I : jMI) : Prop := (∀ m, m < 12 → ldB f m (I 101)) ∧ (∀ m x, m ≤ 12 → x < 8 → I 102 (8 * m + x) = cm f m x) ∧ ∀ m x, m ≤ 12 → x < 8 → I 103 (8 * m + x) = onF f (12 - m) x
theorem c_tally (X : jX) (I : jMI) (f ah : Nat → Int) (u : Nat) (hN : nR f ah u I 1) (hok : okSt f) : C_X9_tally X [jR 100, jR 1] I (fun I' => tlQ f I' ∧ ∀ z, z ≠ 101 → z ≠ 102 → z ≠ 103 → I' z = I z) := by
  refine CG.of (by decide) [some (jR 100), some (jR 1), none, none] rfl (Nat.le_of_ble_eq_true rfl) ?_
  have key : ∀ (m : Nat) (J0 : jMI), m ≤ 12 → (∀ m', m' < m → ldB f m' (J0 101)) → (∀ z, z ≠ 101 → J0 z = I z) → ∀ x3, S_X9_tally X 2 [some (jR 100), some (jR 1), some (jI m), x3] [] J0 (fun I' => tlQ f I' ∧ ∀ z, z ≠ 101 → z ≠ 102 → z ≠ 103 → I' z = I z) := by
    refine mu2 (fun m _ => 12 - m) _ (fun m J0 ih hm hg hz x3 => ?_)
    have k10 : m < 12 → ∀ (a : Nat) (g : Nat → Int), a ≤ 8 → (∀ m', m' < m → ldB f m' g) → (∀ x, x < a → g (8 * m + x) = 0) → S_X9_tally X 10 [some (jR 100), some (jR 1), some (jI m), some (jI a)] [] (jSf J0 101 g) (fun I' => tlQ f I' ∧ ∀ z, z ≠ 101 → z ≠ 102 → z ≠ 103 → I' z = I z) := by
      intro hm12
      refine mu2 (fun a _ => 8 - a) _ (fun a g iha ha hg h0 => ?_)
      refine j_iload_n (pc := 10) dX9_tally_10 rfl ?_
      refine j_bipush (pc := 11) dX9_tally_11 (by decide) ?_
      refine j_icmp_ge (pc := 13) 33 dX9_tally_13 (by decide) (by omega) (by omega) (fun h_13 => ?_) (fun h_13 => ?_)
      · refine j_aload_n (pc := 33) dX9_tally_33 rfl ?_
        refine j_aload_n (pc := 34) dX9_tally_34 rfl ?_
        refine j_iload_n (pc := 35) dX9_tally_35 rfl ?_
        refine j_goV (pc := 36) (j_runV k_X9_26 m_X9_findLeads (c_leads X (jSf J0 101 g) f ah u m (nR_fr hN (fun z hz' => by rw [jSf_n (by omega)]; exact hz z (by omega))) hok hm12 (fun x hx => by rw [jSf_s]; exact h0 x (by omega))) dX9_tally_36 rfl (by decide) rfl (by decide) (by decide) rfl rfl (Nat.le_of_ble_eq_true rfl)) (fun I2 h2 => ?_)
        obtain ⟨l1, l2, l3⟩ := h2
        refine j_iinc2 (pc := 39) dX9_tally_39 (by decide) rfl ?_
        refine j_goto (pc := 42) 2 dX9_tally_42 (by decide) ?_
        refine ih (m + 1) I2 (by omega) (by omega) (fun m' hm' => ?_) (fun z hz' => (l3 z hz').trans ((jSf_n hz').trans (hz z hz'))) _
        by_cases e : m' = m
        · subst e; exact l1
        · intro x hx
          rw [l2 (8 * m' + x) (by omega), jSf_s]
          exact hg m' (by omega) x hx
      · refine j_aload_n (pc := 16) dX9_tally_16 rfl ?_
        refine j_getR (pc := 17) f_X9_9 dX9_tally_17 rfl rfl (by decide) rfl ?_
        refine j_iload_n (pc := 20) dX9_tally_20 rfl ?_
        refine j_iload_n (pc := 21) dX9_tally_21 rfl ?_
        refine j_goI (pc := 22) (j_runSN k_X9_22 m_X11_pair (c_pair X (jSf J0 101 g) m a) dX9_tally_22 (by decide) rfl rfl (Nat.le_of_ble_eq_true rfl)) (fun r1 I1 h1 => ?_)
        obtain ⟨rfl, rfl⟩ := h1
        refine j_iconst (pc := 25) dX9_tally_25 ?_
        refine j_iast_a (pc := 26) (8 * m + a) dX9_tally_26 rfl (by decide) (by decide) (by omega) (by omega) ?_
        refine j_iinc3 (pc := 27) dX9_tally_27 (by decide) rfl ?_
        refine j_goto (pc := 30) 10 dX9_tally_30 (by decide) ?_
        refine iha (a + 1) _ (by omega) (by omega) (fun m' hm' x hx => ?_) (fun x hx => ?_)
        · rw [jU_n (by omega)]; exact hg m' hm' x hx
        · by_cases e : x = a
          · subst e; rw [jU_s]
          · rw [jU_n (by omega)]; exact h0 x (by omega)
    refine j_iload_n (pc := 2) dX9_tally_2 rfl ?_
    refine j_bipush (pc := 3) dX9_tally_3 (by decide) ?_
    refine j_icmp_ge (pc := 5) 45 dX9_tally_5 (by decide) (by omega) (by omega) (fun h_5 => ?_) (fun h_5 => ?_)
    · refine j_aload_n (pc := 45) dX9_tally_45 rfl ?_
      refine j_goV (pc := 46) (j_runV k_X9_30 m_X9_tallyBefore (c_tBefore X J0 f (fun m' hm' => hg m' (by omega))) dX9_tally_46 rfl (by decide) rfl (by decide) (by decide) rfl rfl (Nat.le_of_ble_eq_true rfl)) (fun I3 h3 => ?_)
      obtain ⟨b1, b2⟩ := h3
      refine j_aload_n (pc := 49) dX9_tally_49 rfl ?_
      refine j_goV (pc := 50) (j_runV k_X9_33 m_X9_tallyBehind (c_tBehind X I3 f (fun m' hm' => by rw [b2 101 (by omega)]; exact hg m' (by omega))) dX9_tally_50 rfl (by decide) rfl (by decide) (by decide) rfl rfl (Nat.le_of_ble_eq_true rfl)) (fun I4 h4 => ?_)
      obtain ⟨c1, c2⟩ := h4
      refine j_retv dX9_tally_53 (?_) rfl
      refine ⟨⟨fun m' hm' => ?_, fun m' x hm' hx => ?_, c1⟩, fun z z1 z2 z3 => (c2 z z3).trans ((b2 z z2).trans (hz z z1))⟩
      · rw [c2 101 (by omega), b2 101 (by omega)]; exact hg m' (by omega)
      · rw [c2 102 (by omega)]; exact b1 m' x hm' hx
    · refine j_iconst (pc := 8) dX9_tally_8 ?_
      refine j_istore_n3 (pc := 9) dX9_tally_9 (by decide) rfl ?_
      have hy := k10 (by omega) 0 (J0 101) (by omega) hg (fun x hx => by omega)
      rw [jSf_i] at hy
      exact hy
  refine j_iconst (pc := 0) dX9_tally_0 ?_
  refine j_istore_n2 (pc := 1) dX9_tally_1 (by decide) rfl ?_
  exact key 0 I (by omega) (fun m' h => by omega) (fun z _ => rfl) _
theorem c_total (X : jX) (I : jMI) (f : Nat → Int) (h : tlQ f I) : C_X9_total X [jR 100] I (fun r I' => r = onF f 12 0 ∧ I' = I) := by
  refine CG.of (by decide) [some (jR 100)] rfl (Nat.le_of_ble_eq_true rfl) ?_
  refine j_aload_n (pc := 0) dX9_total_0 rfl ?_
  refine j_getR (pc := 1) f_X9_19 dX9_total_1 rfl rfl (by decide) rfl ?_
  refine j_iconst (pc := 4) dX9_total_4 ?_
  refine j_lald_b (pc := 5) (0) dX9_total_5 rfl (by decide) (by decide) (by omega) (by omega) ?_
  rw [show I 103 0 = onF f 12 0 from h.2.2 0 0 (by omega) (by omega)]
  exact j_retl dX9_total_6 (⟨rfl, rfl⟩) rfl
