/-! ===== the reference's distances ===== -/
theorem cr_rng {f : Nat → Int} (h : okSt f) {a b : Nat} (ha : a < 8) (hb : b < 8) : -1 ≤ cr f a b ∧ cr f a b ≤ 9 := by
  unfold cr
  split
  · omega
  · have hp := pairN_lt ha hb (by assumption)
    have h1 := h (71 + pairN a b) (by omega)
    unfold stLo stHi at h1
    omega
/-- the row as it stands amid the rounds -/
def farI (f : Nat → Int) (fr k a b : Nat) (g : Nat → Int) : Prop :=
  (∀ i, i < 8 → g i = 99 ∨ ∃ j : Nat, g i = j ∧ j ≤ 98 ∧ wlk (edg f) j fr i) ∧ (∀ j, j ≤ k → ∀ i, i < 8 → wlk (edg f) j fr i → g i ≤ j) ∧
  (∀ x, x < a → ∀ y, y < 8 → edg f x y → wlk (edg f) k fr x → g y ≤ (k : Int) + 1) ∧ (∀ y, y < b → edg f a y → wlk (edg f) k fr a → g y ≤ (k : Int) + 1)
theorem farI_rng {f : Nat → Int} {fr k a b : Nat} {g : Nat → Int} (h : farI f fr k a b g) {i : Nat} (hi : i < 8) : 0 ≤ g i ∧ g i ≤ 99 := by
  rcases h.1 i hi with h | ⟨j, h1, h2, -⟩ <;> omega
theorem farI_step {f : Nat → Int} {fr k a b : Nat} {g : Nat → Int} (h : farI f fr k a b g) (ha : a < 8) (hb : b < 8) {v : Int} (hv : (v = g b ∧ (edg f a b → g b ≤ g a + 1)) ∨ (edg f a b ∧ v = g a + 1 ∧ g a + 1 < g b)) : farI f fr k a (b + 1) (jU g b v) := by
  have hle : ∀ i, jU g b v i ≤ g i := by
    intro i
    unfold jU
    split
    · subst i; rcases hv with ⟨h, -⟩ | ⟨-, h1, h2⟩ <;> omega
    · omega
  obtain ⟨h1, h2, h3, h4⟩ := h
  refine ⟨fun i hi => ?_, fun j hj i hi hw => Int.le_trans (hle i) (h2 j hj i hi hw), fun x hx y hy he hw => Int.le_trans (hle y) (h3 x hx y hy he hw), fun y hy he hw => ?_⟩
  · by_cases hib : i = b
    · subst hib
      rw [jU_s]
      rcases hv with ⟨hv, -⟩ | ⟨he, hv, hlt⟩
      · rw [hv]; exact h1 i hi
      · rcases h1 a ha with h | ⟨j, e1, e2, e3⟩
        · rcases h1 i hi with h' | ⟨j', e1', e2', -⟩ <;> omega
        · refine Or.inr ⟨j + 1, by omega, ?_, a, ha, e3, he⟩
          rcases h1 i hi with h' | ⟨j', e1', e2', -⟩ <;> omega
    · rw [jU_n hib]; exact h1 i hi
  · by_cases hyb : y = b
    · subst hyb
      rw [jU_s]
      have hga := h2 k (Nat.le_refl _) a ha hw
      rcases hv with ⟨hv, hq⟩ | ⟨-, hv, -⟩
      · have := hq he; omega
      · omega
    · rw [jU_n hyb]
      exact h4 y (by omega) he hw
theorem farI_row {f : Nat → Int} {fr k a : Nat} {g : Nat → Int} (h : farI f fr k a 8 g) : farI f fr k (a + 1) 0 g := by
  obtain ⟨h1, h2, h3, h4⟩ := h
  refine ⟨h1, h2, fun x hx y hy he hw => ?_, fun y hy => by omega⟩
  by_cases hxa : x = a
  · subst hxa; exact h4 y hy he hw
  · exact h3 x (by omega) y hy he hw
theorem farI_round {f : Nat → Int} {fr k : Nat} {g : Nat → Int} (h : farI f fr k 8 0 g) : farI f fr (k + 1) 0 0 g := by
  obtain ⟨h1, h2, h3, -⟩ := h
  refine ⟨h1, fun j hj i hi hw => ?_, fun x hx => by omega, fun y hy => by omega⟩
  by_cases hjk : j ≤ k
  · exact h2 j hjk i hi hw
  · obtain rfl : j = k + 1 := by omega
    obtain ⟨c, hc, hw1, he⟩ := hw
    have := h3 c hc i hi he hw1
    omega
theorem farI_end {f : Nat → Int} {fr : Nat} {g : Nat → Int} (hfr : fr < 8) (h : farI f fr 8 0 0 g) : ∀ b, b < 8 → isD (edg f) fr b 99 (g b) := by
  intro b hb
  refine isD_of (edg_lt f) hfr ?_ (by omega) (fun j hj hw => h.2.1 j (by omega) b hb hw)
  rcases h.1 b hb with h | ⟨j, e1, e2, e3⟩
  · exact Or.inl h
  · exact Or.inr ⟨j, e1, e3⟩
theorem farI_start {f : Nat → Int} {fr : Nat} {g : Nat → Int} (hg : ∀ i, i < 8 → g i = if i = fr then 0 else 99) : farI f fr 0 0 0 g := by
  refine ⟨fun i hi => ?_, fun j hj i hi hw => ?_, fun x hx => by omega, fun y hy => by omega⟩
  · rw [hg i hi]
    split
    · rename_i h; subst h; exact Or.inr ⟨0, rfl, by omega, rfl⟩
    · exact Or.inl rfl
  · obtain rfl : j = 0 := by omega
    cases hw
    rw [hg _ hi, if_pos rfl]
    omega
set_option maxHeartbeats 2000000 in
theorem c_findFar (X : jX) (I : jMI) (fr : Nat) (hfr : fr < 8) (hok : okSt (I 106)) : C_X12_findFar X [jR 105, jI fr] I (fun I' => ∃ g, I' = jSf I 110 g ∧ ∀ b, b < 8 → isD (edg (I 106)) fr b 99 (g b)) := by
  refine CG.of (by decide) [some (jR 105), some (jI fr), none, none, none] rfl (Nat.le_of_ble_eq_true rfl) ?_
  generalize hq : (fun I' => ∃ g, I' = jSf I 110 g ∧ ∀ b, b < 8 → isD (edg (I 106)) fr b 99 (g b)) = q
  have e6 : ∀ g, jSf I 110 g 106 = I 106 := fun g => jSf_n (by decide)
  have k50 : ∀ (k a : Nat), k < 8 → a < 8 → (∀ g, farI (I 106) fr k a 8 g → S_X12_findFar X 116 [some (jR 105), some (jI fr), some (jI k), some (jI a), some (jI 8)] [] (jSf I 110 g) q) → ∀ (b : Nat) (g : Nat → Int), b ≤ 8 → farI (I 106) fr k a b g → S_X12_findFar X 50 [some (jR 105), some (jI fr), some (jI k), some (jI a), some (jI b)] [] (jSf I 110 g) q := by
    intro k a hk ha hx
    refine mu2 (fun b _ => 8 - b) _ (fun b g ih hb hI => ?_)
    have hga := farI_rng hI ha
    refine j_iload (pc := 50) dX12_findFar_50 rfl ?_
    refine j_bipush (pc := 52) dX12_findFar_52 (by decide) ?_
    refine j_icmp_ge (pc := 54) 116 dX12_findFar_54 (by decide) (by omega) (by omega) (fun h_54 => ?_) (fun h_54 => ?_)
    · obtain rfl : b = 8 := by omega
      exact hx g hI
    · refine j_aload_n (pc := 57) dX12_findFar_57 rfl ?_
      refine j_getR (pc := 58) f_X12_26 dX12_findFar_58 rfl rfl (by decide) rfl ?_
      refine j_iload (pc := 61) dX12_findFar_61 rfl ?_
      refine j_aload_n (pc := 63) dX12_findFar_63 rfl ?_
      refine j_iload_n (pc := 64) dX12_findFar_64 rfl ?_
      refine j_iload (pc := 65) dX12_findFar_65 rfl ?_
      refine j_goI (pc := 67) (j_runV k_X12_99 m_X12_creakOf (c_creakOf X (jSf I 110 g) a b ha (by omega)) dX12_findFar_67 rfl (by decide) rfl (by decide) (by decide) rfl rfl (Nat.le_of_ble_eq_true rfl)) (fun r1 I1 h1 => ?_)
      obtain ⟨rfl, rfl⟩ := h1
      rw [e6]
      have hcr := cr_rng hok (a := a) (b := b) ha (by omega)
      have hgb := farI_rng hI (i := b) (by omega)
      refine j_if_lt (pc := 70) 102 dX12_findFar_70 (by decide) (by omega) (fun h_70 => ?_) (fun h_70 => ?_)
      · refine j_aload_n (pc := 102) dX12_findFar_102 rfl ?_
        refine j_getR (pc := 103) f_X12_26 dX12_findFar_103 rfl rfl (by decide) rfl ?_
        refine j_iload (pc := 106) dX12_findFar_106 rfl ?_
        refine j_iald_a (pc := 108) (b) dX12_findFar_108 rfl (by decide) (by decide) (by omega) (by omega) ?_
        refine j_iast_a (pc := 109) (b) dX12_findFar_109 rfl (by decide) (by decide) (by omega) (by omega) ?_
        refine j_iinc4 (pc := 110) dX12_findFar_110 (by decide) rfl ?_
        refine j_goto (pc := 113) 50 dX12_findFar_113 (by decide) ?_
        refine ih (b + 1) _ (by omega) (by omega) (farI_step hI ha (by omega) ?_)
        first | exact Or.inr ⟨⟨ha, by omega, by omega⟩, rfl, by omega⟩ | exact Or.inl ⟨rfl, fun he => by have := he.2.2; omega⟩
      · refine j_aload_n (pc := 73) dX12_findFar_73 rfl ?_
        refine j_getR (pc := 74) f_X12_26 dX12_findFar_74 rfl rfl (by decide) rfl ?_
        refine j_iload_n (pc := 77) dX12_findFar_77 rfl ?_
        refine j_iald_a (pc := 78) (a) dX12_findFar_78 rfl (by decide) (by decide) (by omega) (by omega) ?_
        refine j_iconst (pc := 79) dX12_findFar_79 ?_
        refine j_iadd (pc := 80) dX12_findFar_80 ?_
        refine j_aload_n (pc := 81) dX12_findFar_81 rfl ?_
        refine j_getR (pc := 82) f_X12_26 dX12_findFar_82 rfl rfl (by decide) rfl ?_
        refine j_iload (pc := 85) dX12_findFar_85 rfl ?_
        refine j_iald_a (pc := 87) (b) dX12_findFar_87 rfl (by decide) (by decide) (by omega) (by omega) ?_
        refine j_icmp_ge (pc := 88) 102 dX12_findFar_88 (by decide) (by omega) (by omega) (fun h_88 => ?_) (fun h_88 => ?_)
        · refine j_aload_n (pc := 102) dX12_findFar_102 rfl ?_
          refine j_getR (pc := 103) f_X12_26 dX12_findFar_103 rfl rfl (by decide) rfl ?_
          refine j_iload (pc := 106) dX12_findFar_106 rfl ?_
          refine j_iald_a (pc := 108) (b) dX12_findFar_108 rfl (by decide) (by decide) (by omega) (by omega) ?_
          refine j_iast_a (pc := 109) (b) dX12_findFar_109 rfl (by decide) (by decide) (by omega) (by omega) ?_
          refine j_iinc4 (pc := 110) dX12_findFar_110 (by decide) rfl ?_
          refine j_goto (pc := 113) 50 dX12_findFar_113 (by decide) ?_
          refine ih (b + 1) _ (by omega) (by omega) (farI_step hI ha (by omega) ?_)
          first | exact Or.inr ⟨⟨ha, by omega, by omega⟩, rfl, by omega⟩ | exact Or.inl ⟨rfl, fun he => by have := he.2.2; omega⟩
        · refine j_aload_n (pc := 91) dX12_findFar_91 rfl ?_
          refine j_getR (pc := 92) f_X12_26 dX12_findFar_92 rfl rfl (by decide) rfl ?_
          refine j_iload_n (pc := 95) dX12_findFar_95 rfl ?_
          refine j_iald_a (pc := 96) (a) dX12_findFar_96 rfl (by decide) (by decide) (by omega) (by omega) ?_
          refine j_iconst (pc := 97) dX12_findFar_97 ?_
          refine j_iadd (pc := 98) dX12_findFar_98 ?_
          refine j_goto (pc := 99) 109 dX12_findFar_99 (by decide) ?_
          refine j_iast_a (pc := 109) (b) dX12_findFar_109 rfl (by decide) (by decide) (by omega) (by omega) ?_
          refine j_iinc4 (pc := 110) dX12_findFar_110 (by decide) rfl ?_
          refine j_goto (pc := 113) 50 dX12_findFar_113 (by decide) ?_
          refine ih (b + 1) _ (by omega) (by omega) (farI_step hI ha (by omega) ?_)
          first | exact Or.inr ⟨⟨ha, by omega, by omega⟩, rfl, by omega⟩ | exact Or.inl ⟨rfl, fun he => by have := he.2.2; omega⟩
  have j116 : ∀ (k a : Nat) (g : Nat → Int) (x4 : Option jV), S_X12_findFar X 41 [some (jR 105), some (jI fr), some (jI k), some (jI ((a : Int) + 1)), x4] [] (jSf I 110 g) q → S_X12_findFar X 116 [some (jR 105), some (jI fr), some (jI k), some (jI a), x4] [] (jSf I 110 g) q := by
    intro k a g x4 h
    refine j_iinc3 (pc := 116) dX12_findFar_116 (by decide) rfl ?_
    refine j_goto (pc := 119) 41 dX12_findFar_119 (by decide) ?_
    exact h
  have k41 : ∀ (k : Nat), k < 8 → (∀ g x4, farI (I 106) fr k 8 0 g → S_X12_findFar X 122 [some (jR 105), some (jI fr), some (jI k), some (jI 8), x4] [] (jSf I 110 g) q) → ∀ (a : Nat) (g : Nat → Int), a ≤ 8 → farI (I 106) fr k a 0 g → ∀ x4, S_X12_findFar X 41 [some (jR 105), some (jI fr), some (jI k), some (jI a), x4] [] (jSf I 110 g) q := by
    intro k hk hx
    refine mu2 (fun a _ => 8 - a) _ (fun a g ih ha hI x4 => ?_)
    refine j_iload_n (pc := 41) dX12_findFar_41 rfl ?_
    refine j_bipush (pc := 42) dX12_findFar_42 (by decide) ?_
    refine j_icmp_ge (pc := 44) 122 dX12_findFar_44 (by decide) (by omega) (by omega) (fun h_44 => ?_) (fun h_44 => ?_)
    · obtain rfl : a = 8 := by omega
      exact hx g x4 hI
    · refine j_iconst (pc := 47) dX12_findFar_47 ?_
      refine j_istore4 (pc := 48) dX12_findFar_48 (by decide) rfl ?_
      exact k50 k a hk (by omega) (fun g' hI' => j116 k a g' _ (ih (a + 1) g' (by omega) (by omega) (farI_row hI') _)) 0 g (by omega) hI
  have j122 : ∀ (k : Nat) (g : Nat → Int) (x3 x4 : Option jV), S_X12_findFar X 33 [some (jR 105), some (jI fr), some (jI ((k : Int) + 1)), x3, x4] [] (jSf I 110 g) q → S_X12_findFar X 122 [some (jR 105), some (jI fr), some (jI k), x3, x4] [] (jSf I 110 g) q := by
    intro k g x3 x4 h
    refine j_iinc2 (pc := 122) dX12_findFar_122 (by decide) rfl ?_
    refine j_goto (pc := 125) 33 dX12_findFar_125 (by decide) ?_
    exact h
  have k33 : ∀ (k : Nat) (g : Nat → Int), k ≤ 8 → farI (I 106) fr k 0 0 g → ∀ x3 x4, S_X12_findFar X 33 [some (jR 105), some (jI fr), some (jI k), x3, x4] [] (jSf I 110 g) q := by
    refine mu2 (fun k _ => 8 - k) _ (fun k g ih hk hI x3 x4 => ?_)
    refine j_iload_n (pc := 33) dX12_findFar_33 rfl ?_
    refine j_bipush (pc := 34) dX12_findFar_34 (by decide) ?_
    refine j_icmp_ge (pc := 36) 128 dX12_findFar_36 (by decide) (by omega) (by omega) (fun h_36 => ?_) (fun h_36 => ?_)
    · refine j_retv dX12_findFar_128 (?_) rfl
      subst hq
      obtain rfl : k = 8 := by omega
      exact ⟨g, rfl, farI_end hfr hI⟩
    · refine j_iconst (pc := 39) dX12_findFar_39 ?_
      refine j_istore_n3 (pc := 40) dX12_findFar_40 (by decide) rfl ?_
      exact k41 k (by omega) (fun g' y4 hI' => j122 k g' _ y4 (ih (k + 1) g' (by omega) (by omega) (farI_round hI') _ _)) 0 g (by omega) hI _
  have k2 : ∀ (r : Nat) (g : Nat → Int), r ≤ 8 → (∀ i, i < r → g i = if i = fr then 0 else 99) → S_X12_findFar X 2 [some (jR 105), some (jI fr), some (jI r), none, none] [] (jSf I 110 g) q := by
    refine mu2 (fun r _ => 8 - r) _ (fun r g ih hr hg => ?_)
    refine j_iload_n (pc := 2) dX12_findFar_2 rfl ?_
    refine j_bipush (pc := 3) dX12_findFar_3 (by decide) ?_
    refine j_icmp_ge (pc := 5) 31 dX12_findFar_5 (by decide) (by omega) (by omega) (fun h_5 => ?_) (fun h_5 => ?_)
    · refine j_iconst (pc := 31) dX12_findFar_31 ?_
      refine j_istore_n2 (pc := 32) dX12_findFar_32 (by decide) rfl ?_
      exact k33 0 g (by omega) (farI_start (fun i hi => hg i (by omega))) _ _
    · refine j_aload_n (pc := 8) dX12_findFar_8 rfl ?_
      refine j_getR (pc := 9) f_X12_26 dX12_findFar_9 rfl rfl (by decide) rfl ?_
      refine j_iload_n (pc := 12) dX12_findFar_12 rfl ?_
      refine j_iload_n (pc := 13) dX12_findFar_13 rfl ?_
      refine j_iload_n (pc := 14) dX12_findFar_14 rfl ?_
      refine j_icmp_ne (pc := 15) 22 dX12_findFar_15 (by decide) (by omega) (by omega) (fun h_15 => ?_) (fun h_15 => ?_)
      · refine j_bipush (pc := 22) dX12_findFar_22 (by decide) ?_
        refine j_iast_a (pc := 24) (r) dX12_findFar_24 rfl (by decide) (by decide) (by omega) (by omega) ?_
        refine j_iinc2 (pc := 25) dX12_findFar_25 (by decide) rfl ?_
        refine j_goto (pc := 28) 2 dX12_findFar_28 (by decide) ?_
        refine ih (r + 1) _ (by omega) (by omega) (fun i hi => ?_)
        unfold jU
        split
        · subst i; split <;> omega
        · exact hg i (by omega)
      · refine j_iconst (pc := 18) dX12_findFar_18 ?_
        refine j_goto (pc := 19) 24 dX12_findFar_19 (by decide) ?_
        refine j_iast_a (pc := 24) (r) dX12_findFar_24 rfl (by decide) (by decide) (by omega) (by omega) ?_
        refine j_iinc2 (pc := 25) dX12_findFar_25 (by decide) rfl ?_
        refine j_goto (pc := 28) 2 dX12_findFar_28 (by decide) ?_
        refine ih (r + 1) _ (by omega) (by omega) (fun i hi => ?_)
        unfold jU
        split
        · subst i; split <;> omega
        · exact hg i (by omega)
  rw [← jSf_i (I := I) (k := 110)]
  refine j_iconst (pc := 0) dX12_findFar_0 ?_
  refine j_istore_n2 (pc := 1) dX12_findFar_1 (by decide) rfl ?_
  exact k2 0 _ (by omega) (fun i hi => by omega)
