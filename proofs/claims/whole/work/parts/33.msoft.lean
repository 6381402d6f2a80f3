/-! ===== the reference: softest ===== -/
/-- a stair whose creak is t at most -/
def et (f : Nat → Int) (t : Int) (a b : Nat) : Prop := edg f a b ∧ cr f a b ≤ t
theorem et_lt (f : Nat → Int) (t : Int) : ∀ x y, et f t x y → y < 8 := fun _ _ h => h.1.2.1
theorem wlk_mono {e e' : Nat → Nat → Prop} (h : ∀ x y, e x y → e' x y) : ∀ k a b, wlk e k a b → wlk e' k a b
  | 0, _, _, h0 => h0
  | k + 1, a, b, ⟨c, hc, h1, h2⟩ => ⟨c, hc, wlk_mono h k a c h1, h c b h2⟩
theorem et_mono {f : Nat → Int} {t t' : Int} (h : t ≤ t') : ∀ x y, et f t x y → et f t' x y := fun _ _ q => ⟨q.1, by have := q.2; omega⟩
/-- the least creak of the worst stair; 99: none -/
def isSf (f : Nat → Int) (a b : Nat) (v : Int) : Prop := (v = 99 ∧ ∀ k, ¬ wlk (et f 9) k a b) ∨ (0 ≤ v ∧ v ≤ 9 ∧ (∃ k, wlk (et f v) k a b) ∧ ∀ t, 0 ≤ t → t < v → ∀ k, ¬ wlk (et f t) k a b)
theorem isSf_uniq {f : Nat → Int} {a b : Nat} {v w : Int} (h : isSf f a b v) (h' : isSf f a b w) : v = w := by
  rcases h with ⟨h, n⟩ | ⟨h1, h2, ⟨k, h3⟩, h4⟩ <;> rcases h' with ⟨h', n'⟩ | ⟨h1', h2', ⟨k', h3'⟩, h4'⟩
  · omega
  · exact absurd (wlk_mono (et_mono h2') _ _ _ h3') (n k')
  · exact absurd (wlk_mono (et_mono h2) _ _ _ h3) (n' k)
  · rcases Int.lt_trichotomy v w with h | h | h
    · exact absurd h3 (h4' v h1 h k)
    · exact h
    · exact absurd h3' (h4 w h1' h k')
def sfI (f : Nat → Int) (fr k a b : Nat) (g : Nat → Int) : Prop :=
  (∀ i, i < 8 → g i = 99 ∨ (0 ≤ g i ∧ g i ≤ 9 ∧ ∃ j, wlk (et f (g i)) j fr i)) ∧ (∀ t, 0 ≤ t → t ≤ 9 → ∀ j, j ≤ k → ∀ i, i < 8 → wlk (et f t) j fr i → g i ≤ t) ∧
  (∀ t, 0 ≤ t → t ≤ 9 → ∀ x, x < a → ∀ y, y < 8 → et f t x y → wlk (et f t) k fr x → g y ≤ t) ∧ (∀ t, 0 ≤ t → t ≤ 9 → ∀ y, y < b → et f t a y → wlk (et f t) k fr a → g y ≤ t)
theorem sfI_rng {f : Nat → Int} {fr k a b : Nat} {g : Nat → Int} (h : sfI f fr k a b g) {i : Nat} (hi : i < 8) : 0 ≤ g i ∧ g i ≤ 99 := by
  rcases h.1 i hi with h | ⟨h1, h2, -⟩ <;> omega
theorem sfI_step {f : Nat → Int} {fr k a b : Nat} {g : Nat → Int} (h : sfI f fr k a b g) (hok : okSt f) (ha : a < 8) (hb : b < 8) {v w : Int} (hw : w = if cr f a b > g a then cr f a b else g a) (hv : (v = g b ∧ (edg f a b → g b ≤ w)) ∨ (edg f a b ∧ v = w ∧ w < g b)) : sfI f fr k a (b + 1) (jU g b v) := by
  have hcr := cr_rng hok ha hb
  have hle : ∀ i, jU g b v i ≤ g i := by
    intro i
    unfold jU
    split
    · subst i; rcases hv with ⟨h, -⟩ | ⟨-, h1, h2⟩ <;> omega
    · omega
  obtain ⟨h1, h2, h3, h4⟩ := h
  refine ⟨fun i hi => ?_, fun t t0 t9 j hj i hi hw => Int.le_trans (hle i) (h2 t t0 t9 j hj i hi hw), fun t t0 t9 x hx y hy he hw => Int.le_trans (hle y) (h3 t t0 t9 x hx y hy he hw), fun t t0 t9 y hy he hwk => ?_⟩
  · by_cases hib : i = b
    · subst hib
      rw [jU_s]
      rcases hv with ⟨hv, -⟩ | ⟨he, hv, hlt⟩
      · rw [hv]; exact h1 i hi
      · have hgb := h1 i hi
        rcases h1 a ha with h | ⟨e0, e9, j, ew⟩
        · rcases hgb with hgb | ⟨b1, b2, -⟩ <;> (split at hw <;> omega)
        · have hc0 := he.2.2
          have hw9 : 0 ≤ w ∧ w ≤ 9 ∧ g a ≤ w ∧ cr f a i ≤ w := by split at hw <;> omega
          refine Or.inr ⟨by omega, by omega, j + 1, a, ha, ?_, he, by omega⟩
          rw [hv]
          exact wlk_mono (et_mono (by omega)) _ _ _ ew
    · rw [jU_n hib]; exact h1 i hi
  · by_cases hyb : y = b
    · subst hyb
      rw [jU_s]
      have hga := h2 t t0 t9 k (Nat.le_refl _) a ha hwk
      have hc := he.2
      have hw9 : w ≤ t := by split at hw <;> omega
      rcases hv with ⟨hv, hq⟩ | ⟨-, hv, -⟩
      · have := hq he.1; omega
      · omega
    · rw [jU_n hyb]
      exact h4 t t0 t9 y (by omega) he hwk
theorem sfI_row {f : Nat → Int} {fr k a : Nat} {g : Nat → Int} (h : sfI f fr k a 8 g) : sfI f fr k (a + 1) 0 g := by
  obtain ⟨h1, h2, h3, h4⟩ := h
  refine ⟨h1, h2, fun t t0 t9 x hx y hy he hw => ?_, fun t t0 t9 y hy => by omega⟩
  by_cases hxa : x = a
  · subst hxa; exact h4 t t0 t9 y hy he hw
  · exact h3 t t0 t9 x (by omega) y hy he hw
theorem sfI_round {f : Nat → Int} {fr k : Nat} {g : Nat → Int} (h : sfI f fr k 8 0 g) : sfI f fr (k + 1) 0 0 g := by
  obtain ⟨h1, h2, h3, -⟩ := h
  refine ⟨h1, fun t t0 t9 j hj i hi hw => ?_, fun t t0 t9 x hx => by omega, fun t t0 t9 y hy => by omega⟩
  by_cases hjk : j ≤ k
  · exact h2 t t0 t9 j hjk i hi hw
  · obtain rfl : j = k + 1 := by omega
    obtain ⟨c, hc, hw1, he⟩ := hw
    exact h3 t t0 t9 c hc i hi he hw1
theorem sfI_end {f : Nat → Int} {fr : Nat} {g : Nat → Int} (hfr : fr < 8) (h : sfI f fr 8 0 0 g) : ∀ b, b < 8 → isSf f fr b (g b) := by
  intro b hb
  have hC : ∀ t, 0 ≤ t → t ≤ 9 → ∀ k, wlk (et f t) k fr b → g b ≤ t := by
    intro t t0 t9 k hw
    obtain ⟨j, hj, hw'⟩ := wlk_short (et_lt f t) hfr k b hw
    exact h.2.1 t t0 t9 j (by omega) b hb hw'
  rcases h.1 b hb with h1 | ⟨h1, h2, h3⟩
  · exact Or.inl ⟨h1, fun k hw => by have := hC 9 (by omega) (by omega) k hw; omega⟩
  · exact Or.inr ⟨h1, h2, h3, fun t t0 tv k hw => by have := hC t t0 (by omega) k hw; omega⟩
theorem sfI_start {f : Nat → Int} {fr : Nat} {g : Nat → Int} (hg : ∀ i, i < 8 → g i = if i = fr then 0 else 99) : sfI f fr 0 0 0 g := by
  refine ⟨fun i hi => ?_, fun t t0 t9 j hj i hi hw => ?_, fun t t0 t9 x hx => by omega, fun t t0 t9 y hy => by omega⟩
  · rw [hg i hi]
    split
    · rename_i h; subst h; exact Or.inr ⟨by omega, by omega, 0, rfl⟩
    · exact Or.inl rfl
  · obtain rfl : j = 0 := by omega
    cases hw
    rw [hg _ hi, if_pos rfl]
    omega
set_option maxHeartbeats 4000000 in
theorem c_msoftest (X : jX) (I : jMI) (a b : Int) (q : Int → jMI → Prop) (ha : -2147483648 ≤ a ∧ a < 2147483648) (hb : -2147483648 ≤ b ∧ b < 2147483648) (hok : okSt (I 106))
    (q0 : ¬ ((0 ≤ a ∧ a ≤ 7) ∧ (0 ≤ b ∧ b ≤ 7)) → q (-2) (mRef I 0)) (q1 : ∀ (i j : Nat) (v : Int) (I' : jMI), a = i → b = j → i < 8 → j < 8 → isSf (I 106) i j v → mSc I I' → q (if v = 99 then -1 else v) I') : C_X12_softest X [jR 105, jI a, jI b] I q := by
  refine CG.of (by decide) [some (jR 105), some (jI a), some (jI b), none, none, none, none, none] rfl (Nat.le_of_ble_eq_true rfl) ?_
  have kbad : ¬ ((0 ≤ a ∧ a ≤ 7) ∧ (0 ≤ b ∧ b ≤ 7)) → S_X12_softest X 14 [some (jR 105), some (jI a), some (jI b), none, none, none, none, none] [] I q := by
    intro hz
    refine j_aload_n (pc := 14) dX12_softest_14 rfl ?_
    refine j_goI (pc := 15) (j_runV k_X12_95 m_X12_bad (c_bad X I) dX12_softest_15 rfl (by decide) rfl (by decide) (by decide) rfl rfl (Nat.le_of_ble_eq_true rfl)) (fun r9 I9 h9 => ?_)
    obtain ⟨rfl, rfl⟩ := h9
    exact j_reti dX12_softest_18 (q0 hz) rfl
  have e6 : ∀ g, jSf I 110 g 106 = I 106 := fun g => jSf_n (by decide)
  have key : ∀ (fr to : Nat), a = fr → b = to → fr < 8 → to < 8 → S_X12_softest X 19 [some (jR 105), some (jI fr), some (jI to), none, none, none, none, none] [] I q := by
    intro fr to ea eb hfr hto
    have k71 : ∀ (k x : Nat), k < 8 → x < 8 → (∀ g x5 x6 x7, sfI (I 106) fr k x 8 g → S_X12_softest X 156 [some (jR 105), some (jI fr), some (jI to), some (jI k), some (jI x), x5, x6, x7] [] (jSf I 110 g) q) → ∀ (y : Nat) (g : Nat → Int), y ≤ 8 → sfI (I 106) fr k x y g → ∀ x6 x7, S_X12_softest X 71 [some (jR 105), some (jI fr), some (jI to), some (jI k), some (jI x), some (jI y), x6, x7] [] (jSf I 110 g) q := by
      intro k x hk hx1 hx
      refine mu2 (fun y _ => 8 - y) _ (fun y g ih hy hI x6 x7 => ?_)
      have hga := sfI_rng hI hx1
      have k112 : y < 8 → ∀ w, w = (if cr (I 106) x y > g x then cr (I 106) x y else g x) → ∀ x7, S_X12_softest X 112 [some (jR 105), some (jI fr), some (jI to), some (jI k), some (jI x), some (jI y), some (jI (cr (I 106) x y)), x7] [jI w] (jSf I 110 g) q := by
        intro hy8 w hw x7
        have hcr := cr_rng hok (a := x) (b := y) hx1 hy8
        have hgb := sfI_rng hI (i := y) hy8
        have hwr : -1 ≤ w ∧ w ≤ 99 := by split at hw <;> omega
        refine j_istore7 (pc := 112) dX12_softest_112 (by decide) rfl ?_
        refine j_aload_n (pc := 114) dX12_softest_114 rfl ?_
        refine j_getR (pc := 115) f_X12_26 dX12_softest_115 rfl rfl (by decide) rfl ?_
        refine j_iload (pc := 118) dX12_softest_118 rfl ?_
        refine j_iload (pc := 120) dX12_softest_120 rfl ?_
        refine j_if_lt (pc := 122) 142 dX12_softest_122 (by decide) (by omega) (fun h_122 => ?_) (fun h_122 => ?_)
        · refine j_aload_n (pc := 142) dX12_softest_142 rfl ?_
          refine j_getR (pc := 143) f_X12_26 dX12_softest_143 rfl rfl (by decide) rfl ?_
          refine j_iload (pc := 146) dX12_softest_146 rfl ?_
          refine j_iald_a (pc := 148) (y) dX12_softest_148 rfl (by decide) (by decide) (by omega) (by omega) ?_
          refine j_iast_a (pc := 149) (y) dX12_softest_149 rfl (by decide) (by decide) (by omega) (by omega) ?_
          refine j_iinc5 (pc := 150) dX12_softest_150 (by decide) rfl ?_
          refine j_goto (pc := 153) 71 dX12_softest_153 (by decide) ?_
          refine ih (y + 1) _ (by omega) (by omega) (sfI_step hI hok hx1 hy8 hw ?_) _ _
          first | exact Or.inr ⟨⟨hx1, hy8, by omega⟩, rfl, by omega⟩ | exact Or.inl ⟨rfl, fun he => by have := he.2.2; omega⟩
        · refine j_iload (pc := 125) dX12_softest_125 rfl ?_
          refine j_aload_n (pc := 127) dX12_softest_127 rfl ?_
          refine j_getR (pc := 128) f_X12_26 dX12_softest_128 rfl rfl (by decide) rfl ?_
          refine j_iload (pc := 131) dX12_softest_131 rfl ?_
          refine j_iald_a (pc := 133) (y) dX12_softest_133 rfl (by decide) (by decide) (by omega) (by omega) ?_
          refine j_icmp_ge (pc := 134) 142 dX12_softest_134 (by decide) (by omega) (by omega) (fun h_134 => ?_) (fun h_134 => ?_)
          · refine j_aload_n (pc := 142) dX12_softest_142 rfl ?_
            refine j_getR (pc := 143) f_X12_26 dX12_softest_143 rfl rfl (by decide) rfl ?_
            refine j_iload (pc := 146) dX12_softest_146 rfl ?_
            refine j_iald_a (pc := 148) (y) dX12_softest_148 rfl (by decide) (by decide) (by omega) (by omega) ?_
            refine j_iast_a (pc := 149) (y) dX12_softest_149 rfl (by decide) (by decide) (by omega) (by omega) ?_
            refine j_iinc5 (pc := 150) dX12_softest_150 (by decide) rfl ?_
            refine j_goto (pc := 153) 71 dX12_softest_153 (by decide) ?_
            refine ih (y + 1) _ (by omega) (by omega) (sfI_step hI hok hx1 hy8 hw ?_) _ _
            first | exact Or.inr ⟨⟨hx1, hy8, by omega⟩, rfl, by omega⟩ | exact Or.inl ⟨rfl, fun he => by have := he.2.2; omega⟩
          · refine j_iload (pc := 137) dX12_softest_137 rfl ?_
            refine j_goto (pc := 139) 149 dX12_softest_139 (by decide) ?_
            refine j_iast_a (pc := 149) (y) dX12_softest_149 rfl (by decide) (by decide) (by omega) (by omega) ?_
            refine j_iinc5 (pc := 150) dX12_softest_150 (by decide) rfl ?_
            refine j_goto (pc := 153) 71 dX12_softest_153 (by decide) ?_
            refine ih (y + 1) _ (by omega) (by omega) (sfI_step hI hok hx1 hy8 hw ?_) _ _
            first | exact Or.inr ⟨⟨hx1, hy8, by omega⟩, rfl, by omega⟩ | exact Or.inl ⟨rfl, fun he => by have := he.2.2; omega⟩
      refine j_iload (pc := 71) dX12_softest_71 rfl ?_
      refine j_bipush (pc := 73) dX12_softest_73 (by decide) ?_
      refine j_icmp_ge (pc := 75) 156 dX12_softest_75 (by decide) (by omega) (by omega) (fun h_75 => ?_) (fun h_75 => ?_)
      · obtain rfl : y = 8 := by omega
        exact hx g _ _ _ hI
      · refine j_aload_n (pc := 78) dX12_softest_78 rfl ?_
        refine j_iload (pc := 79) dX12_softest_79 rfl ?_
        refine j_iload (pc := 81) dX12_softest_81 rfl ?_
        refine j_goI (pc := 83) (j_runV k_X12_99 m_X12_creakOf (c_creakOf X (jSf I 110 g) x y hx1 (by omega)) dX12_softest_83 rfl (by decide) rfl (by decide) (by decide) rfl rfl (Nat.le_of_ble_eq_true rfl)) (fun r1 I1 h1 => ?_)
        obtain ⟨rfl, rfl⟩ := h1
        rw [e6]
        have hcr := cr_rng hok (a := x) (b := y) hx1 (by omega)
        refine j_istore6 (pc := 86) dX12_softest_86 (by decide) rfl ?_
        refine j_iload (pc := 88) dX12_softest_88 rfl ?_
        refine j_aload_n (pc := 90) dX12_softest_90 rfl ?_
        refine j_getR (pc := 91) f_X12_26 dX12_softest_91 rfl rfl (by decide) rfl ?_
        refine j_iload (pc := 94) dX12_softest_94 rfl ?_
        refine j_iald_a (pc := 96) (x) dX12_softest_96 rfl (by decide) (by decide) (by omega) (by omega) ?_
        refine j_icmp_le (pc := 97) 105 dX12_softest_97 (by decide) (by omega) (by omega) (fun h_97 => ?_) (fun h_97 => ?_)
        · refine j_aload_n (pc := 105) dX12_softest_105 rfl ?_
          refine j_getR (pc := 106) f_X12_26 dX12_softest_106 rfl rfl (by decide) rfl ?_
          refine j_iload (pc := 109) dX12_softest_109 rfl ?_
          refine j_iald_a (pc := 111) (x) dX12_softest_111 rfl (by decide) (by decide) (by omega) (by omega) ?_
          exact k112 (by omega) _ (by split <;> omega) _
        · refine j_iload (pc := 100) dX12_softest_100 rfl ?_
          refine j_goto (pc := 102) 112 dX12_softest_102 (by decide) ?_
          exact k112 (by omega) _ (by split <;> omega) _
    have k61 : ∀ (k : Nat), k < 8 → (∀ g x4 x5 x6 x7, sfI (I 106) fr k 8 0 g → S_X12_softest X 162 [some (jR 105), some (jI fr), some (jI to), some (jI k), x4, x5, x6, x7] [] (jSf I 110 g) q) → ∀ (x : Nat) (g : Nat → Int), x ≤ 8 → sfI (I 106) fr k x 0 g → ∀ x5 x6 x7, S_X12_softest X 61 [some (jR 105), some (jI fr), some (jI to), some (jI k), some (jI x), x5, x6, x7] [] (jSf I 110 g) q := by
      intro k hk hx
      refine mu2 (fun x _ => 8 - x) _ (fun x g ih hx8 hI x5 x6 x7 => ?_)
      refine j_iload (pc := 61) dX12_softest_61 rfl ?_
      refine j_bipush (pc := 63) dX12_softest_63 (by decide) ?_
      refine j_icmp_ge (pc := 65) 162 dX12_softest_65 (by decide) (by omega) (by omega) (fun h_65 => ?_) (fun h_65 => ?_)
      · obtain rfl : x = 8 := by omega
        exact hx g _ _ _ _ hI
      · refine j_iconst (pc := 68) dX12_softest_68 ?_
        refine j_istore5 (pc := 69) dX12_softest_69 (by decide) rfl ?_
        refine k71 k x hk (by omega) (fun g' y5 y6 y7 hI' => ?_) 0 g (by omega) hI _ _
        refine j_iinc4 (pc := 156) dX12_softest_156 (by decide) rfl ?_
        refine j_goto (pc := 159) 61 dX12_softest_159 (by decide) ?_
        exact ih (x + 1) g' (by omega) (by omega) (sfI_row hI') _ _ _
    have k52 : ∀ (k : Nat) (g : Nat → Int), k ≤ 8 → sfI (I 106) fr k 0 0 g → ∀ x4 x5 x6 x7, S_X12_softest X 52 [some (jR 105), some (jI fr), some (jI to), some (jI k), x4, x5, x6, x7] [] (jSf I 110 g) q := by
      refine mu2 (fun k _ => 8 - k) _ (fun k g ih hk hI x4 x5 x6 x7 => ?_)
      have hgt := sfI_rng hI hto
      refine j_iload_n (pc := 52) dX12_softest_52 rfl ?_
      refine j_bipush (pc := 53) dX12_softest_53 (by decide) ?_
      refine j_icmp_ge (pc := 55) 168 dX12_softest_55 (by decide) (by omega) (by omega) (fun h_55 => ?_) (fun h_55 => ?_)
      · refine j_aload_n (pc := 168) dX12_softest_168 rfl ?_
        refine j_getR (pc := 169) f_X12_26 dX12_softest_169 rfl rfl (by decide) rfl ?_
        refine j_iload_n (pc := 172) dX12_softest_172 rfl ?_
        refine j_iald_a (pc := 173) (to) dX12_softest_173 rfl (by decide) (by decide) (by omega) (by omega) ?_
        refine j_bipush (pc := 174) dX12_softest_174 (by decide) ?_
        refine j_icmp_ne (pc := 176) 183 dX12_softest_176 (by decide) (by omega) (by omega) (fun h_176 => ?_) (fun h_176 => ?_)
        · refine j_aload_n (pc := 183) dX12_softest_183 rfl ?_
          refine j_getR (pc := 184) f_X12_26 dX12_softest_184 rfl rfl (by decide) rfl ?_
          refine j_iload_n (pc := 187) dX12_softest_187 rfl ?_
          refine j_iald_a (pc := 188) (to) dX12_softest_188 rfl (by decide) (by decide) (by omega) (by omega) ?_
          refine j_reti dX12_softest_189 (?_) rfl
          obtain rfl : k = 8 := by omega
          have := q1 fr to (g to) (jSf I 110 g) ea eb hfr hto (sfI_end hfr hI to hto) (mSc_f (Or.inl rfl))
          first | (rw [if_pos (by omega)] at this; exact this) | (rw [if_neg (by omega)] at this; exact this)
        · refine j_iconst (pc := 179) dX12_softest_179 ?_
          refine j_goto (pc := 180) 189 dX12_softest_180 (by decide) ?_
          refine j_reti dX12_softest_189 (?_) rfl
          obtain rfl : k = 8 := by omega
          have := q1 fr to (g to) (jSf I 110 g) ea eb hfr hto (sfI_end hfr hI to hto) (mSc_f (Or.inl rfl))
          first | (rw [if_pos (by omega)] at this; exact this) | (rw [if_neg (by omega)] at this; exact this)
      · refine j_iconst (pc := 58) dX12_softest_58 ?_
        refine j_istore4 (pc := 59) dX12_softest_59 (by decide) rfl ?_
        refine k61 k (by omega) (fun g' y4 y5 y6 y7 hI' => ?_) 0 g (by omega) hI _ _ _
        refine j_iinc3 (pc := 162) dX12_softest_162 (by decide) rfl ?_
        refine j_goto (pc := 165) 52 dX12_softest_165 (by decide) ?_
        exact ih (k + 1) g' (by omega) (by omega) (sfI_round hI') _ _ _ _
    have k21 : ∀ (r : Nat) (g : Nat → Int), r ≤ 8 → (∀ i, i < r → g i = if i = fr then 0 else 99) → S_X12_softest X 21 [some (jR 105), some (jI fr), some (jI to), some (jI r), none, none, none, none] [] (jSf I 110 g) q := by
      refine mu2 (fun r _ => 8 - r) _ (fun r g ih hr hg => ?_)
      refine j_iload_n (pc := 21) dX12_softest_21 rfl ?_
      refine j_bipush (pc := 22) dX12_softest_22 (by decide) ?_
      refine j_icmp_ge (pc := 24) 50 dX12_softest_24 (by decide) (by omega) (by omega) (fun h_24 => ?_) (fun h_24 => ?_)
      · refine j_iconst (pc := 50) dX12_softest_50 ?_
        refine j_istore_n3 (pc := 51) dX12_softest_51 (by decide) rfl ?_
        exact k52 0 g (by omega) (sfI_start (fun i hi => hg i (by omega))) _ _ _ _
      · refine j_aload_n (pc := 27) dX12_softest_27 rfl ?_
        refine j_getR (pc := 28) f_X12_26 dX12_softest_28 rfl rfl (by decide) rfl ?_
        refine j_iload_n (pc := 31) dX12_softest_31 rfl ?_
        refine j_iload_n (pc := 32) dX12_softest_32 rfl ?_
        refine j_iload_n (pc := 33) dX12_softest_33 rfl ?_
        refine j_icmp_ne (pc := 34) 41 dX12_softest_34 (by decide) (by omega) (by omega) (fun h_34 => ?_) (fun h_34 => ?_)
        · refine j_bipush (pc := 41) dX12_softest_41 (by decide) ?_
          refine j_iast_a (pc := 43) (r) dX12_softest_43 rfl (by decide) (by decide) (by omega) (by omega) ?_
          refine j_iinc3 (pc := 44) dX12_softest_44 (by decide) rfl ?_
          refine j_goto (pc := 47) 21 dX12_softest_47 (by decide) ?_
          refine ih (r + 1) _ (by omega) (by omega) (fun i hi => ?_)
          unfold jU
          split
          · subst i; split <;> omega
          · exact hg i (by omega)
        · refine j_iconst (pc := 37) dX12_softest_37 ?_
          refine j_goto (pc := 38) 43 dX12_softest_38 (by decide) ?_
          refine j_iast_a (pc := 43) (r) dX12_softest_43 rfl (by decide) (by decide) (by omega) (by omega) ?_
          refine j_iinc3 (pc := 44) dX12_softest_44 (by decide) rfl ?_
          refine j_goto (pc := 47) 21 dX12_softest_47 (by decide) ?_
          refine ih (r + 1) _ (by omega) (by omega) (fun i hi => ?_)
          unfold jU
          split
          · subst i; split <;> omega
          · exact hg i (by omega)
    have hh := k21 0 (I 110) (by omega) (fun i hi => by omega)
    rw [jSf_i] at hh
    refine j_iconst (pc := 19) dX12_softest_19 ?_
    refine j_istore_n3 (pc := 20) dX12_softest_20 (by decide) rfl ?_
    exact hh
  refine j_iload_n (pc := 0) dX12_softest_0 rfl ?_
  refine j_goI (pc := 1) (j_runS k_X12_89 m_X12_isRoom (c_mRoom X I a ha) dX12_softest_1 (by decide) rfl rfl (Nat.le_of_ble_eq_true rfl)) (fun r1 I1 h1 => ?_)
  obtain ⟨rfl, rfl⟩ := h1
  refine j_if_eq (pc := 4) 14 dX12_softest_4 (by decide) (by omega) (fun h_4 => ?_) (fun h_4 => ?_)
  · exact kbad (by omega)
  · refine j_iload_n (pc := 7) dX12_softest_7 rfl ?_
    refine j_goI (pc := 8) (j_runS k_X12_89 m_X12_isRoom (c_mRoom X I1 b hb) dX12_softest_8 (by decide) rfl rfl (Nat.le_of_ble_eq_true rfl)) (fun r2 I2 h2 => ?_)
    obtain ⟨rfl, rfl⟩ := h2
    refine j_if_ne (pc := 11) 19 dX12_softest_11 (by decide) (by omega) (fun h_11 => ?_) (fun h_11 => ?_)
    · obtain ⟨i, rfl⟩ := Int.eq_ofNat_of_zero_le (show 0 ≤ a by omega)
      obtain ⟨j, rfl⟩ := Int.eq_ofNat_of_zero_le (show 0 ≤ b by omega)
      exact key i j rfl rfl (by omega) (by omega)
    · exact kbad (by omega)
