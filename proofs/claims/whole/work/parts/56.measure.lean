/-! ===== the class: how far the rooms are ===== -/
theorem wlk_wm {e : Nat → Nat → Prop} : ∀ (k a b : Nat), wlk e k a b → ∃ k', k' ≤ k ∧ wm e 8 k' a b
  | 0, a, b, h => by cases h; exact ⟨0, Nat.le_refl _, wm_up 8 (Or.inl ⟨rfl, rfl⟩)⟩
  | k + 1, a, b, ⟨c, hc, h1, h2⟩ => by
    obtain ⟨k', hk', h3⟩ := wlk_wm k a c h1
    obtain ⟨x, hx, h4⟩ := wm_tr 8 k' 1 a b c hc h3 (wm_up 8 (Or.inr ⟨rfl, h2⟩))
    exact ⟨x, by omega, h4⟩
def fwS (e : Nat → Nat → Prop) (g : Nat → Int) : Prop := ∀ a b, a < 8 → b < 8 → (0 ≤ g (8 * a + b) ∧ g (8 * a + b) ≤ 100) ∧ (g (8 * a + b) = 100 ∨ ∃ k : Nat, g (8 * a + b) = k ∧ wlk e k a b)
def fwC (e : Nat → Nat → Prop) (m : Nat) (g : Nat → Int) (a b : Nat) : Prop := ∀ k : Nat, wm e m k a b → g (8 * a + b) ≤ k
def fwA (e : Nat → Nat → Prop) (m : Nat) (g : Nat → Int) : Prop := ∀ x y, x < 8 → y < 8 → fwC e m g x y
def mn (a b : Int) : Int := if a ≤ b then a else b
theorem fw_step {e : Nat → Nat → Prop} {g : Nat → Int} {m a b : Nat} (hs : fwS e g) (hc : fwA e m g) (hm : m < 8) (ha : a < 8) (hb : b < 8) :
    fwS e (jU g (8 * a + b) (mn (g (8 * a + b)) (g (8 * a + m) + g (8 * m + b)))) ∧ fwA e m (jU g (8 * a + b) (mn (g (8 * a + b)) (g (8 * a + m) + g (8 * m + b)))) ∧ fwC e (m + 1) (jU g (8 * a + b) (mn (g (8 * a + b)) (g (8 * a + m) + g (8 * m + b)))) a b := by
  have h1 := hs a b ha hb
  have h2 := hs a m ha hm
  have h3 := hs m b hm hb
  refine ⟨fun x y hx hy => ?_, fun x y hx hy k hk => ?_, fun k hk => ?_⟩
  · by_cases hxy : 8 * x + y = 8 * a + b
    · obtain rfl : x = a := by omega
      obtain rfl : y = b := by omega
      rw [jU_s]
      unfold mn
      split
      · exact h1
      · refine ⟨by omega, Or.inr ?_⟩
        rcases h2.2 with h2e | ⟨k1, e1, w1⟩
        · omega
        · rcases h3.2 with h3e | ⟨k2, e2, w2⟩
          · omega
          · exact ⟨k1 + k2, by omega, wlk_app _ _ _ _ _ w1 w2⟩
    · rw [jU_n hxy]; exact hs x y hx hy
  · by_cases hxy : 8 * x + y = 8 * a + b
    · obtain rfl : x = a := by omega
      obtain rfl : y = b := by omega
      rw [jU_s]
      have := hc x y hx hy k hk
      unfold mn
      split <;> omega
    · rw [jU_n hxy]; exact hc x y hx hy k hk
  · rw [jU_s]
    unfold mn
    rcases hk with hk | ⟨k1, k2, h12, w1, w2⟩
    · have := hc a b ha hb k hk
      split <;> omega
    · have := hc a m ha hm k1 w1
      have := hc m b hm hb k2 w2
      split <;> omega
theorem fw_end {e : Nat → Nat → Prop} {g : Nat → Int} (he : ∀ x y, e x y → y < 8) (hs : fwS e g) (hc : fwA e 8 g) {a b : Nat} (ha : a < 8) (hb : b < 8) : isD e a b 100 (g (8 * a + b)) := by
  refine isD_of he ha ?_ (by omega) (fun j hj hw => ?_)
  · exact (hs a b ha hb).2
  · obtain ⟨k', hk', h⟩ := wlk_wm j a b hw
    have := hc a b ha hb k' h
    omega
/-- as the rows stand at first -/
def fwI (e : Nat → Nat → Prop) (a b : Nat) (v : Int) : Prop := (a = b ∧ v = 0) ∨ (a ≠ b ∧ e a b ∧ v = 1) ∨ (a ≠ b ∧ ¬ e a b ∧ v = 100)
theorem fw_0 {e : Nat → Nat → Prop} {g : Nat → Int} (h : ∀ a b, a < 8 → b < 8 → fwI e a b (g (8 * a + b))) : fwS e g ∧ fwA e 0 g := by
  refine ⟨fun a b ha hb => ?_, fun a b ha hb k hk => ?_⟩
  · rcases h a b ha hb with ⟨e1, e2⟩ | ⟨e1, e2, e3⟩ | ⟨e1, e2, e3⟩
    · exact ⟨by omega, Or.inr ⟨0, by omega, e1⟩⟩
    · exact ⟨by omega, Or.inr ⟨1, by omega, wlk_1 ha e2⟩⟩
    · exact ⟨by omega, Or.inl e3⟩
  · rcases h a b ha hb with ⟨e1, e2⟩ | ⟨e1, e2, e3⟩ | ⟨e1, e2, e3⟩
    · omega
    · rcases hk with ⟨h1, h2⟩ | ⟨h1, h2⟩ <;> omega
    · rcases hk with ⟨h1, h2⟩ | ⟨h1, h2⟩
      · omega
      · exact absurd h2 e2
theorem fwC_up {e : Nat → Nat → Prop} {m : Nat} {g : Nat → Int} {a b : Nat} (h : fwC e (m + 1) g a b) : fwC e m g a b := fun k hk => h k (Or.inl hk)
abbrev G_X2_measure (X : jX) (R : jMR) (n : Nat) (As : List jV) (I : jMI) (q : jMI → Prop) : Prop := CG X yX2_measure cX2_measure 5 none 1 0 0 As I R n (jGv R n q)
abbrev SG_X2_measure (X : jX) (R : jMR) (n : Nat) (pc : Nat) (L : List (Option jV)) (st : List jV) (I : jMI) (q : jMI → Prop) : Prop := J X RX2 "measure" cX2_measure 5 none 1 0 0 pc L st I R n (jGv R n q)
set_option maxHeartbeats 4000000 in
theorem g_measure2 (X : jX) (R : jMR) (n : Nat) (I : jMI) (hR : R 2 = RF 2) (hn : 18 ≤ n) (e : Nat → Nat → Prop) (hlt : ∀ x y, e x y → y < 8) (he : ∀ a b, a < 8 → b < 8 → (-1 ≤ I 10 (8 * a + b) ∧ I 10 (8 * a + b) ≤ 9) ∧ (e a b ↔ I 10 (8 * a + b) ≠ -1)) : G_X2_measure X R n [jR 2] I (fun I' => ∃ g, I' = jSf I 11 g ∧ ∀ a b, a < 8 → b < 8 → isD e a b 100 (g (8 * a + b))) := by
  refine CG.of (by decide) [some (jR 2), none, none, none, none] rfl (Nat.le_of_ble_eq_true rfl) ?_
  have k71 : ∀ (m : Nat) (g : Nat → Int), m ≤ 8 → fwS e g → fwA e m g → ∀ x2 x3 x4, SG_X2_measure X R n 71 [some (jR 2), some (jI m), x2, x3, x4] [] (jSf I 11 g) (fun I' => ∃ g, I' = jSf I 11 g ∧ ∀ a b, a < 8 → b < 8 → isD e a b 100 (g (8 * a + b))) := by
    refine mu2 (fun m _ => 8 - m) _ (fun m g ih hm hs hc x2 x3 x4 => ?_)
    have k79 : m < 8 → ∀ (a : Nat) (g : Nat → Int), a ≤ 8 → fwS e g → fwA e m g → (∀ x y, x < a → y < 8 → fwC e (m + 1) g x y) → ∀ x3 x4, SG_X2_measure X R n 79 [some (jR 2), some (jI m), some (jI a), x3, x4] [] (jSf I 11 g) (fun I' => ∃ g, I' = jSf I 11 g ∧ ∀ a b, a < 8 → b < 8 → isD e a b 100 (g (8 * a + b))) := by
      intro hm8
      refine mu2 (fun a _ => 8 - a) _ (fun a g iha ha hs hc hd x3 x4 => ?_)
      have k87 : a < 8 → ∀ (b : Nat) (g : Nat → Int), b ≤ 8 → fwS e g → fwA e m g → (∀ x y, x < a → y < 8 → fwC e (m + 1) g x y) → (∀ y, y < b → fwC e (m + 1) g a y) → ∀ x4, SG_X2_measure X R n 87 [some (jR 2), some (jI m), some (jI a), some (jI b), x4] [] (jSf I 11 g) (fun I' => ∃ g, I' = jSf I 11 g ∧ ∀ a b, a < 8 → b < 8 → isD e a b 100 (g (8 * a + b))) := by
        intro ha8
        refine mu2 (fun b _ => 8 - b) _ (fun b g ihb hb hs hc hd hf x4 => ?_)
        refine j_iload_n (pc := 87) dX2_measure_87 rfl ?_
        refine j_bipush (pc := 88) dX2_measure_88 (by decide) ?_
        refine j_icmp_ge (pc := 90) 147 dX2_measure_90 (by decide) (by omega) (by omega) (fun h_90 => ?_) (fun h_90 => ?_)
        · refine j_iinc2 (pc := 147) dX2_measure_147 (by decide) rfl ?_
          refine j_goto (pc := 150) 79 dX2_measure_150 (by decide) ?_
          obtain rfl : b = 8 := by omega
          exact iha (a + 1) g (by omega) (by omega) hs hc (fun x y hx hy => by
            by_cases hxa : x = a
            · subst hxa; exact hf y hy
            · exact hd x y (by omega) hy) _ _
        · refine j_aload_n (pc := 93) dX2_measure_93 rfl ?_
          refine j_getR (pc := 94) f_X2_37 dX2_measure_94 rfl rfl (by omega) ((congrFun hR _).trans rfl) ?_
          refine j_iload_n (pc := 97) dX2_measure_97 rfl ?_
          refine j_iload_n (pc := 98) dX2_measure_98 rfl ?_
          refine j_goIg (pc := 99) (j_runSN k_X2_77 m_X11_pair (g_pair X R n (jSf I 11 g) a m) dX2_measure_99 (by decide) rfl rfl (Nat.le_of_ble_eq_true rfl)) (fun r1 I1 h1 => ?_)
          obtain ⟨rfl, rfl⟩ := h1
          refine j_iald_a (pc := 102) (8 * a + m) dX2_measure_102 rfl (by omega) (by decide) (by omega) (by omega) ?_
          refine j_aload_n (pc := 103) dX2_measure_103 rfl ?_
          refine j_getR (pc := 104) f_X2_37 dX2_measure_104 rfl rfl (by omega) ((congrFun hR _).trans rfl) ?_
          refine j_iload_n (pc := 107) dX2_measure_107 rfl ?_
          refine j_iload_n (pc := 108) dX2_measure_108 rfl ?_
          refine j_goIg (pc := 109) (j_runSN k_X2_77 m_X11_pair (g_pair X R n (jSf I 11 g) m b) dX2_measure_109 (by decide) rfl rfl (Nat.le_of_ble_eq_true rfl)) (fun r2 I2 h2 => ?_)
          obtain ⟨rfl, rfl⟩ := h2
          refine j_iald_a (pc := 112) (8 * m + b) dX2_measure_112 rfl (by omega) (by decide) (by omega) (by omega) ?_
          refine j_iadd (pc := 113) dX2_measure_113 ?_
          refine j_istore4 (pc := 114) dX2_measure_114 (by decide) rfl ?_
          refine j_aload_n (pc := 116) dX2_measure_116 rfl ?_
          refine j_getR (pc := 117) f_X2_37 dX2_measure_117 rfl rfl (by omega) ((congrFun hR _).trans rfl) ?_
          refine j_iload_n (pc := 120) dX2_measure_120 rfl ?_
          refine j_iload_n (pc := 121) dX2_measure_121 rfl ?_
          refine j_goIg (pc := 122) (j_runSN k_X2_77 m_X11_pair (g_pair X R n (jSf I 11 g) a b) dX2_measure_122 (by decide) rfl rfl (Nat.le_of_ble_eq_true rfl)) (fun r3 I3 h3 => ?_)
          obtain ⟨rfl, rfl⟩ := h3
          refine j_aload_n (pc := 125) dX2_measure_125 rfl ?_
          refine j_getR (pc := 126) f_X2_37 dX2_measure_126 rfl rfl (by omega) ((congrFun hR _).trans rfl) ?_
          refine j_iload_n (pc := 129) dX2_measure_129 rfl ?_
          refine j_iload_n (pc := 130) dX2_measure_130 rfl ?_
          refine j_goIg (pc := 131) (j_runSN k_X2_77 m_X11_pair (g_pair X R n (jSf I 11 g) a b) dX2_measure_131 (by decide) rfl rfl (Nat.le_of_ble_eq_true rfl)) (fun r4 I4 h4 => ?_)
          obtain ⟨rfl, rfl⟩ := h4
          refine j_iald_a (pc := 134) (8 * a + b) dX2_measure_134 rfl (by omega) (by decide) (by omega) (by omega) ?_
          have q1 := (hs a b (by omega) (by omega)).1
          have q2 := (hs a m (by omega) (by omega)).1
          have q3 := (hs m b (by omega) (by omega)).1
          refine j_iload (pc := 135) dX2_measure_135 rfl ?_
          refine j_goIg (pc := 137) (j_runS k_X2_81 m_J9_min_7cf53 (g_min X R n (jSf I 11 g) (g (8 * a + b)) (g (8 * a + m) + g (8 * m + b)) (by omega) (by omega)) dX2_measure_137 (by decide) rfl rfl (Nat.le_of_ble_eq_true rfl)) (fun r5 I5 h5 => ?_)
          obtain ⟨h5, rfl⟩ := h5
          obtain rfl : r5 = mn (g (8 * a + b)) (g (8 * a + m) + g (8 * m + b)) := h5
          refine j_iast_a (pc := 140) (8 * a + b) dX2_measure_140 rfl (by omega) (by decide) (by omega) (by omega) ?_
          refine j_iinc3 (pc := 141) dX2_measure_141 (by decide) rfl ?_
          refine j_goto (pc := 144) 87 dX2_measure_144 (by decide) ?_
          obtain ⟨f1, f2, f3⟩ := fw_step hs hc hm8 ha8 (show b < 8 by omega)
          refine ihb (b + 1) _ (by omega) (by omega) f1 f2 (fun x y hx hy k hk => ?_) (fun y hy k hk => ?_) _
          · rw [jU_n (by omega)]; exact hd x y hx hy k hk
          · by_cases hyb : y = b
            · subst hyb; exact f3 k hk
            · rw [jU_n (by omega)]; exact hf y (by omega) k hk
      refine j_iload_n (pc := 79) dX2_measure_79 rfl ?_
      refine j_bipush (pc := 80) dX2_measure_80 (by decide) ?_
      refine j_icmp_ge (pc := 82) 153 dX2_measure_82 (by decide) (by omega) (by omega) (fun h_82 => ?_) (fun h_82 => ?_)
      · refine j_iinc1 (pc := 153) dX2_measure_153 (by decide) rfl ?_
        refine j_goto (pc := 156) 71 dX2_measure_156 (by decide) ?_
        obtain rfl : a = 8 := by omega
        exact ih (m + 1) g (by omega) (by omega) hs (fun x y hx hy => hd x y hx hy) _ _ _
      · refine j_iconst (pc := 85) dX2_measure_85 ?_
        refine j_istore_n3 (pc := 86) dX2_measure_86 (by decide) rfl ?_
        exact k87 (by omega) 0 g (by omega) hs hc hd (fun y hy => by omega) _
    refine j_iload_n (pc := 71) dX2_measure_71 rfl ?_
    refine j_bipush (pc := 72) dX2_measure_72 (by decide) ?_
    refine j_icmp_ge (pc := 74) 159 dX2_measure_74 (by decide) (by omega) (by omega) (fun h_74 => ?_) (fun h_74 => ?_)
    · refine j_retvg dX2_measure_159 (?_) rfl
      obtain rfl : m = 8 := by omega
      exact ⟨g, rfl, fun a b ha hb => fw_end hlt hs hc ha hb⟩
    · refine j_iconst (pc := 77) dX2_measure_77 ?_
      refine j_istore_n2 (pc := 78) dX2_measure_78 (by decide) rfl ?_
      exact k79 (by omega) 0 g (by omega) hs hc (fun x y hx hy => by omega) _ _
  have k2 : ∀ (a : Nat) (g : Nat → Int), a ≤ 8 → (∀ x y, x < a → y < 8 → fwI e x y (g (8 * x + y))) → ∀ x2 x3 x4, SG_X2_measure X R n 2 [some (jR 2), some (jI a), x2, x3, x4] [] (jSf I 11 g) (fun I' => ∃ g, I' = jSf I 11 g ∧ ∀ a b, a < 8 → b < 8 → isD e a b 100 (g (8 * a + b))) := by
    refine mu2 (fun a _ => 8 - a) _ (fun a g ih ha hg x2 x3 x4 => ?_)
    have k10 : a < 8 → ∀ (b : Nat) (g : Nat → Int), b ≤ 8 → (∀ x y, x < a → y < 8 → fwI e x y (g (8 * x + y))) → (∀ y, y < b → fwI e a y (g (8 * a + y))) → ∀ x3 x4, SG_X2_measure X R n 10 [some (jR 2), some (jI a), some (jI b), x3, x4] [] (jSf I 11 g) (fun I' => ∃ g, I' = jSf I 11 g ∧ ∀ a b, a < 8 → b < 8 → isD e a b 100 (g (8 * a + b))) := by
      intro ha8
      refine mu2 (fun b _ => 8 - b) _ (fun b g ihb hb hg hf x3 x4 => ?_)
      have k56 : b < 8 → ∀ (v w : Int), fwI e a b v → SG_X2_measure X R n 56 [some (jR 2), some (jI a), some (jI b), some (jI w), x4] [jI v, jI ((a : Int) * 8 + b), jR 11] (jSf I 11 g) (fun I' => ∃ g, I' = jSf I 11 g ∧ ∀ a b, a < 8 → b < 8 → isD e a b 100 (g (8 * a + b))) := by
        intro hb8 v w hv
        refine j_iast_a (pc := 56) (8 * a + b) dX2_measure_56 rfl (by omega) (by decide) (by omega) (by omega) ?_
        refine j_iinc2 (pc := 57) dX2_measure_57 (by decide) rfl ?_
        refine j_goto (pc := 60) 10 dX2_measure_60 (by decide) ?_
        refine ihb (b + 1) _ (by omega) (by omega) (fun x y hx hy => ?_) (fun y hy => ?_) _ _
        · rw [jU_n (by omega)]; exact hg x y hx hy
        · by_cases hyb : y = b
          · subst hyb; rw [jU_s]; exact hv
          · rw [jU_n (by omega)]; exact hf y (by omega)
      refine j_iload_n (pc := 10) dX2_measure_10 rfl ?_
      refine j_bipush (pc := 11) dX2_measure_11 (by decide) ?_
      refine j_icmp_ge (pc := 13) 63 dX2_measure_13 (by decide) (by omega) (by omega) (fun h_13 => ?_) (fun h_13 => ?_)
      · refine j_iinc1 (pc := 63) dX2_measure_63 (by decide) rfl ?_
        refine j_goto (pc := 66) 2 dX2_measure_66 (by decide) ?_
        obtain rfl : b = 8 := by omega
        exact ih (a + 1) g (by omega) (by omega) (fun x y hx hy => by
          by_cases hxa : x = a
          · subst hxa; exact hf y hy
          · exact hg x y (by omega) hy) _ _ _
      · refine j_aload_n (pc := 16) dX2_measure_16 rfl ?_
        refine j_getR (pc := 17) f_X2_33 dX2_measure_17 rfl rfl (by omega) ((congrFun hR _).trans rfl) ?_
        refine j_iload_n (pc := 20) dX2_measure_20 rfl ?_
        refine j_iload_n (pc := 21) dX2_measure_21 rfl ?_
        refine j_goIg (pc := 22) (j_runSN k_X2_77 m_X11_pair (g_pair X R n (jSf I 11 g) a b) dX2_measure_22 (by decide) rfl rfl (Nat.le_of_ble_eq_true rfl)) (fun r1 I1 h1 => ?_)
        obtain ⟨rfl, rfl⟩ := h1
        refine j_iald_c (pc := 25) (8 * a + b) dX2_measure_25 rfl (by omega) (by decide) (by omega) (by omega) (by decide) ?_
        have hev := he a b (by omega) (by omega)
        refine j_iconst (pc := 26) dX2_measure_26 ?_
        refine j_icmp_ne (pc := 27) 35 dX2_measure_27 (by decide) (by omega) (by omega) (fun h_27 => ?_) (fun h_27 => ?_)
        · refine j_iconst (pc := 35) dX2_measure_35 ?_
          refine j_istore_n3 (pc := 36) dX2_measure_36 (by decide) rfl ?_
          refine j_aload_n (pc := 37) dX2_measure_37 rfl ?_
          refine j_getR (pc := 38) f_X2_37 dX2_measure_38 rfl rfl (by omega) ((congrFun hR _).trans rfl) ?_
          refine j_iload_n (pc := 41) dX2_measure_41 rfl ?_
          refine j_iload_n (pc := 42) dX2_measure_42 rfl ?_
          refine j_goIg (pc := 43) (j_runSN k_X2_77 m_X11_pair (g_pair X R n (jSf I 11 g) a b) dX2_measure_43 (by decide) rfl rfl (Nat.le_of_ble_eq_true rfl)) (fun r2 I2 h2 => ?_)
          obtain ⟨rfl, rfl⟩ := h2
          refine j_iload_n (pc := 46) dX2_measure_46 rfl ?_
          refine j_iload_n (pc := 47) dX2_measure_47 rfl ?_
          refine j_icmp_ne (pc := 48) 55 dX2_measure_48 (by decide) (by omega) (by omega) (fun h_48 => ?_) (fun h_48 => ?_)
          · refine j_iload_n (pc := 55) dX2_measure_55 rfl ?_
            refine k56 (by omega) _ _ ?_
            first
              | exact Or.inl ⟨by omega, rfl⟩
              | exact Or.inr (Or.inl ⟨by omega, hev.2.mpr (by omega), rfl⟩)
              | exact Or.inr (Or.inr ⟨by omega, fun h => (hev.2.mp h) (by omega), rfl⟩)
          · refine j_iconst (pc := 51) dX2_measure_51 ?_
            refine j_goto (pc := 52) 56 dX2_measure_52 (by decide) ?_
            refine k56 (by omega) _ _ ?_
            first
              | exact Or.inl ⟨by omega, rfl⟩
              | exact Or.inr (Or.inl ⟨by omega, hev.2.mpr (by omega), rfl⟩)
              | exact Or.inr (Or.inr ⟨by omega, fun h => (hev.2.mp h) (by omega), rfl⟩)
        · refine j_bipush (pc := 30) dX2_measure_30 (by decide) ?_
          refine j_goto (pc := 32) 36 dX2_measure_32 (by decide) ?_
          refine j_istore_n3 (pc := 36) dX2_measure_36 (by decide) rfl ?_
          refine j_aload_n (pc := 37) dX2_measure_37 rfl ?_
          refine j_getR (pc := 38) f_X2_37 dX2_measure_38 rfl rfl (by omega) ((congrFun hR _).trans rfl) ?_
          refine j_iload_n (pc := 41) dX2_measure_41 rfl ?_
          refine j_iload_n (pc := 42) dX2_measure_42 rfl ?_
          refine j_goIg (pc := 43) (j_runSN k_X2_77 m_X11_pair (g_pair X R n (jSf I 11 g) a b) dX2_measure_43 (by decide) rfl rfl (Nat.le_of_ble_eq_true rfl)) (fun r2 I2 h2 => ?_)
          obtain ⟨rfl, rfl⟩ := h2
          refine j_iload_n (pc := 46) dX2_measure_46 rfl ?_
          refine j_iload_n (pc := 47) dX2_measure_47 rfl ?_
          refine j_icmp_ne (pc := 48) 55 dX2_measure_48 (by decide) (by omega) (by omega) (fun h_48 => ?_) (fun h_48 => ?_)
          · refine j_iload_n (pc := 55) dX2_measure_55 rfl ?_
            refine k56 (by omega) _ _ ?_
            first
              | exact Or.inl ⟨by omega, rfl⟩
              | exact Or.inr (Or.inl ⟨by omega, hev.2.mpr (by omega), rfl⟩)
              | exact Or.inr (Or.inr ⟨by omega, fun h => (hev.2.mp h) (by omega), rfl⟩)
          · refine j_iconst (pc := 51) dX2_measure_51 ?_
            refine j_goto (pc := 52) 56 dX2_measure_52 (by decide) ?_
            refine k56 (by omega) _ _ ?_
            first
              | exact Or.inl ⟨by omega, rfl⟩
              | exact Or.inr (Or.inl ⟨by omega, hev.2.mpr (by omega), rfl⟩)
              | exact Or.inr (Or.inr ⟨by omega, fun h => (hev.2.mp h) (by omega), rfl⟩)
    refine j_iload_n (pc := 2) dX2_measure_2 rfl ?_
    refine j_bipush (pc := 3) dX2_measure_3 (by decide) ?_
    refine j_icmp_ge (pc := 5) 69 dX2_measure_5 (by decide) (by omega) (by omega) (fun h_5 => ?_) (fun h_5 => ?_)
    · refine j_iconst (pc := 69) dX2_measure_69 ?_
      refine j_istore_n1 (pc := 70) dX2_measure_70 (by decide) rfl ?_
      obtain rfl : a = 8 := by omega
      obtain ⟨f1, f2⟩ := fw_0 hg
      exact k71 0 g (by omega) f1 f2 _ _ _
    · refine j_iconst (pc := 8) dX2_measure_8 ?_
      refine j_istore_n2 (pc := 9) dX2_measure_9 (by decide) rfl ?_
      exact k10 (by omega) 0 g (by omega) hg (fun y hy => by omega) _ _
  refine j_iconst (pc := 0) dX2_measure_0 ?_
  refine j_istore_n1 (pc := 1) dX2_measure_1 (by decide) rfl ?_
  have hy := k2 0 (I 11) (by omega) (fun x y hx hy => by omega) none none none
  rw [jSf_i] at hy
  exact hy
set_option maxHeartbeats 4000000 in
theorem g_measure28 (X : jX) (R : jMR) (n : Nat) (I : jMI) (hR : R 28 = RF 28) (hn : 44 ≤ n) (e : Nat → Nat → Prop) (hlt : ∀ x y, e x y → y < 8) (he : ∀ a b, a < 8 → b < 8 → (-1 ≤ I 36 (8 * a + b) ∧ I 36 (8 * a + b) ≤ 9) ∧ (e a b ↔ I 36 (8 * a + b) ≠ -1)) : G_X2_measure X R n [jR 28] I (fun I' => ∃ g, I' = jSf I 37 g ∧ ∀ a b, a < 8 → b < 8 → isD e a b 100 (g (8 * a + b))) := by
  refine CG.of (by decide) [some (jR 28), none, none, none, none] rfl (Nat.le_of_ble_eq_true rfl) ?_
  have k71 : ∀ (m : Nat) (g : Nat → Int), m ≤ 8 → fwS e g → fwA e m g → ∀ x2 x3 x4, SG_X2_measure X R n 71 [some (jR 28), some (jI m), x2, x3, x4] [] (jSf I 37 g) (fun I' => ∃ g, I' = jSf I 37 g ∧ ∀ a b, a < 8 → b < 8 → isD e a b 100 (g (8 * a + b))) := by
    refine mu2 (fun m _ => 8 - m) _ (fun m g ih hm hs hc x2 x3 x4 => ?_)
    have k79 : m < 8 → ∀ (a : Nat) (g : Nat → Int), a ≤ 8 → fwS e g → fwA e m g → (∀ x y, x < a → y < 8 → fwC e (m + 1) g x y) → ∀ x3 x4, SG_X2_measure X R n 79 [some (jR 28), some (jI m), some (jI a), x3, x4] [] (jSf I 37 g) (fun I' => ∃ g, I' = jSf I 37 g ∧ ∀ a b, a < 8 → b < 8 → isD e a b 100 (g (8 * a + b))) := by
      intro hm8
      refine mu2 (fun a _ => 8 - a) _ (fun a g iha ha hs hc hd x3 x4 => ?_)
      have k87 : a < 8 → ∀ (b : Nat) (g : Nat → Int), b ≤ 8 → fwS e g → fwA e m g → (∀ x y, x < a → y < 8 → fwC e (m + 1) g x y) → (∀ y, y < b → fwC e (m + 1) g a y) → ∀ x4, SG_X2_measure X R n 87 [some (jR 28), some (jI m), some (jI a), some (jI b), x4] [] (jSf I 37 g) (fun I' => ∃ g, I' = jSf I 37 g ∧ ∀ a b, a < 8 → b < 8 → isD e a b 100 (g (8 * a + b))) := by
        intro ha8
        refine mu2 (fun b _ => 8 - b) _ (fun b g ihb hb hs hc hd hf x4 => ?_)
        refine j_iload_n (pc := 87) dX2_measure_87 rfl ?_
        refine j_bipush (pc := 88) dX2_measure_88 (by decide) ?_
        refine j_icmp_ge (pc := 90) 147 dX2_measure_90 (by decide) (by omega) (by omega) (fun h_90 => ?_) (fun h_90 => ?_)
        · refine j_iinc2 (pc := 147) dX2_measure_147 (by decide) rfl ?_
          refine j_goto (pc := 150) 79 dX2_measure_150 (by decide) ?_
          obtain rfl : b = 8 := by omega
          exact iha (a + 1) g (by omega) (by omega) hs hc (fun x y hx hy => by
            by_cases hxa : x = a
            · subst hxa; exact hf y hy
            · exact hd x y (by omega) hy) _ _
        · refine j_aload_n (pc := 93) dX2_measure_93 rfl ?_
          refine j_getR (pc := 94) f_X2_37 dX2_measure_94 rfl rfl (by omega) ((congrFun hR _).trans rfl) ?_
          refine j_iload_n (pc := 97) dX2_measure_97 rfl ?_
          refine j_iload_n (pc := 98) dX2_measure_98 rfl ?_
          refine j_goIg (pc := 99) (j_runSN k_X2_77 m_X11_pair (g_pair X R n (jSf I 37 g) a m) dX2_measure_99 (by decide) rfl rfl (Nat.le_of_ble_eq_true rfl)) (fun r1 I1 h1 => ?_)
          obtain ⟨rfl, rfl⟩ := h1
          refine j_iald_a (pc := 102) (8 * a + m) dX2_measure_102 rfl (by omega) (by decide) (by omega) (by omega) ?_
          refine j_aload_n (pc := 103) dX2_measure_103 rfl ?_
          refine j_getR (pc := 104) f_X2_37 dX2_measure_104 rfl rfl (by omega) ((congrFun hR _).trans rfl) ?_
          refine j_iload_n (pc := 107) dX2_measure_107 rfl ?_
          refine j_iload_n (pc := 108) dX2_measure_108 rfl ?_
          refine j_goIg (pc := 109) (j_runSN k_X2_77 m_X11_pair (g_pair X R n (jSf I 37 g) m b) dX2_measure_109 (by decide) rfl rfl (Nat.le_of_ble_eq_true rfl)) (fun r2 I2 h2 => ?_)
          obtain ⟨rfl, rfl⟩ := h2
          refine j_iald_a (pc := 112) (8 * m + b) dX2_measure_112 rfl (by omega) (by decide) (by omega) (by omega) ?_
          refine j_iadd (pc := 113) dX2_measure_113 ?_
          refine j_istore4 (pc := 114) dX2_measure_114 (by decide) rfl ?_
          refine j_aload_n (pc := 116) dX2_measure_116 rfl ?_
          refine j_getR (pc := 117) f_X2_37 dX2_measure_117 rfl rfl (by omega) ((congrFun hR _).trans rfl) ?_
          refine j_iload_n (pc := 120) dX2_measure_120 rfl ?_
          refine j_iload_n (pc := 121) dX2_measure_121 rfl ?_
          refine j_goIg (pc := 122) (j_runSN k_X2_77 m_X11_pair (g_pair X R n (jSf I 37 g) a b) dX2_measure_122 (by decide) rfl rfl (Nat.le_of_ble_eq_true rfl)) (fun r3 I3 h3 => ?_)
          obtain ⟨rfl, rfl⟩ := h3
          refine j_aload_n (pc := 125) dX2_measure_125 rfl ?_
          refine j_getR (pc := 126) f_X2_37 dX2_measure_126 rfl rfl (by omega) ((congrFun hR _).trans rfl) ?_
          refine j_iload_n (pc := 129) dX2_measure_129 rfl ?_
          refine j_iload_n (pc := 130) dX2_measure_130 rfl ?_
          refine j_goIg (pc := 131) (j_runSN k_X2_77 m_X11_pair (g_pair X R n (jSf I 37 g) a b) dX2_measure_131 (by decide) rfl rfl (Nat.le_of_ble_eq_true rfl)) (fun r4 I4 h4 => ?_)
          obtain ⟨rfl, rfl⟩ := h4
          refine j_iald_a (pc := 134) (8 * a + b) dX2_measure_134 rfl (by omega) (by decide) (by omega) (by omega) ?_
          have q1 := (hs a b (by omega) (by omega)).1
          have q2 := (hs a m (by omega) (by omega)).1
          have q3 := (hs m b (by omega) (by omega)).1
          refine j_iload (pc := 135) dX2_measure_135 rfl ?_
          refine j_goIg (pc := 137) (j_runS k_X2_81 m_J9_min_7cf53 (g_min X R n (jSf I 37 g) (g (8 * a + b)) (g (8 * a + m) + g (8 * m + b)) (by omega) (by omega)) dX2_measure_137 (by decide) rfl rfl (Nat.le_of_ble_eq_true rfl)) (fun r5 I5 h5 => ?_)
          obtain ⟨h5, rfl⟩ := h5
          obtain rfl : r5 = mn (g (8 * a + b)) (g (8 * a + m) + g (8 * m + b)) := h5
          refine j_iast_a (pc := 140) (8 * a + b) dX2_measure_140 rfl (by omega) (by decide) (by omega) (by omega) ?_
          refine j_iinc3 (pc := 141) dX2_measure_141 (by decide) rfl ?_
          refine j_goto (pc := 144) 87 dX2_measure_144 (by decide) ?_
          obtain ⟨f1, f2, f3⟩ := fw_step hs hc hm8 ha8 (show b < 8 by omega)
          refine ihb (b + 1) _ (by omega) (by omega) f1 f2 (fun x y hx hy k hk => ?_) (fun y hy k hk => ?_) _
          · rw [jU_n (by omega)]; exact hd x y hx hy k hk
          · by_cases hyb : y = b
            · subst hyb; exact f3 k hk
            · rw [jU_n (by omega)]; exact hf y (by omega) k hk
      refine j_iload_n (pc := 79) dX2_measure_79 rfl ?_
      refine j_bipush (pc := 80) dX2_measure_80 (by decide) ?_
      refine j_icmp_ge (pc := 82) 153 dX2_measure_82 (by decide) (by omega) (by omega) (fun h_82 => ?_) (fun h_82 => ?_)
      · refine j_iinc1 (pc := 153) dX2_measure_153 (by decide) rfl ?_
        refine j_goto (pc := 156) 71 dX2_measure_156 (by decide) ?_
        obtain rfl : a = 8 := by omega
        exact ih (m + 1) g (by omega) (by omega) hs (fun x y hx hy => hd x y hx hy) _ _ _
      · refine j_iconst (pc := 85) dX2_measure_85 ?_
        refine j_istore_n3 (pc := 86) dX2_measure_86 (by decide) rfl ?_
        exact k87 (by omega) 0 g (by omega) hs hc hd (fun y hy => by omega) _
    refine j_iload_n (pc := 71) dX2_measure_71 rfl ?_
    refine j_bipush (pc := 72) dX2_measure_72 (by decide) ?_
    refine j_icmp_ge (pc := 74) 159 dX2_measure_74 (by decide) (by omega) (by omega) (fun h_74 => ?_) (fun h_74 => ?_)
    · refine j_retvg dX2_measure_159 (?_) rfl
      obtain rfl : m = 8 := by omega
      exact ⟨g, rfl, fun a b ha hb => fw_end hlt hs hc ha hb⟩
    · refine j_iconst (pc := 77) dX2_measure_77 ?_
      refine j_istore_n2 (pc := 78) dX2_measure_78 (by decide) rfl ?_
      exact k79 (by omega) 0 g (by omega) hs hc (fun x y hx hy => by omega) _ _
  have k2 : ∀ (a : Nat) (g : Nat → Int), a ≤ 8 → (∀ x y, x < a → y < 8 → fwI e x y (g (8 * x + y))) → ∀ x2 x3 x4, SG_X2_measure X R n 2 [some (jR 28), some (jI a), x2, x3, x4] [] (jSf I 37 g) (fun I' => ∃ g, I' = jSf I 37 g ∧ ∀ a b, a < 8 → b < 8 → isD e a b 100 (g (8 * a + b))) := by
    refine mu2 (fun a _ => 8 - a) _ (fun a g ih ha hg x2 x3 x4 => ?_)
    have k10 : a < 8 → ∀ (b : Nat) (g : Nat → Int), b ≤ 8 → (∀ x y, x < a → y < 8 → fwI e x y (g (8 * x + y))) → (∀ y, y < b → fwI e a y (g (8 * a + y))) → ∀ x3 x4, SG_X2_measure X R n 10 [some (jR 28), some (jI a), some (jI b), x3, x4] [] (jSf I 37 g) (fun I' => ∃ g, I' = jSf I 37 g ∧ ∀ a b, a < 8 → b < 8 → isD e a b 100 (g (8 * a + b))) := by
      intro ha8
      refine mu2 (fun b _ => 8 - b) _ (fun b g ihb hb hg hf x3 x4 => ?_)
      have k56 : b < 8 → ∀ (v w : Int), fwI e a b v → SG_X2_measure X R n 56 [some (jR 28), some (jI a), some (jI b), some (jI w), x4] [jI v, jI ((a : Int) * 8 + b), jR 37] (jSf I 37 g) (fun I' => ∃ g, I' = jSf I 37 g ∧ ∀ a b, a < 8 → b < 8 → isD e a b 100 (g (8 * a + b))) := by
        intro hb8 v w hv
        refine j_iast_a (pc := 56) (8 * a + b) dX2_measure_56 rfl (by omega) (by decide) (by omega) (by omega) ?_
        refine j_iinc2 (pc := 57) dX2_measure_57 (by decide) rfl ?_
        refine j_goto (pc := 60) 10 dX2_measure_60 (by decide) ?_
        refine ihb (b + 1) _ (by omega) (by omega) (fun x y hx hy => ?_) (fun y hy => ?_) _ _
        · rw [jU_n (by omega)]; exact hg x y hx hy
        · by_cases hyb : y = b
          · subst hyb; rw [jU_s]; exact hv
          · rw [jU_n (by omega)]; exact hf y (by omega)
      refine j_iload_n (pc := 10) dX2_measure_10 rfl ?_
      refine j_bipush (pc := 11) dX2_measure_11 (by decide) ?_
      refine j_icmp_ge (pc := 13) 63 dX2_measure_13 (by decide) (by omega) (by omega) (fun h_13 => ?_) (fun h_13 => ?_)
      · refine j_iinc1 (pc := 63) dX2_measure_63 (by decide) rfl ?_
        refine j_goto (pc := 66) 2 dX2_measure_66 (by decide) ?_
        obtain rfl : b = 8 := by omega
        exact ih (a + 1) g (by omega) (by omega) (fun x y hx hy => by
          by_cases hxa : x = a
          · subst hxa; exact hf y hy
          · exact hg x y (by omega) hy) _ _ _
      · refine j_aload_n (pc := 16) dX2_measure_16 rfl ?_
        refine j_getR (pc := 17) f_X2_33 dX2_measure_17 rfl rfl (by omega) ((congrFun hR _).trans rfl) ?_
        refine j_iload_n (pc := 20) dX2_measure_20 rfl ?_
        refine j_iload_n (pc := 21) dX2_measure_21 rfl ?_
        refine j_goIg (pc := 22) (j_runSN k_X2_77 m_X11_pair (g_pair X R n (jSf I 37 g) a b) dX2_measure_22 (by decide) rfl rfl (Nat.le_of_ble_eq_true rfl)) (fun r1 I1 h1 => ?_)
        obtain ⟨rfl, rfl⟩ := h1
        refine j_iald_c (pc := 25) (8 * a + b) dX2_measure_25 rfl (by omega) (by decide) (by omega) (by omega) (by decide) ?_
        have hev := he a b (by omega) (by omega)
        refine j_iconst (pc := 26) dX2_measure_26 ?_
        refine j_icmp_ne (pc := 27) 35 dX2_measure_27 (by decide) (by omega) (by omega) (fun h_27 => ?_) (fun h_27 => ?_)
        · refine j_iconst (pc := 35) dX2_measure_35 ?_
          refine j_istore_n3 (pc := 36) dX2_measure_36 (by decide) rfl ?_
          refine j_aload_n (pc := 37) dX2_measure_37 rfl ?_
          refine j_getR (pc := 38) f_X2_37 dX2_measure_38 rfl rfl (by omega) ((congrFun hR _).trans rfl) ?_
          refine j_iload_n (pc := 41) dX2_measure_41 rfl ?_
          refine j_iload_n (pc := 42) dX2_measure_42 rfl ?_
          refine j_goIg (pc := 43) (j_runSN k_X2_77 m_X11_pair (g_pair X R n (jSf I 37 g) a b) dX2_measure_43 (by decide) rfl rfl (Nat.le_of_ble_eq_true rfl)) (fun r2 I2 h2 => ?_)
          obtain ⟨rfl, rfl⟩ := h2
          refine j_iload_n (pc := 46) dX2_measure_46 rfl ?_
          refine j_iload_n (pc := 47) dX2_measure_47 rfl ?_
          refine j_icmp_ne (pc := 48) 55 dX2_measure_48 (by decide) (by omega) (by omega) (fun h_48 => ?_) (fun h_48 => ?_)
          · refine j_iload_n (pc := 55) dX2_measure_55 rfl ?_
            refine k56 (by omega) _ _ ?_
            first
              | exact Or.inl ⟨by omega, rfl⟩
              | exact Or.inr (Or.inl ⟨by omega, hev.2.mpr (by omega), rfl⟩)
              | exact Or.inr (Or.inr ⟨by omega, fun h => (hev.2.mp h) (by omega), rfl⟩)
          · refine j_iconst (pc := 51) dX2_measure_51 ?_
            refine j_goto (pc := 52) 56 dX2_measure_52 (by decide) ?_
            refine k56 (by omega) _ _ ?_
            first
              | exact Or.inl ⟨by omega, rfl⟩
              | exact Or.inr (Or.inl ⟨by omega, hev.2.mpr (by omega), rfl⟩)
              | exact Or.inr (Or.inr ⟨by omega, fun h => (hev.2.mp h) (by omega), rfl⟩)
        · refine j_bipush (pc := 30) dX2_measure_30 (by decide) ?_
          refine j_goto (pc := 32) 36 dX2_measure_32 (by decide) ?_
          refine j_istore_n3 (pc := 36) dX2_measure_36 (by decide) rfl ?_
          refine j_aload_n (pc := 37) dX2_measure_37 rfl ?_
          refine j_getR (pc := 38) f_X2_37 dX2_measure_38 rfl rfl (by omega) ((congrFun hR _).trans rfl) ?_
          refine j_iload_n (pc := 41) dX2_measure_41 rfl ?_
          refine j_iload_n (pc := 42) dX2_measure_42 rfl ?_
          refine j_goIg (pc := 43) (j_runSN k_X2_77 m_X11_pair (g_pair X R n (jSf I 37 g) a b) dX2_measure_43 (by decide) rfl rfl (Nat.le_of_ble_eq_true rfl)) (fun r2 I2 h2 => ?_)
          obtain ⟨rfl, rfl⟩ := h2
          refine j_iload_n (pc := 46) dX2_measure_46 rfl ?_
          refine j_iload_n (pc := 47) dX2_measure_47 rfl ?_
          refine j_icmp_ne (pc := 48) 55 dX2_measure_48 (by decide) (by omega) (by omega) (fun h_48 => ?_) (fun h_48 => ?_)
          · refine j_iload_n (pc := 55) dX2_measure_55 rfl ?_
            refine k56 (by omega) _ _ ?_
            first
              | exact Or.inl ⟨by omega, rfl⟩
              | exact Or.inr (Or.inl ⟨by omega, hev.2.mpr (by omega), rfl⟩)
              | exact Or.inr (Or.inr ⟨by omega, fun h => (hev.2.mp h) (by omega), rfl⟩)
          · refine j_iconst (pc := 51) dX2_measure_51 ?_
            refine j_goto (pc := 52) 56 dX2_measure_52 (by decide) ?_
            refine k56 (by omega) _ _ ?_
            first
              | exact Or.inl ⟨by omega, rfl⟩
              | exact Or.inr (Or.inl ⟨by omega, hev.2.mpr (by omega), rfl⟩)
              | exact Or.inr (Or.inr ⟨by omega, fun h => (hev.2.mp h) (by omega), rfl⟩)
    refine j_iload_n (pc := 2) dX2_measure_2 rfl ?_
    refine j_bipush (pc := 3) dX2_measure_3 (by decide) ?_
    refine j_icmp_ge (pc := 5) 69 dX2_measure_5 (by decide) (by omega) (by omega) (fun h_5 => ?_) (fun h_5 => ?_)
    · refine j_iconst (pc := 69) dX2_measure_69 ?_
      refine j_istore_n1 (pc := 70) dX2_measure_70 (by decide) rfl ?_
      obtain rfl : a = 8 := by omega
      obtain ⟨f1, f2⟩ := fw_0 hg
      exact k71 0 g (by omega) f1 f2 _ _ _
    · refine j_iconst (pc := 8) dX2_measure_8 ?_
      refine j_istore_n2 (pc := 9) dX2_measure_9 (by decide) rfl ?_
      exact k10 (by omega) 0 g (by omega) hg (fun y hy => by omega) _ _
  refine j_iconst (pc := 0) dX2_measure_0 ?_
  refine j_istore_n1 (pc := 1) dX2_measure_1 (by decide) rfl ?_
  have hy := k2 0 (I 37) (by omega) (fun x y hx hy => by omega) none none none
  rw [jSf_i] at hy
  exact hy
set_option maxHeartbeats 4000000 in
theorem g_measure53 (X : jX) (R : jMR) (n : Nat) (I : jMI) (hR : R 53 = RF 53) (hn : 69 ≤ n) (e : Nat → Nat → Prop) (hlt : ∀ x y, e x y → y < 8) (he : ∀ a b, a < 8 → b < 8 → (-1 ≤ I 61 (8 * a + b) ∧ I 61 (8 * a + b) ≤ 9) ∧ (e a b ↔ I 61 (8 * a + b) ≠ -1)) : G_X2_measure X R n [jR 53] I (fun I' => ∃ g, I' = jSf I 62 g ∧ ∀ a b, a < 8 → b < 8 → isD e a b 100 (g (8 * a + b))) := by
  refine CG.of (by decide) [some (jR 53), none, none, none, none] rfl (Nat.le_of_ble_eq_true rfl) ?_
  have k71 : ∀ (m : Nat) (g : Nat → Int), m ≤ 8 → fwS e g → fwA e m g → ∀ x2 x3 x4, SG_X2_measure X R n 71 [some (jR 53), some (jI m), x2, x3, x4] [] (jSf I 62 g) (fun I' => ∃ g, I' = jSf I 62 g ∧ ∀ a b, a < 8 → b < 8 → isD e a b 100 (g (8 * a + b))) := by
    refine mu2 (fun m _ => 8 - m) _ (fun m g ih hm hs hc x2 x3 x4 => ?_)
    have k79 : m < 8 → ∀ (a : Nat) (g : Nat → Int), a ≤ 8 → fwS e g → fwA e m g → (∀ x y, x < a → y < 8 → fwC e (m + 1) g x y) → ∀ x3 x4, SG_X2_measure X R n 79 [some (jR 53), some (jI m), some (jI a), x3, x4] [] (jSf I 62 g) (fun I' => ∃ g, I' = jSf I 62 g ∧ ∀ a b, a < 8 → b < 8 → isD e a b 100 (g (8 * a + b))) := by
      intro hm8
      refine mu2 (fun a _ => 8 - a) _ (fun a g iha ha hs hc hd x3 x4 => ?_)
      have k87 : a < 8 → ∀ (b : Nat) (g : Nat → Int), b ≤ 8 → fwS e g → fwA e m g → (∀ x y, x < a → y < 8 → fwC e (m + 1) g x y) → (∀ y, y < b → fwC e (m + 1) g a y) → ∀ x4, SG_X2_measure X R n 87 [some (jR 53), some (jI m), some (jI a), some (jI b), x4] [] (jSf I 62 g) (fun I' => ∃ g, I' = jSf I 62 g ∧ ∀ a b, a < 8 → b < 8 → isD e a b 100 (g (8 * a + b))) := by
        intro ha8
        refine mu2 (fun b _ => 8 - b) _ (fun b g ihb hb hs hc hd hf x4 => ?_)
        refine j_iload_n (pc := 87) dX2_measure_87 rfl ?_
        refine j_bipush (pc := 88) dX2_measure_88 (by decide) ?_
        refine j_icmp_ge (pc := 90) 147 dX2_measure_90 (by decide) (by omega) (by omega) (fun h_90 => ?_) (fun h_90 => ?_)
        · refine j_iinc2 (pc := 147) dX2_measure_147 (by decide) rfl ?_
          refine j_goto (pc := 150) 79 dX2_measure_150 (by decide) ?_
          obtain rfl : b = 8 := by omega
          exact iha (a + 1) g (by omega) (by omega) hs hc (fun x y hx hy => by
            by_cases hxa : x = a
            · subst hxa; exact hf y hy
            · exact hd x y (by omega) hy) _ _
        · refine j_aload_n (pc := 93) dX2_measure_93 rfl ?_
          refine j_getR (pc := 94) f_X2_37 dX2_measure_94 rfl rfl (by omega) ((congrFun hR _).trans rfl) ?_
          refine j_iload_n (pc := 97) dX2_measure_97 rfl ?_
          refine j_iload_n (pc := 98) dX2_measure_98 rfl ?_
          refine j_goIg (pc := 99) (j_runSN k_X2_77 m_X11_pair (g_pair X R n (jSf I 62 g) a m) dX2_measure_99 (by decide) rfl rfl (Nat.le_of_ble_eq_true rfl)) (fun r1 I1 h1 => ?_)
          obtain ⟨rfl, rfl⟩ := h1
          refine j_iald_a (pc := 102) (8 * a + m) dX2_measure_102 rfl (by omega) (by decide) (by omega) (by omega) ?_
          refine j_aload_n (pc := 103) dX2_measure_103 rfl ?_
          refine j_getR (pc := 104) f_X2_37 dX2_measure_104 rfl rfl (by omega) ((congrFun hR _).trans rfl) ?_
          refine j_iload_n (pc := 107) dX2_measure_107 rfl ?_
          refine j_iload_n (pc := 108) dX2_measure_108 rfl ?_
          refine j_goIg (pc := 109) (j_runSN k_X2_77 m_X11_pair (g_pair X R n (jSf I 62 g) m b) dX2_measure_109 (by decide) rfl rfl (Nat.le_of_ble_eq_true rfl)) (fun r2 I2 h2 => ?_)
          obtain ⟨rfl, rfl⟩ := h2
          refine j_iald_a (pc := 112) (8 * m + b) dX2_measure_112 rfl (by omega) (by decide) (by omega) (by omega) ?_
          refine j_iadd (pc := 113) dX2_measure_113 ?_
          refine j_istore4 (pc := 114) dX2_measure_114 (by decide) rfl ?_
          refine j_aload_n (pc := 116) dX2_measure_116 rfl ?_
          refine j_getR (pc := 117) f_X2_37 dX2_measure_117 rfl rfl (by omega) ((congrFun hR _).trans rfl) ?_
          refine j_iload_n (pc := 120) dX2_measure_120 rfl ?_
          refine j_iload_n (pc := 121) dX2_measure_121 rfl ?_
          refine j_goIg (pc := 122) (j_runSN k_X2_77 m_X11_pair (g_pair X R n (jSf I 62 g) a b) dX2_measure_122 (by decide) rfl rfl (Nat.le_of_ble_eq_true rfl)) (fun r3 I3 h3 => ?_)
          obtain ⟨rfl, rfl⟩ := h3
          refine j_aload_n (pc := 125) dX2_measure_125 rfl ?_
          refine j_getR (pc := 126) f_X2_37 dX2_measure_126 rfl rfl (by omega) ((congrFun hR _).trans rfl) ?_
          refine j_iload_n (pc := 129) dX2_measure_129 rfl ?_
          refine j_iload_n (pc := 130) dX2_measure_130 rfl ?_
          refine j_goIg (pc := 131) (j_runSN k_X2_77 m_X11_pair (g_pair X R n (jSf I 62 g) a b) dX2_measure_131 (by decide) rfl rfl (Nat.le_of_ble_eq_true rfl)) (fun r4 I4 h4 => ?_)
          obtain ⟨rfl, rfl⟩ := h4
          refine j_iald_a (pc := 134) (8 * a + b) dX2_measure_134 rfl (by omega) (by decide) (by omega) (by omega) ?_
          have q1 := (hs a b (by omega) (by omega)).1
          have q2 := (hs a m (by omega) (by omega)).1
          have q3 := (hs m b (by omega) (by omega)).1
          refine j_iload (pc := 135) dX2_measure_135 rfl ?_
          refine j_goIg (pc := 137) (j_runS k_X2_81 m_J9_min_7cf53 (g_min X R n (jSf I 62 g) (g (8 * a + b)) (g (8 * a + m) + g (8 * m + b)) (by omega) (by omega)) dX2_measure_137 (by decide) rfl rfl (Nat.le_of_ble_eq_true rfl)) (fun r5 I5 h5 => ?_)
          obtain ⟨h5, rfl⟩ := h5
          obtain rfl : r5 = mn (g (8 * a + b)) (g (8 * a + m) + g (8 * m + b)) := h5
          refine j_iast_a (pc := 140) (8 * a + b) dX2_measure_140 rfl (by omega) (by decide) (by omega) (by omega) ?_
          refine j_iinc3 (pc := 141) dX2_measure_141 (by decide) rfl ?_
          refine j_goto (pc := 144) 87 dX2_measure_144 (by decide) ?_
          obtain ⟨f1, f2, f3⟩ := fw_step hs hc hm8 ha8 (show b < 8 by omega)
          refine ihb (b + 1) _ (by omega) (by omega) f1 f2 (fun x y hx hy k hk => ?_) (fun y hy k hk => ?_) _
          · rw [jU_n (by omega)]; exact hd x y hx hy k hk
          · by_cases hyb : y = b
            · subst hyb; exact f3 k hk
            · rw [jU_n (by omega)]; exact hf y (by omega) k hk
      refine j_iload_n (pc := 79) dX2_measure_79 rfl ?_
      refine j_bipush (pc := 80) dX2_measure_80 (by decide) ?_
      refine j_icmp_ge (pc := 82) 153 dX2_measure_82 (by decide) (by omega) (by omega) (fun h_82 => ?_) (fun h_82 => ?_)
      · refine j_iinc1 (pc := 153) dX2_measure_153 (by decide) rfl ?_
        refine j_goto (pc := 156) 71 dX2_measure_156 (by decide) ?_
        obtain rfl : a = 8 := by omega
        exact ih (m + 1) g (by omega) (by omega) hs (fun x y hx hy => hd x y hx hy) _ _ _
      · refine j_iconst (pc := 85) dX2_measure_85 ?_
        refine j_istore_n3 (pc := 86) dX2_measure_86 (by decide) rfl ?_
        exact k87 (by omega) 0 g (by omega) hs hc hd (fun y hy => by omega) _
    refine j_iload_n (pc := 71) dX2_measure_71 rfl ?_
    refine j_bipush (pc := 72) dX2_measure_72 (by decide) ?_
    refine j_icmp_ge (pc := 74) 159 dX2_measure_74 (by decide) (by omega) (by omega) (fun h_74 => ?_) (fun h_74 => ?_)
    · refine j_retvg dX2_measure_159 (?_) rfl
      obtain rfl : m = 8 := by omega
      exact ⟨g, rfl, fun a b ha hb => fw_end hlt hs hc ha hb⟩
    · refine j_iconst (pc := 77) dX2_measure_77 ?_
      refine j_istore_n2 (pc := 78) dX2_measure_78 (by decide) rfl ?_
      exact k79 (by omega) 0 g (by omega) hs hc (fun x y hx hy => by omega) _ _
  have k2 : ∀ (a : Nat) (g : Nat → Int), a ≤ 8 → (∀ x y, x < a → y < 8 → fwI e x y (g (8 * x + y))) → ∀ x2 x3 x4, SG_X2_measure X R n 2 [some (jR 53), some (jI a), x2, x3, x4] [] (jSf I 62 g) (fun I' => ∃ g, I' = jSf I 62 g ∧ ∀ a b, a < 8 → b < 8 → isD e a b 100 (g (8 * a + b))) := by
    refine mu2 (fun a _ => 8 - a) _ (fun a g ih ha hg x2 x3 x4 => ?_)
    have k10 : a < 8 → ∀ (b : Nat) (g : Nat → Int), b ≤ 8 → (∀ x y, x < a → y < 8 → fwI e x y (g (8 * x + y))) → (∀ y, y < b → fwI e a y (g (8 * a + y))) → ∀ x3 x4, SG_X2_measure X R n 10 [some (jR 53), some (jI a), some (jI b), x3, x4] [] (jSf I 62 g) (fun I' => ∃ g, I' = jSf I 62 g ∧ ∀ a b, a < 8 → b < 8 → isD e a b 100 (g (8 * a + b))) := by
      intro ha8
      refine mu2 (fun b _ => 8 - b) _ (fun b g ihb hb hg hf x3 x4 => ?_)
      have k56 : b < 8 → ∀ (v w : Int), fwI e a b v → SG_X2_measure X R n 56 [some (jR 53), some (jI a), some (jI b), some (jI w), x4] [jI v, jI ((a : Int) * 8 + b), jR 62] (jSf I 62 g) (fun I' => ∃ g, I' = jSf I 62 g ∧ ∀ a b, a < 8 → b < 8 → isD e a b 100 (g (8 * a + b))) := by
        intro hb8 v w hv
        refine j_iast_a (pc := 56) (8 * a + b) dX2_measure_56 rfl (by omega) (by decide) (by omega) (by omega) ?_
        refine j_iinc2 (pc := 57) dX2_measure_57 (by decide) rfl ?_
        refine j_goto (pc := 60) 10 dX2_measure_60 (by decide) ?_
        refine ihb (b + 1) _ (by omega) (by omega) (fun x y hx hy => ?_) (fun y hy => ?_) _ _
        · rw [jU_n (by omega)]; exact hg x y hx hy
        · by_cases hyb : y = b
          · subst hyb; rw [jU_s]; exact hv
          · rw [jU_n (by omega)]; exact hf y (by omega)
      refine j_iload_n (pc := 10) dX2_measure_10 rfl ?_
      refine j_bipush (pc := 11) dX2_measure_11 (by decide) ?_
      refine j_icmp_ge (pc := 13) 63 dX2_measure_13 (by decide) (by omega) (by omega) (fun h_13 => ?_) (fun h_13 => ?_)
      · refine j_iinc1 (pc := 63) dX2_measure_63 (by decide) rfl ?_
        refine j_goto (pc := 66) 2 dX2_measure_66 (by decide) ?_
        obtain rfl : b = 8 := by omega
        exact ih (a + 1) g (by omega) (by omega) (fun x y hx hy => by
          by_cases hxa : x = a
          · subst hxa; exact hf y hy
          · exact hg x y (by omega) hy) _ _ _
      · refine j_aload_n (pc := 16) dX2_measure_16 rfl ?_
        refine j_getR (pc := 17) f_X2_33 dX2_measure_17 rfl rfl (by omega) ((congrFun hR _).trans rfl) ?_
        refine j_iload_n (pc := 20) dX2_measure_20 rfl ?_
        refine j_iload_n (pc := 21) dX2_measure_21 rfl ?_
        refine j_goIg (pc := 22) (j_runSN k_X2_77 m_X11_pair (g_pair X R n (jSf I 62 g) a b) dX2_measure_22 (by decide) rfl rfl (Nat.le_of_ble_eq_true rfl)) (fun r1 I1 h1 => ?_)
        obtain ⟨rfl, rfl⟩ := h1
        refine j_iald_c (pc := 25) (8 * a + b) dX2_measure_25 rfl (by omega) (by decide) (by omega) (by omega) (by decide) ?_
        have hev := he a b (by omega) (by omega)
        refine j_iconst (pc := 26) dX2_measure_26 ?_
        refine j_icmp_ne (pc := 27) 35 dX2_measure_27 (by decide) (by omega) (by omega) (fun h_27 => ?_) (fun h_27 => ?_)
        · refine j_iconst (pc := 35) dX2_measure_35 ?_
          refine j_istore_n3 (pc := 36) dX2_measure_36 (by decide) rfl ?_
          refine j_aload_n (pc := 37) dX2_measure_37 rfl ?_
          refine j_getR (pc := 38) f_X2_37 dX2_measure_38 rfl rfl (by omega) ((congrFun hR _).trans rfl) ?_
          refine j_iload_n (pc := 41) dX2_measure_41 rfl ?_
          refine j_iload_n (pc := 42) dX2_measure_42 rfl ?_
          refine j_goIg (pc := 43) (j_runSN k_X2_77 m_X11_pair (g_pair X R n (jSf I 62 g) a b) dX2_measure_43 (by decide) rfl rfl (Nat.le_of_ble_eq_true rfl)) (fun r2 I2 h2 => ?_)
          obtain ⟨rfl, rfl⟩ := h2
          refine j_iload_n (pc := 46) dX2_measure_46 rfl ?_
          refine j_iload_n (pc := 47) dX2_measure_47 rfl ?_
          refine j_icmp_ne (pc := 48) 55 dX2_measure_48 (by decide) (by omega) (by omega) (fun h_48 => ?_) (fun h_48 => ?_)
          · refine j_iload_n (pc := 55) dX2_measure_55 rfl ?_
            refine k56 (by omega) _ _ ?_
            first
              | exact Or.inl ⟨by omega, rfl⟩
              | exact Or.inr (Or.inl ⟨by omega, hev.2.mpr (by omega), rfl⟩)
              | exact Or.inr (Or.inr ⟨by omega, fun h => (hev.2.mp h) (by omega), rfl⟩)
          · refine j_iconst (pc := 51) dX2_measure_51 ?_
            refine j_goto (pc := 52) 56 dX2_measure_52 (by decide) ?_
            refine k56 (by omega) _ _ ?_
            first
              | exact Or.inl ⟨by omega, rfl⟩
              | exact Or.inr (Or.inl ⟨by omega, hev.2.mpr (by omega), rfl⟩)
              | exact Or.inr (Or.inr ⟨by omega, fun h => (hev.2.mp h) (by omega), rfl⟩)
        · refine j_bipush (pc := 30) dX2_measure_30 (by decide) ?_
          refine j_goto (pc := 32) 36 dX2_measure_32 (by decide) ?_
          refine j_istore_n3 (pc := 36) dX2_measure_36 (by decide) rfl ?_
          refine j_aload_n (pc := 37) dX2_measure_37 rfl ?_
          refine j_getR (pc := 38) f_X2_37 dX2_measure_38 rfl rfl (by omega) ((congrFun hR _).trans rfl) ?_
          refine j_iload_n (pc := 41) dX2_measure_41 rfl ?_
          refine j_iload_n (pc := 42) dX2_measure_42 rfl ?_
          refine j_goIg (pc := 43) (j_runSN k_X2_77 m_X11_pair (g_pair X R n (jSf I 62 g) a b) dX2_measure_43 (by decide) rfl rfl (Nat.le_of_ble_eq_true rfl)) (fun r2 I2 h2 => ?_)
          obtain ⟨rfl, rfl⟩ := h2
          refine j_iload_n (pc := 46) dX2_measure_46 rfl ?_
          refine j_iload_n (pc := 47) dX2_measure_47 rfl ?_
          refine j_icmp_ne (pc := 48) 55 dX2_measure_48 (by decide) (by omega) (by omega) (fun h_48 => ?_) (fun h_48 => ?_)
          · refine j_iload_n (pc := 55) dX2_measure_55 rfl ?_
            refine k56 (by omega) _ _ ?_
            first
              | exact Or.inl ⟨by omega, rfl⟩
              | exact Or.inr (Or.inl ⟨by omega, hev.2.mpr (by omega), rfl⟩)
              | exact Or.inr (Or.inr ⟨by omega, fun h => (hev.2.mp h) (by omega), rfl⟩)
          · refine j_iconst (pc := 51) dX2_measure_51 ?_
            refine j_goto (pc := 52) 56 dX2_measure_52 (by decide) ?_
            refine k56 (by omega) _ _ ?_
            first
              | exact Or.inl ⟨by omega, rfl⟩
              | exact Or.inr (Or.inl ⟨by omega, hev.2.mpr (by omega), rfl⟩)
              | exact Or.inr (Or.inr ⟨by omega, fun h => (hev.2.mp h) (by omega), rfl⟩)
    refine j_iload_n (pc := 2) dX2_measure_2 rfl ?_
    refine j_bipush (pc := 3) dX2_measure_3 (by decide) ?_
    refine j_icmp_ge (pc := 5) 69 dX2_measure_5 (by decide) (by omega) (by omega) (fun h_5 => ?_) (fun h_5 => ?_)
    · refine j_iconst (pc := 69) dX2_measure_69 ?_
      refine j_istore_n1 (pc := 70) dX2_measure_70 (by decide) rfl ?_
      obtain rfl : a = 8 := by omega
      obtain ⟨f1, f2⟩ := fw_0 hg
      exact k71 0 g (by omega) f1 f2 _ _ _
    · refine j_iconst (pc := 8) dX2_measure_8 ?_
      refine j_istore_n2 (pc := 9) dX2_measure_9 (by decide) rfl ?_
      exact k10 (by omega) 0 g (by omega) hg (fun y hy => by omega) _ _
  refine j_iconst (pc := 0) dX2_measure_0 ?_
  refine j_istore_n1 (pc := 1) dX2_measure_1 (by decide) rfl ?_
  have hy := k2 0 (I 62) (by omega) (fun x y hx hy => by omega) none none none
  rw [jSf_i] at hy
  exact hy
set_option maxHeartbeats 4000000 in
theorem g_measure80 (X : jX) (R : jMR) (n : Nat) (I : jMI) (hR : R 80 = RF 80) (hn : 96 ≤ n) (e : Nat → Nat → Prop) (hlt : ∀ x y, e x y → y < 8) (he : ∀ a b, a < 8 → b < 8 → (-1 ≤ I 88 (8 * a + b) ∧ I 88 (8 * a + b) ≤ 9) ∧ (e a b ↔ I 88 (8 * a + b) ≠ -1)) : G_X2_measure X R n [jR 80] I (fun I' => ∃ g, I' = jSf I 89 g ∧ ∀ a b, a < 8 → b < 8 → isD e a b 100 (g (8 * a + b))) := by
  refine CG.of (by decide) [some (jR 80), none, none, none, none] rfl (Nat.le_of_ble_eq_true rfl) ?_
  have k71 : ∀ (m : Nat) (g : Nat → Int), m ≤ 8 → fwS e g → fwA e m g → ∀ x2 x3 x4, SG_X2_measure X R n 71 [some (jR 80), some (jI m), x2, x3, x4] [] (jSf I 89 g) (fun I' => ∃ g, I' = jSf I 89 g ∧ ∀ a b, a < 8 → b < 8 → isD e a b 100 (g (8 * a + b))) := by
    refine mu2 (fun m _ => 8 - m) _ (fun m g ih hm hs hc x2 x3 x4 => ?_)
    have k79 : m < 8 → ∀ (a : Nat) (g : Nat → Int), a ≤ 8 → fwS e g → fwA e m g → (∀ x y, x < a → y < 8 → fwC e (m + 1) g x y) → ∀ x3 x4, SG_X2_measure X R n 79 [some (jR 80), some (jI m), some (jI a), x3, x4] [] (jSf I 89 g) (fun I' => ∃ g, I' = jSf I 89 g ∧ ∀ a b, a < 8 → b < 8 → isD e a b 100 (g (8 * a + b))) := by
      intro hm8
      refine mu2 (fun a _ => 8 - a) _ (fun a g iha ha hs hc hd x3 x4 => ?_)
      have k87 : a < 8 → ∀ (b : Nat) (g : Nat → Int), b ≤ 8 → fwS e g → fwA e m g → (∀ x y, x < a → y < 8 → fwC e (m + 1) g x y) → (∀ y, y < b → fwC e (m + 1) g a y) → ∀ x4, SG_X2_measure X R n 87 [some (jR 80), some (jI m), some (jI a), some (jI b), x4] [] (jSf I 89 g) (fun I' => ∃ g, I' = jSf I 89 g ∧ ∀ a b, a < 8 → b < 8 → isD e a b 100 (g (8 * a + b))) := by
        intro ha8
        refine mu2 (fun b _ => 8 - b) _ (fun b g ihb hb hs hc hd hf x4 => ?_)
        refine j_iload_n (pc := 87) dX2_measure_87 rfl ?_
        refine j_bipush (pc := 88) dX2_measure_88 (by decide) ?_
        refine j_icmp_ge (pc := 90) 147 dX2_measure_90 (by decide) (by omega) (by omega) (fun h_90 => ?_) (fun h_90 => ?_)
        · refine j_iinc2 (pc := 147) dX2_measure_147 (by decide) rfl ?_
          refine j_goto (pc := 150) 79 dX2_measure_150 (by decide) ?_
          obtain rfl : b = 8 := by omega
          exact iha (a + 1) g (by omega) (by omega) hs hc (fun x y hx hy => by
            by_cases hxa : x = a
            · subst hxa; exact hf y hy
            · exact hd x y (by omega) hy) _ _
        · refine j_aload_n (pc := 93) dX2_measure_93 rfl ?_
          refine j_getR (pc := 94) f_X2_37 dX2_measure_94 rfl rfl (by omega) ((congrFun hR _).trans rfl) ?_
          refine j_iload_n (pc := 97) dX2_measure_97 rfl ?_
          refine j_iload_n (pc := 98) dX2_measure_98 rfl ?_
          refine j_goIg (pc := 99) (j_runSN k_X2_77 m_X11_pair (g_pair X R n (jSf I 89 g) a m) dX2_measure_99 (by decide) rfl rfl (Nat.le_of_ble_eq_true rfl)) (fun r1 I1 h1 => ?_)
          obtain ⟨rfl, rfl⟩ := h1
          refine j_iald_a (pc := 102) (8 * a + m) dX2_measure_102 rfl (by omega) (by decide) (by omega) (by omega) ?_
          refine j_aload_n (pc := 103) dX2_measure_103 rfl ?_
          refine j_getR (pc := 104) f_X2_37 dX2_measure_104 rfl rfl (by omega) ((congrFun hR _).trans rfl) ?_
          refine j_iload_n (pc := 107) dX2_measure_107 rfl ?_
          refine j_iload_n (pc := 108) dX2_measure_108 rfl ?_
          refine j_goIg (pc := 109) (j_runSN k_X2_77 m_X11_pair (g_pair X R n (jSf I 89 g) m b) dX2_measure_109 (by decide) rfl rfl (Nat.le_of_ble_eq_true rfl)) (fun r2 I2 h2 => ?_)
          obtain ⟨rfl, rfl⟩ := h2
          refine j_iald_a (pc := 112) (8 * m + b) dX2_measure_112 rfl (by omega) (by decide) (by omega) (by omega) ?_
          refine j_iadd (pc := 113) dX2_measure_113 ?_
          refine j_istore4 (pc := 114) dX2_measure_114 (by decide) rfl ?_
          refine j_aload_n (pc := 116) dX2_measure_116 rfl ?_
          refine j_getR (pc := 117) f_X2_37 dX2_measure_117 rfl rfl (by omega) ((congrFun hR _).trans rfl) ?_
          refine j_iload_n (pc := 120) dX2_measure_120 rfl ?_
          refine j_iload_n (pc := 121) dX2_measure_121 rfl ?_
          refine j_goIg (pc := 122) (j_runSN k_X2_77 m_X11_pair (g_pair X R n (jSf I 89 g) a b) dX2_measure_122 (by decide) rfl rfl (Nat.le_of_ble_eq_true rfl)) (fun r3 I3 h3 => ?_)
          obtain ⟨rfl, rfl⟩ := h3
          refine j_aload_n (pc := 125) dX2_measure_125 rfl ?_
          refine j_getR (pc := 126) f_X2_37 dX2_measure_126 rfl rfl (by omega) ((congrFun hR _).trans rfl) ?_
          refine j_iload_n (pc := 129) dX2_measure_129 rfl ?_
          refine j_iload_n (pc := 130) dX2_measure_130 rfl ?_
          refine j_goIg (pc := 131) (j_runSN k_X2_77 m_X11_pair (g_pair X R n (jSf I 89 g) a b) dX2_measure_131 (by decide) rfl rfl (Nat.le_of_ble_eq_true rfl)) (fun r4 I4 h4 => ?_)
          obtain ⟨rfl, rfl⟩ := h4
          refine j_iald_a (pc := 134) (8 * a + b) dX2_measure_134 rfl (by omega) (by decide) (by omega) (by omega) ?_
          have q1 := (hs a b (by omega) (by omega)).1
          have q2 := (hs a m (by omega) (by omega)).1
          have q3 := (hs m b (by omega) (by omega)).1
          refine j_iload (pc := 135) dX2_measure_135 rfl ?_
          refine j_goIg (pc := 137) (j_runS k_X2_81 m_J9_min_7cf53 (g_min X R n (jSf I 89 g) (g (8 * a + b)) (g (8 * a + m) + g (8 * m + b)) (by omega) (by omega)) dX2_measure_137 (by decide) rfl rfl (Nat.le_of_ble_eq_true rfl)) (fun r5 I5 h5 => ?_)
          obtain ⟨h5, rfl⟩ := h5
          obtain rfl : r5 = mn (g (8 * a + b)) (g (8 * a + m) + g (8 * m + b)) := h5
          refine j_iast_a (pc := 140) (8 * a + b) dX2_measure_140 rfl (by omega) (by decide) (by omega) (by omega) ?_
          refine j_iinc3 (pc := 141) dX2_measure_141 (by decide) rfl ?_
          refine j_goto (pc := 144) 87 dX2_measure_144 (by decide) ?_
          obtain ⟨f1, f2, f3⟩ := fw_step hs hc hm8 ha8 (show b < 8 by omega)
          refine ihb (b + 1) _ (by omega) (by omega) f1 f2 (fun x y hx hy k hk => ?_) (fun y hy k hk => ?_) _
          · rw [jU_n (by omega)]; exact hd x y hx hy k hk
          · by_cases hyb : y = b
            · subst hyb; exact f3 k hk
            · rw [jU_n (by omega)]; exact hf y (by omega) k hk
      refine j_iload_n (pc := 79) dX2_measure_79 rfl ?_
      refine j_bipush (pc := 80) dX2_measure_80 (by decide) ?_
      refine j_icmp_ge (pc := 82) 153 dX2_measure_82 (by decide) (by omega) (by omega) (fun h_82 => ?_) (fun h_82 => ?_)
      · refine j_iinc1 (pc := 153) dX2_measure_153 (by decide) rfl ?_
        refine j_goto (pc := 156) 71 dX2_measure_156 (by decide) ?_
        obtain rfl : a = 8 := by omega
        exact ih (m + 1) g (by omega) (by omega) hs (fun x y hx hy => hd x y hx hy) _ _ _
      · refine j_iconst (pc := 85) dX2_measure_85 ?_
        refine j_istore_n3 (pc := 86) dX2_measure_86 (by decide) rfl ?_
        exact k87 (by omega) 0 g (by omega) hs hc hd (fun y hy => by omega) _
    refine j_iload_n (pc := 71) dX2_measure_71 rfl ?_
    refine j_bipush (pc := 72) dX2_measure_72 (by decide) ?_
    refine j_icmp_ge (pc := 74) 159 dX2_measure_74 (by decide) (by omega) (by omega) (fun h_74 => ?_) (fun h_74 => ?_)
    · refine j_retvg dX2_measure_159 (?_) rfl
      obtain rfl : m = 8 := by omega
      exact ⟨g, rfl, fun a b ha hb => fw_end hlt hs hc ha hb⟩
    · refine j_iconst (pc := 77) dX2_measure_77 ?_
      refine j_istore_n2 (pc := 78) dX2_measure_78 (by decide) rfl ?_
      exact k79 (by omega) 0 g (by omega) hs hc (fun x y hx hy => by omega) _ _
  have k2 : ∀ (a : Nat) (g : Nat → Int), a ≤ 8 → (∀ x y, x < a → y < 8 → fwI e x y (g (8 * x + y))) → ∀ x2 x3 x4, SG_X2_measure X R n 2 [some (jR 80), some (jI a), x2, x3, x4] [] (jSf I 89 g) (fun I' => ∃ g, I' = jSf I 89 g ∧ ∀ a b, a < 8 → b < 8 → isD e a b 100 (g (8 * a + b))) := by
    refine mu2 (fun a _ => 8 - a) _ (fun a g ih ha hg x2 x3 x4 => ?_)
    have k10 : a < 8 → ∀ (b : Nat) (g : Nat → Int), b ≤ 8 → (∀ x y, x < a → y < 8 → fwI e x y (g (8 * x + y))) → (∀ y, y < b → fwI e a y (g (8 * a + y))) → ∀ x3 x4, SG_X2_measure X R n 10 [some (jR 80), some (jI a), some (jI b), x3, x4] [] (jSf I 89 g) (fun I' => ∃ g, I' = jSf I 89 g ∧ ∀ a b, a < 8 → b < 8 → isD e a b 100 (g (8 * a + b))) := by
      intro ha8
      refine mu2 (fun b _ => 8 - b) _ (fun b g ihb hb hg hf x3 x4 => ?_)
      have k56 : b < 8 → ∀ (v w : Int), fwI e a b v → SG_X2_measure X R n 56 [some (jR 80), some (jI a), some (jI b), some (jI w), x4] [jI v, jI ((a : Int) * 8 + b), jR 89] (jSf I 89 g) (fun I' => ∃ g, I' = jSf I 89 g ∧ ∀ a b, a < 8 → b < 8 → isD e a b 100 (g (8 * a + b))) := by
        intro hb8 v w hv
        refine j_iast_a (pc := 56) (8 * a + b) dX2_measure_56 rfl (by omega) (by decide) (by omega) (by omega) ?_
        refine j_iinc2 (pc := 57) dX2_measure_57 (by decide) rfl ?_
        refine j_goto (pc := 60) 10 dX2_measure_60 (by decide) ?_
        refine ihb (b + 1) _ (by omega) (by omega) (fun x y hx hy => ?_) (fun y hy => ?_) _ _
        · rw [jU_n (by omega)]; exact hg x y hx hy
        · by_cases hyb : y = b
          · subst hyb; rw [jU_s]; exact hv
          · rw [jU_n (by omega)]; exact hf y (by omega)
      refine j_iload_n (pc := 10) dX2_measure_10 rfl ?_
      refine j_bipush (pc := 11) dX2_measure_11 (by decide) ?_
      refine j_icmp_ge (pc := 13) 63 dX2_measure_13 (by decide) (by omega) (by omega) (fun h_13 => ?_) (fun h_13 => ?_)
      · refine j_iinc1 (pc := 63) dX2_measure_63 (by decide) rfl ?_
        refine j_goto (pc := 66) 2 dX2_measure_66 (by decide) ?_
        obtain rfl : b = 8 := by omega
        exact ih (a + 1) g (by omega) (by omega) (fun x y hx hy => by
          by_cases hxa : x = a
          · subst hxa; exact hf y hy
          · exact hg x y (by omega) hy) _ _ _
      · refine j_aload_n (pc := 16) dX2_measure_16 rfl ?_
        refine j_getR (pc := 17) f_X2_33 dX2_measure_17 rfl rfl (by omega) ((congrFun hR _).trans rfl) ?_
        refine j_iload_n (pc := 20) dX2_measure_20 rfl ?_
        refine j_iload_n (pc := 21) dX2_measure_21 rfl ?_
        refine j_goIg (pc := 22) (j_runSN k_X2_77 m_X11_pair (g_pair X R n (jSf I 89 g) a b) dX2_measure_22 (by decide) rfl rfl (Nat.le_of_ble_eq_true rfl)) (fun r1 I1 h1 => ?_)
        obtain ⟨rfl, rfl⟩ := h1
        refine j_iald_c (pc := 25) (8 * a + b) dX2_measure_25 rfl (by omega) (by decide) (by omega) (by omega) (by decide) ?_
        have hev := he a b (by omega) (by omega)
        refine j_iconst (pc := 26) dX2_measure_26 ?_
        refine j_icmp_ne (pc := 27) 35 dX2_measure_27 (by decide) (by omega) (by omega) (fun h_27 => ?_) (fun h_27 => ?_)
        · refine j_iconst (pc := 35) dX2_measure_35 ?_
          refine j_istore_n3 (pc := 36) dX2_measure_36 (by decide) rfl ?_
          refine j_aload_n (pc := 37) dX2_measure_37 rfl ?_
          refine j_getR (pc := 38) f_X2_37 dX2_measure_38 rfl rfl (by omega) ((congrFun hR _).trans rfl) ?_
          refine j_iload_n (pc := 41) dX2_measure_41 rfl ?_
          refine j_iload_n (pc := 42) dX2_measure_42 rfl ?_
          refine j_goIg (pc := 43) (j_runSN k_X2_77 m_X11_pair (g_pair X R n (jSf I 89 g) a b) dX2_measure_43 (by decide) rfl rfl (Nat.le_of_ble_eq_true rfl)) (fun r2 I2 h2 => ?_)
          obtain ⟨rfl, rfl⟩ := h2
          refine j_iload_n (pc := 46) dX2_measure_46 rfl ?_
          refine j_iload_n (pc := 47) dX2_measure_47 rfl ?_
          refine j_icmp_ne (pc := 48) 55 dX2_measure_48 (by decide) (by omega) (by omega) (fun h_48 => ?_) (fun h_48 => ?_)
          · refine j_iload_n (pc := 55) dX2_measure_55 rfl ?_
            refine k56 (by omega) _ _ ?_
            first
              | exact Or.inl ⟨by omega, rfl⟩
              | exact Or.inr (Or.inl ⟨by omega, hev.2.mpr (by omega), rfl⟩)
              | exact Or.inr (Or.inr ⟨by omega, fun h => (hev.2.mp h) (by omega), rfl⟩)
          · refine j_iconst (pc := 51) dX2_measure_51 ?_
            refine j_goto (pc := 52) 56 dX2_measure_52 (by decide) ?_
            refine k56 (by omega) _ _ ?_
            first
              | exact Or.inl ⟨by omega, rfl⟩
              | exact Or.inr (Or.inl ⟨by omega, hev.2.mpr (by omega), rfl⟩)
              | exact Or.inr (Or.inr ⟨by omega, fun h => (hev.2.mp h) (by omega), rfl⟩)
        · refine j_bipush (pc := 30) dX2_measure_30 (by decide) ?_
          refine j_goto (pc := 32) 36 dX2_measure_32 (by decide) ?_
          refine j_istore_n3 (pc := 36) dX2_measure_36 (by decide) rfl ?_
          refine j_aload_n (pc := 37) dX2_measure_37 rfl ?_
          refine j_getR (pc := 38) f_X2_37 dX2_measure_38 rfl rfl (by omega) ((congrFun hR _).trans rfl) ?_
          refine j_iload_n (pc := 41) dX2_measure_41 rfl ?_
          refine j_iload_n (pc := 42) dX2_measure_42 rfl ?_
          refine j_goIg (pc := 43) (j_runSN k_X2_77 m_X11_pair (g_pair X R n (jSf I 89 g) a b) dX2_measure_43 (by decide) rfl rfl (Nat.le_of_ble_eq_true rfl)) (fun r2 I2 h2 => ?_)
          obtain ⟨rfl, rfl⟩ := h2
          refine j_iload_n (pc := 46) dX2_measure_46 rfl ?_
          refine j_iload_n (pc := 47) dX2_measure_47 rfl ?_
          refine j_icmp_ne (pc := 48) 55 dX2_measure_48 (by decide) (by omega) (by omega) (fun h_48 => ?_) (fun h_48 => ?_)
          · refine j_iload_n (pc := 55) dX2_measure_55 rfl ?_
            refine k56 (by omega) _ _ ?_
            first
              | exact Or.inl ⟨by omega, rfl⟩
              | exact Or.inr (Or.inl ⟨by omega, hev.2.mpr (by omega), rfl⟩)
              | exact Or.inr (Or.inr ⟨by omega, fun h => (hev.2.mp h) (by omega), rfl⟩)
          · refine j_iconst (pc := 51) dX2_measure_51 ?_
            refine j_goto (pc := 52) 56 dX2_measure_52 (by decide) ?_
            refine k56 (by omega) _ _ ?_
            first
              | exact Or.inl ⟨by omega, rfl⟩
              | exact Or.inr (Or.inl ⟨by omega, hev.2.mpr (by omega), rfl⟩)
              | exact Or.inr (Or.inr ⟨by omega, fun h => (hev.2.mp h) (by omega), rfl⟩)
    refine j_iload_n (pc := 2) dX2_measure_2 rfl ?_
    refine j_bipush (pc := 3) dX2_measure_3 (by decide) ?_
    refine j_icmp_ge (pc := 5) 69 dX2_measure_5 (by decide) (by omega) (by omega) (fun h_5 => ?_) (fun h_5 => ?_)
    · refine j_iconst (pc := 69) dX2_measure_69 ?_
      refine j_istore_n1 (pc := 70) dX2_measure_70 (by decide) rfl ?_
      obtain rfl : a = 8 := by omega
      obtain ⟨f1, f2⟩ := fw_0 hg
      exact k71 0 g (by omega) f1 f2 _ _ _
    · refine j_iconst (pc := 8) dX2_measure_8 ?_
      refine j_istore_n2 (pc := 9) dX2_measure_9 (by decide) rfl ?_
      exact k10 (by omega) 0 g (by omega) hg (fun y hy => by omega) _ _
  refine j_iconst (pc := 0) dX2_measure_0 ?_
  refine j_istore_n1 (pc := 1) dX2_measure_1 (by decide) rfl ?_
  have hy := k2 0 (I 89) (by omega) (fun x y hx hy => by omega) none none none
  rw [jSf_i] at hy
  exact hy
