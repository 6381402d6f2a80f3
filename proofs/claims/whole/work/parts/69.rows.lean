/-! ===== the class: rows that fit what was heard ===== -/
/-- must and must not -/
theorem ld_iff {f : Nat → Int} (hok : okSt f) {m : Int} {a b : Nat} {H M N w : Nat} (hH : f 52 = H) (hH6 : H ≤ 6) (hM : ∀ s, M.testBit s = true ↔ tdP f m 1 H s) (hN : ∀ s, N.testBit s = true ↔ tdP f m 0 H s) (hw : ∀ s, w.testBit s = true ↔ hbP f m a b s) : ((w &&& M = M ∧ w &&& N = 0) ↔ ∀ i : Nat, (i : Int) < f 52 → f (54 + 3 * i) = m → ((f (55 + 3 * i) = 1 ∧ hbP f m a b (f (53 + 3 * i)).toNat) ∨ (f (55 + 3 * i) = 0 ∧ ¬ hbP f m a b (f (53 + 3 * i)).toNat))) := by
  constructor
  · rintro ⟨h1, h2⟩ i hi hm
    have hr := okSt_h3 hok (show i < 6 by omega)
    obtain ⟨z, hz⟩ := Int.eq_ofNat_of_zero_le hr.1.1
    rw [hz, Int.toNat_natCast]
    rcases (show f (55 + 3 * i) = 1 ∨ f (55 + 3 * i) = 0 by omega) with hg | hg
    · left
      refine ⟨hg, ?_⟩
      have hMz := (hM z).mpr ⟨i, by omega, hm, hg, hz⟩
      rw [← h1] at hMz
      exact (hw z).mp (tb_and.mp hMz).1
    · right
      refine ⟨hg, fun hh => ?_⟩
      have hNz := (hN z).mpr ⟨i, by omega, hm, hg, hz⟩
      have := tb_and.mpr ⟨(hw z).mpr hh, hNz⟩
      rw [h2] at this
      simp at this
  · intro h
    constructor
    · apply Nat.eq_of_testBit_eq
      intro s
      rw [Nat.testBit_and]
      cases hMs : M.testBit s with
      | false => simp
      | true =>
        obtain ⟨i, h1, h2, h3, h4⟩ := (hM s).mp hMs
        rcases h i (by omega) h2 with ⟨-, h5⟩ | ⟨h5, -⟩
        · rw [h4, Int.toNat_natCast] at h5
          rw [(hw s).mpr h5]; rfl
        · omega
    · apply Nat.eq_of_testBit_eq
      intro s
      rw [Nat.testBit_and, Nat.zero_testBit]
      cases hNs : N.testBit s with
      | false => simp
      | true =>
        obtain ⟨i, h1, h2, h3, h4⟩ := (hN s).mp hNs
        rcases h i (by omega) h2 with ⟨h5, -⟩ | ⟨-, h5⟩
        · omega
        · rw [h4, Int.toNat_natCast] at h5
          cases hws : w.testBit s with
          | false => rfl
          | true => exact absurd ((hw s).mp hws) h5
/-- nothing was told of the minute: any way fits -/
theorem td_none {f : Nat → Int} {m : Int} {H M N : Nat} (hM : ∀ s, M.testBit s = true ↔ tdP f m 1 H s) (hN : ∀ s, N.testBit s = true ↔ tdP f m 0 H s) (h0 : M ||| N = 0) : M = 0 ∧ N = 0 := by
  constructor
  · apply Nat.eq_of_testBit_eq
    intro s
    rw [Nat.zero_testBit]
    cases hs : M.testBit s with
    | false => rfl
    | true =>
      have := tb_or.mpr (Or.inl hs : M.testBit s = true ∨ N.testBit s = true)
      rw [h0] at this
      simp at this
  · apply Nat.eq_of_testBit_eq
    intro s
    rw [Nat.zero_testBit]
    cases hs : N.testBit s with
    | false => rfl
    | true =>
      have := tb_or.mpr (Or.inr hs : M.testBit s = true ∨ N.testBit s = true)
      rw [h0] at this
      simp at this
theorem ldP_iff {f : Nat → Int} {m : Int} {a b : Nat} : ldP f m a b ↔ (a = b ∨ 0 ≤ cr f a b) ∧ ∀ i : Nat, (i : Int) < f 52 → f (54 + 3 * i) = m → ((f (55 + 3 * i) = 1 ∧ hbP f m a b (f (53 + 3 * i)).toNat) ∨ (f (55 + 3 * i) = 0 ∧ ¬ hbP f m a b (f (53 + 3 * i)).toNat)) := Iff.rfl
/-- the row of a minute's leads -/
def ldB (f : Nat → Int) (m : Nat) (g : Nat → Int) : Prop := ∀ a, a < 8 → ∃ w : Nat, g (8 * m + a) = w ∧ w < 2 ^ 8 ∧ ∀ b, w.testBit b = true ↔ (b < 8 ∧ ldP f m a b)
set_option maxHeartbeats 4000000 in
theorem c_leads (X : jX) (I : jMI) (f ah : Nat → Int) (u m : Nat) (hN : nR f ah u I 1) (hok : okSt f) (hm : m < 12) (h0 : ∀ a, a < 8 → I 101 (8 * m + a) = 0) : C_X9_findLeads X [jR 100, jR 1, jI m] I (fun I' => ldB f m (I' 101) ∧ (∀ j, (j < 8 * m ∨ 8 * m + 8 ≤ j) → I' 101 j = I 101 j) ∧ ∀ z, z ≠ 101 → I' z = I z) := by
  refine CG.of (by decide) [some (jR 100), some (jR 1), some (jI m), none, none, none, none, none, none] rfl (Nat.le_of_ble_eq_true rfl) ?_
  have k18 : ∀ (H M W : Nat), f 52 = H → H ≤ 6 → M < 32 → W < 32 → (∀ s, M.testBit s = true ↔ tdP f m 1 H s) → (∀ s, W.testBit s = true ↔ tdP f m 0 H s) → ∀ (a : Nat) (g : Nat → Int), a ≤ 8 → (∀ x, x < a → ∃ w : Nat, g (8 * m + x) = w ∧ w < 2 ^ 8 ∧ ∀ b, w.testBit b = true ↔ (b < 8 ∧ ldP f m x b)) → (∀ x, a ≤ x → x < 8 → g (8 * m + x) = 0) → (∀ j, (j < 8 * m ∨ 8 * m + 8 ≤ j) → g j = I 101 j) → ∀ x6 x7 x8, S_X9_findLeads X 18 [some (jR 100), some (jR 1), some (jI m), some (jI M), some (jI W), some (jI a), x6, x7, x8] [] (jSf I 101 g) (fun I' => ldB f m (I' 101) ∧ (∀ j, (j < 8 * m ∨ 8 * m + 8 ≤ j) → I' 101 j = I 101 j) ∧ ∀ z, z ≠ 101 → I' z = I z) := by
    intro H M W hH hH6 hM32 hW32 hMb hWb
    have hMW : M ||| W < 32 := Nat.or_lt_two_pow (n := 5) hM32 hW32
    refine mu2 (fun a _ => 8 - a) _ (fun a g ih ha hg hg0 hgo x6 x7 x8 => ?_)
    have k28 : a < 8 → ∀ (b : Nat) (v : Nat) (g : Nat → Int), b ≤ 8 → (∀ x, x < a → ∃ w : Nat, g (8 * m + x) = w ∧ w < 2 ^ 8 ∧ ∀ b, w.testBit b = true ↔ (b < 8 ∧ ldP f m x b)) → (∀ x, a < x → x < 8 → g (8 * m + x) = 0) → (∀ j, (j < 8 * m ∨ 8 * m + 8 ≤ j) → g j = I 101 j) → g (8 * m + a) = v → v < 2 ^ 8 → (∀ y, v.testBit y = true ↔ (y < b ∧ ldP f m a y)) → ∀ x7 x8, S_X9_findLeads X 28 [some (jR 100), some (jR 1), some (jI m), some (jI M), some (jI W), some (jI a), some (jI b), x7, x8] [] (jSf I 101 g) (fun I' => ldB f m (I' 101) ∧ (∀ j, (j < 8 * m ∨ 8 * m + 8 ≤ j) → I' 101 j = I 101 j) ∧ ∀ z, z ≠ 101 → I' z = I z) := by
      intro ha8
      refine mu3 (fun b _ _ => 8 - b) _ (fun b v g ihb hb hg hg0 hgo hgv hv hvb x7 x8 => ?_)
      have k130 : b < 8 → ∀ (v' : Nat) (g' : Nat → Int) (x7 x8 : Option jV), (∀ x, x < a → ∃ w : Nat, g' (8 * m + x) = w ∧ w < 2 ^ 8 ∧ ∀ b, w.testBit b = true ↔ (b < 8 ∧ ldP f m x b)) → (∀ x, a < x → x < 8 → g' (8 * m + x) = 0) → (∀ j, (j < 8 * m ∨ 8 * m + 8 ≤ j) → g' j = I 101 j) → g' (8 * m + a) = v' → v' < 2 ^ 8 → (∀ y, v'.testBit y = true ↔ (y < b + 1 ∧ ldP f m a y)) → S_X9_findLeads X 130 [some (jR 100), some (jR 1), some (jI m), some (jI M), some (jI W), some (jI a), some (jI b), x7, x8] [] (jSf I 101 g') (fun I' => ldB f m (I' 101) ∧ (∀ j, (j < 8 * m ∨ 8 * m + 8 ≤ j) → I' 101 j = I 101 j) ∧ ∀ z, z ≠ 101 → I' z = I z) := by
        intro hb8 v' g' x7 x8 h1 h2 h3 h4 h5 h6
        refine j_iinc6 (pc := 130) dX9_findLeads_130 (by decide) rfl ?_
        refine j_goto (pc := 133) 28 dX9_findLeads_133 (by decide) ?_
        exact ihb (b + 1) v' g' (by omega) (by omega) h1 h2 h3 h4 h5 h6 _ _
      have hno : ¬ ldP f m a b → ∀ x7 x8, b < 8 → S_X9_findLeads X 130 [some (jR 100), some (jR 1), some (jI m), some (jI M), some (jI W), some (jI a), some (jI b), x7, x8] [] (jSf I 101 g) (fun I' => ldB f m (I' 101) ∧ (∀ j, (j < 8 * m ∨ 8 * m + 8 ≤ j) → I' 101 j = I 101 j) ∧ ∀ z, z ≠ 101 → I' z = I z) := by
        intro hl x7 x8 hb8
        refine k130 hb8 v g x7 x8 hg hg0 hgo hgv hv (fun y => ?_)
        rw [hvb y]
        constructor
        · rintro ⟨h1, h2⟩; exact ⟨by omega, h2⟩
        · rintro ⟨h1, h2⟩
          by_cases e : y = b
          · subst e; exact absurd h2 hl
          · exact ⟨by omega, h2⟩
      have k94 : b < 8 → (a = b ∨ 0 ≤ cr f a b) → ∀ (w : Nat) (x7 : Int) (x8 : Option jV), w < 32 → ((w &&& M = M ∧ w &&& W = 0) ↔ ldP f m a b) → S_X9_findLeads X 94 [some (jR 100), some (jR 1), some (jI m), some (jI M), some (jI W), some (jI a), some (jI b), some (jI x7), x8] [jI w] (jSf I 101 g) (fun I' => ldB f m (I' 101) ∧ (∀ j, (j < 8 * m ∨ 8 * m + 8 ≤ j) → I' 101 j = I 101 j) ∧ ∀ z, z ≠ 101 → I' z = I z) := by
        intro hb8 hcr w x7 x8 hw hiff
        have hwM : w &&& M < 32 := Nat.lt_of_le_of_lt Nat.and_le_left hw
        have hwW : w &&& W < 32 := Nat.lt_of_le_of_lt Nat.and_le_left hw
        refine j_istore8 (pc := 94) dX9_findLeads_94 (by decide) rfl ?_
        refine j_iload (pc := 96) dX9_findLeads_96 rfl ?_
        refine j_iload_n (pc := 98) dX9_findLeads_98 rfl ?_
        refine j_iand (pc := 99) dX9_findLeads_99 ?_
        rw [jband_n (by omega) (by omega)]
        refine j_iload_n (pc := 100) dX9_findLeads_100 rfl ?_
        refine j_icmp_ne (pc := 101) 130 dX9_findLeads_101 (by decide) (by omega) (by omega) (fun h_101 => ?_) (fun h_101 => ?_)
        · first
            | (have hguard : ((w &&& M : Nat) : Int) = (M : Int) ∧ ((w &&& W : Nat) : Int) = 0 := ⟨h_101, h_109⟩
               have hl : ldP f m a b := hiff.mp ⟨by omega, by omega⟩
               refine k130 hb8 (v ||| 2 ^ b) _ _ _ (fun x hx => ?_) (fun x hx1 hx2 => ?_) (fun j hj => ?_) (by rw [jU_s]) (lt_or_pow hv hb8) (bt_set hvb (fun y => ?_))
               · rw [jU_n (by omega)]; exact hg x hx
               · rw [jU_n (by omega)]; exact hg0 x hx1 hx2
               · rw [jU_n (by omega)]; exact hgo j hj
               · constructor
                 · rintro ⟨h1, h2⟩
                   by_cases e : y = b
                   · exact Or.inr e
                   · exact Or.inl ⟨by omega, h2⟩
                 · rintro (⟨h1, h2⟩ | rfl)
                   · exact ⟨by omega, h2⟩
                   · exact ⟨by omega, hl⟩)
            | exact hno (fun h => h_101 (by rw [(hiff.mpr h).1])) _ _ hb8
            | exact hno (fun h => h_109 (by rw [(hiff.mpr h).2]; rfl)) _ _ hb8
        · refine j_iload (pc := 104) dX9_findLeads_104 rfl ?_
          refine j_iload (pc := 106) dX9_findLeads_106 rfl ?_
          refine j_iand (pc := 108) dX9_findLeads_108 ?_
          rw [jband_n (by omega) (by omega)]
          refine j_if_ne (pc := 109) 130 dX9_findLeads_109 (by decide) (by omega) (fun h_109 => ?_) (fun h_109 => ?_)
          · first
              | (have hguard : ((w &&& M : Nat) : Int) = (M : Int) ∧ ((w &&& W : Nat) : Int) = 0 := ⟨h_101, h_109⟩
                 have hl : ldP f m a b := hiff.mp ⟨by omega, by omega⟩
                 refine k130 hb8 (v ||| 2 ^ b) _ _ _ (fun x hx => ?_) (fun x hx1 hx2 => ?_) (fun j hj => ?_) (by rw [jU_s]) (lt_or_pow hv hb8) (bt_set hvb (fun y => ?_))
                 · rw [jU_n (by omega)]; exact hg x hx
                 · rw [jU_n (by omega)]; exact hg0 x hx1 hx2
                 · rw [jU_n (by omega)]; exact hgo j hj
                 · constructor
                   · rintro ⟨h1, h2⟩
                     by_cases e : y = b
                     · exact Or.inr e
                     · exact Or.inl ⟨by omega, h2⟩
                   · rintro (⟨h1, h2⟩ | rfl)
                     · exact ⟨by omega, h2⟩
                     · exact ⟨by omega, hl⟩)
              | exact hno (fun h => h_101 (by rw [(hiff.mpr h).1])) _ _ hb8
              | exact hno (fun h => h_109 (by rw [(hiff.mpr h).2]; rfl)) _ _ hb8
          · refine j_aload_n (pc := 112) dX9_findLeads_112 rfl ?_
            refine j_getR (pc := 113) f_X9_9 dX9_findLeads_113 rfl rfl (by decide) rfl ?_
            refine j_iload_n (pc := 116) dX9_findLeads_116 rfl ?_
            refine j_iload (pc := 117) dX9_findLeads_117 rfl ?_
            refine j_goI (pc := 119) (j_runSN k_X9_22 m_X11_pair (c_pair X (jSf I 101 g) m a) dX9_findLeads_119 (by decide) rfl rfl (Nat.le_of_ble_eq_true rfl)) (fun r1 I1 h1 => ?_)
            obtain ⟨rfl, rfl⟩ := h1
            refine j_dup2 (pc := 122) dX9_findLeads_122 ?_
            refine j_iald_a (pc := 123) (8 * m + a) dX9_findLeads_123 rfl (by decide) (by decide) (by omega) (by omega) ?_
            rw [hgv]
            refine j_iconst (pc := 124) dX9_findLeads_124 ?_
            refine j_iload (pc := 125) dX9_findLeads_125 rfl ?_
            refine j_ishl (pc := 127) dX9_findLeads_127 ?_
            rw [jshl_n (by omega)]
            refine j_ior (pc := 128) dX9_findLeads_128 ?_
            rw [jbor_n (by omega) (by have := Nat.pow_lt_pow_right (a := 2) (by omega) hb8; omega)]
            refine j_iast_a (pc := 129) (8 * m + a) dX9_findLeads_129 rfl (by decide) (by decide) (by omega) (by omega) ?_
            first
              | (have hguard : ((w &&& M : Nat) : Int) = (M : Int) ∧ ((w &&& W : Nat) : Int) = 0 := ⟨h_101, h_109⟩
                 have hl : ldP f m a b := hiff.mp ⟨by omega, by omega⟩
                 refine k130 hb8 (v ||| 2 ^ b) _ _ _ (fun x hx => ?_) (fun x hx1 hx2 => ?_) (fun j hj => ?_) (by rw [jU_s]) (lt_or_pow hv hb8) (bt_set hvb (fun y => ?_))
                 · rw [jU_n (by omega)]; exact hg x hx
                 · rw [jU_n (by omega)]; exact hg0 x hx1 hx2
                 · rw [jU_n (by omega)]; exact hgo j hj
                 · constructor
                   · rintro ⟨h1, h2⟩
                     by_cases e : y = b
                     · exact Or.inr e
                     · exact Or.inl ⟨by omega, h2⟩
                   · rintro (⟨h1, h2⟩ | rfl)
                     · exact ⟨by omega, h2⟩
                     · exact ⟨by omega, hl⟩)
              | exact hno (fun h => h_101 (by rw [(hiff.mpr h).1])) _ _ hb8
              | exact hno (fun h => h_109 (by rw [(hiff.mpr h).2]; rfl)) _ _ hb8
      have hH' : hR f (jSf I 101 g) 2 := hR_fr hN.1 (fun z hz => jSf_n (by omega))
      refine j_iload (pc := 28) dX9_findLeads_28 rfl ?_
      refine j_bipush (pc := 30) dX9_findLeads_30 (by decide) ?_
      refine j_icmp_ge (pc := 32) 136 dX9_findLeads_32 (by decide) (by omega) (by omega) (fun h_32 => ?_) (fun h_32 => ?_)
      · refine j_iinc5 (pc := 136) dX9_findLeads_136 (by decide) rfl ?_
        refine j_goto (pc := 139) 18 dX9_findLeads_139 (by decide) ?_
        obtain rfl : b = 8 := by omega
        refine ih (a + 1) g (by omega) (by omega) (fun x hx => ?_) (fun x hx1 hx2 => hg0 x (by omega) hx2) hgo _ _ _
        by_cases e : x = a
        · subst e; exact ⟨v, hgv, hv, hvb⟩
        · exact hg x (by omega)
      · refine j_aload_n (pc := 35) dX9_findLeads_35 rfl ?_
        refine j_getR (pc := 36) f_X9_41 dX9_findLeads_36 rfl rfl (by decide) rfl ?_
        refine j_getR (pc := 39) f_X9_45 dX9_findLeads_39 rfl rfl (by decide) rfl ?_
        refine j_iload (pc := 42) dX9_findLeads_42 rfl ?_
        refine j_iload (pc := 44) dX9_findLeads_44 rfl ?_
        refine j_goI (pc := 46) (j_runSN k_X9_22 m_X11_pair (c_pair X (jSf I 101 g) a b) dX9_findLeads_46 (by decide) rfl rfl (Nat.le_of_ble_eq_true rfl)) (fun r1 I1 h1 => ?_)
        obtain ⟨rfl, rfl⟩ := h1
        refine j_iald_c (pc := 49) (8 * a + b) dX9_findLeads_49 rfl (by decide) (by decide) (by omega) (by omega) (by decide) ?_
        rw [show I 10 (8 * a + b) = cr f a b from hN.1.2.2.1 a b ha8 (by omega)]
        have hcr := cr_rng hok (a := a) (b := b) ha8 (by omega)
        refine j_istore7 (pc := 50) dX9_findLeads_50 (by decide) rfl ?_
        refine j_iload (pc := 52) dX9_findLeads_52 rfl ?_
        refine j_iload (pc := 54) dX9_findLeads_54 rfl ?_
        refine j_icmp_eq (pc := 56) 64 dX9_findLeads_56 (by decide) (by omega) (by omega) (fun h_56 => ?_) (fun h_56 => ?_)
        · refine j_iload_n (pc := 64) dX9_findLeads_64 rfl ?_
          refine j_iload (pc := 65) dX9_findLeads_65 rfl ?_
          refine j_ior (pc := 67) dX9_findLeads_67 ?_
          rw [jbor_n (by omega) (by omega)]
          refine j_if_eq (pc := 68) 78 dX9_findLeads_68 (by decide) (by omega) (fun h_68 => ?_) (fun h_68 => ?_)
          · refine j_iconst (pc := 78) dX9_findLeads_78 ?_
            refine j_goto (pc := 79) 94 dX9_findLeads_79 (by decide) ?_
            first
              | (have hguard : M ||| W = 0 := by omega
                 obtain ⟨e1, e2⟩ := td_none hMb hWb hguard
                 refine k94 (by omega) (by omega) 0 _ _ (by omega) ?_
                 rw [e1, e2, ldP_iff]
                 refine ⟨fun _ => ⟨by omega, fun i hi hmi => ?_⟩, fun _ => ⟨rfl, rfl⟩⟩
                 exfalso
                 have hr := okSt_h3 hok (show i < 6 by omega)
                 obtain ⟨z, hz⟩ := Int.eq_ofNat_of_zero_le hr.1.1
                 rcases (show f (55 + 3 * i) = 1 ∨ f (55 + 3 * i) = 0 by omega) with hgg | hgg
                 · have := (hMb z).mpr ⟨i, by omega, hmi, hgg, hz⟩
                   rw [e1] at this; simp at this
                 · have := (hWb z).mpr ⟨i, by omega, hmi, hgg, hz⟩
                   rw [e2] at this; simp at this)
              | (have hguard : a = b := by omega
                 refine k94 (by omega) (by omega) 0 _ _ (by omega) ?_
                 rw [ldP_iff, ← ld_iff hok hH hH6 hMb hWb (w := 0) (a := a) (b := b) (fun s => ⟨fun h => by simp at h, fun h => absurd hguard h.1⟩)]
                 exact ⟨fun h => ⟨Or.inl hguard, h⟩, fun h => h.2⟩)
              | (have hguard : a ≠ b ∧ 0 ≤ cr f a b := by omega
                 refine k94 (by omega) (by omega) w _ _ hw.1 ?_
                 rw [ldP_iff, ← ld_iff hok hH hH6 hMb hWb (w := w) (a := a) (b := b) (fun s => by rw [hw.2 s]; exact ⟨fun h => ⟨hguard.1, h.1, h.2⟩, fun h => ⟨h.2.1, h.2.2⟩⟩)]
                 exact ⟨fun h => ⟨Or.inr hguard.2, h⟩, fun h => h.2⟩)
          · refine j_iload (pc := 71) dX9_findLeads_71 rfl ?_
            refine j_iload (pc := 73) dX9_findLeads_73 rfl ?_
            refine j_icmp_ne (pc := 75) 82 dX9_findLeads_75 (by decide) (by omega) (by omega) (fun h_75 => ?_) (fun h_75 => ?_)
            · refine j_aload_n (pc := 82) dX9_findLeads_82 rfl ?_
              refine j_getR (pc := 83) f_X9_41 dX9_findLeads_83 rfl rfl (by decide) rfl ?_
              refine j_iload (pc := 86) dX9_findLeads_86 rfl ?_
              refine j_iload (pc := 88) dX9_findLeads_88 rfl ?_
              refine j_iload_n (pc := 90) dX9_findLeads_90 rfl ?_
              refine j_goI (pc := 91) (j_runV k_X9_50 m_X2_wakers (c_wakers X (jSf I 101 g) f (cr f a b) b m hH' hok (by omega) (by omega) (by omega)) dX9_findLeads_91 rfl (by decide) rfl (by decide) (by decide) rfl rfl (Nat.le_of_ble_eq_true rfl)) (fun r2 I2 h2 => ?_)
              obtain ⟨w, rfl, hw, rfl⟩ := h2
              first
                | (have hguard : M ||| W = 0 := by omega
                   obtain ⟨e1, e2⟩ := td_none hMb hWb hguard
                   refine k94 (by omega) (by omega) 0 _ _ (by omega) ?_
                   rw [e1, e2, ldP_iff]
                   refine ⟨fun _ => ⟨by omega, fun i hi hmi => ?_⟩, fun _ => ⟨rfl, rfl⟩⟩
                   exfalso
                   have hr := okSt_h3 hok (show i < 6 by omega)
                   obtain ⟨z, hz⟩ := Int.eq_ofNat_of_zero_le hr.1.1
                   rcases (show f (55 + 3 * i) = 1 ∨ f (55 + 3 * i) = 0 by omega) with hgg | hgg
                   · have := (hMb z).mpr ⟨i, by omega, hmi, hgg, hz⟩
                     rw [e1] at this; simp at this
                   · have := (hWb z).mpr ⟨i, by omega, hmi, hgg, hz⟩
                     rw [e2] at this; simp at this)
                | (have hguard : a = b := by omega
                   refine k94 (by omega) (by omega) 0 _ _ (by omega) ?_
                   rw [ldP_iff, ← ld_iff hok hH hH6 hMb hWb (w := 0) (a := a) (b := b) (fun s => ⟨fun h => by simp at h, fun h => absurd hguard h.1⟩)]
                   exact ⟨fun h => ⟨Or.inl hguard, h⟩, fun h => h.2⟩)
                | (have hguard : a ≠ b ∧ 0 ≤ cr f a b := by omega
                   refine k94 (by omega) (by omega) w _ _ hw.1 ?_
                   rw [ldP_iff, ← ld_iff hok hH hH6 hMb hWb (w := w) (a := a) (b := b) (fun s => by rw [hw.2 s]; exact ⟨fun h => ⟨hguard.1, h.1, h.2⟩, fun h => ⟨h.2.1, h.2.2⟩⟩)]
                   exact ⟨fun h => ⟨Or.inr hguard.2, h⟩, fun h => h.2⟩)
            · refine j_iconst (pc := 78) dX9_findLeads_78 ?_
              refine j_goto (pc := 79) 94 dX9_findLeads_79 (by decide) ?_
              first
                | (have hguard : M ||| W = 0 := by omega
                   obtain ⟨e1, e2⟩ := td_none hMb hWb hguard
                   refine k94 (by omega) (by omega) 0 _ _ (by omega) ?_
                   rw [e1, e2, ldP_iff]
                   refine ⟨fun _ => ⟨by omega, fun i hi hmi => ?_⟩, fun _ => ⟨rfl, rfl⟩⟩
                   exfalso
                   have hr := okSt_h3 hok (show i < 6 by omega)
                   obtain ⟨z, hz⟩ := Int.eq_ofNat_of_zero_le hr.1.1
                   rcases (show f (55 + 3 * i) = 1 ∨ f (55 + 3 * i) = 0 by omega) with hgg | hgg
                   · have := (hMb z).mpr ⟨i, by omega, hmi, hgg, hz⟩
                     rw [e1] at this; simp at this
                   · have := (hWb z).mpr ⟨i, by omega, hmi, hgg, hz⟩
                     rw [e2] at this; simp at this)
                | (have hguard : a = b := by omega
                   refine k94 (by omega) (by omega) 0 _ _ (by omega) ?_
                   rw [ldP_iff, ← ld_iff hok hH hH6 hMb hWb (w := 0) (a := a) (b := b) (fun s => ⟨fun h => by simp at h, fun h => absurd hguard h.1⟩)]
                   exact ⟨fun h => ⟨Or.inl hguard, h⟩, fun h => h.2⟩)
                | (have hguard : a ≠ b ∧ 0 ≤ cr f a b := by omega
                   refine k94 (by omega) (by omega) w _ _ hw.1 ?_
                   rw [ldP_iff, ← ld_iff hok hH hH6 hMb hWb (w := w) (a := a) (b := b) (fun s => by rw [hw.2 s]; exact ⟨fun h => ⟨hguard.1, h.1, h.2⟩, fun h => ⟨h.2.1, h.2.2⟩⟩)]
                   exact ⟨fun h => ⟨Or.inr hguard.2, h⟩, fun h => h.2⟩)
        · refine j_iload (pc := 59) dX9_findLeads_59 rfl ?_
          refine j_if_lt (pc := 61) 130 dX9_findLeads_61 (by decide) (by omega) (fun h_61 => ?_) (fun h_61 => ?_)
          · exact hno (fun h => by have := h.1; omega) _ _ (by omega)
          · refine j_iload_n (pc := 64) dX9_findLeads_64 rfl ?_
            refine j_iload (pc := 65) dX9_findLeads_65 rfl ?_
            refine j_ior (pc := 67) dX9_findLeads_67 ?_
            rw [jbor_n (by omega) (by omega)]
            refine j_if_eq (pc := 68) 78 dX9_findLeads_68 (by decide) (by omega) (fun h_68 => ?_) (fun h_68 => ?_)
            · refine j_iconst (pc := 78) dX9_findLeads_78 ?_
              refine j_goto (pc := 79) 94 dX9_findLeads_79 (by decide) ?_
              first
                | (have hguard : M ||| W = 0 := by omega
                   obtain ⟨e1, e2⟩ := td_none hMb hWb hguard
                   refine k94 (by omega) (by omega) 0 _ _ (by omega) ?_
                   rw [e1, e2, ldP_iff]
                   refine ⟨fun _ => ⟨by omega, fun i hi hmi => ?_⟩, fun _ => ⟨rfl, rfl⟩⟩
                   exfalso
                   have hr := okSt_h3 hok (show i < 6 by omega)
                   obtain ⟨z, hz⟩ := Int.eq_ofNat_of_zero_le hr.1.1
                   rcases (show f (55 + 3 * i) = 1 ∨ f (55 + 3 * i) = 0 by omega) with hgg | hgg
                   · have := (hMb z).mpr ⟨i, by omega, hmi, hgg, hz⟩
                     rw [e1] at this; simp at this
                   · have := (hWb z).mpr ⟨i, by omega, hmi, hgg, hz⟩
                     rw [e2] at this; simp at this)
                | (have hguard : a = b := by omega
                   refine k94 (by omega) (by omega) 0 _ _ (by omega) ?_
                   rw [ldP_iff, ← ld_iff hok hH hH6 hMb hWb (w := 0) (a := a) (b := b) (fun s => ⟨fun h => by simp at h, fun h => absurd hguard h.1⟩)]
                   exact ⟨fun h => ⟨Or.inl hguard, h⟩, fun h => h.2⟩)
                | (have hguard : a ≠ b ∧ 0 ≤ cr f a b := by omega
                   refine k94 (by omega) (by omega) w _ _ hw.1 ?_
                   rw [ldP_iff, ← ld_iff hok hH hH6 hMb hWb (w := w) (a := a) (b := b) (fun s => by rw [hw.2 s]; exact ⟨fun h => ⟨hguard.1, h.1, h.2⟩, fun h => ⟨h.2.1, h.2.2⟩⟩)]
                   exact ⟨fun h => ⟨Or.inr hguard.2, h⟩, fun h => h.2⟩)
            · refine j_iload (pc := 71) dX9_findLeads_71 rfl ?_
              refine j_iload (pc := 73) dX9_findLeads_73 rfl ?_
              refine j_icmp_ne (pc := 75) 82 dX9_findLeads_75 (by decide) (by omega) (by omega) (fun h_75 => ?_) (fun h_75 => ?_)
              · refine j_aload_n (pc := 82) dX9_findLeads_82 rfl ?_
                refine j_getR (pc := 83) f_X9_41 dX9_findLeads_83 rfl rfl (by decide) rfl ?_
                refine j_iload (pc := 86) dX9_findLeads_86 rfl ?_
                refine j_iload (pc := 88) dX9_findLeads_88 rfl ?_
                refine j_iload_n (pc := 90) dX9_findLeads_90 rfl ?_
                refine j_goI (pc := 91) (j_runV k_X9_50 m_X2_wakers (c_wakers X (jSf I 101 g) f (cr f a b) b m hH' hok (by omega) (by omega) (by omega)) dX9_findLeads_91 rfl (by decide) rfl (by decide) (by decide) rfl rfl (Nat.le_of_ble_eq_true rfl)) (fun r2 I2 h2 => ?_)
                obtain ⟨w, rfl, hw, rfl⟩ := h2
                first
                  | (have hguard : M ||| W = 0 := by omega
                     obtain ⟨e1, e2⟩ := td_none hMb hWb hguard
                     refine k94 (by omega) (by omega) 0 _ _ (by omega) ?_
                     rw [e1, e2, ldP_iff]
                     refine ⟨fun _ => ⟨by omega, fun i hi hmi => ?_⟩, fun _ => ⟨rfl, rfl⟩⟩
                     exfalso
                     have hr := okSt_h3 hok (show i < 6 by omega)
                     obtain ⟨z, hz⟩ := Int.eq_ofNat_of_zero_le hr.1.1
                     rcases (show f (55 + 3 * i) = 1 ∨ f (55 + 3 * i) = 0 by omega) with hgg | hgg
                     · have := (hMb z).mpr ⟨i, by omega, hmi, hgg, hz⟩
                       rw [e1] at this; simp at this
                     · have := (hWb z).mpr ⟨i, by omega, hmi, hgg, hz⟩
                       rw [e2] at this; simp at this)
                  | (have hguard : a = b := by omega
                     refine k94 (by omega) (by omega) 0 _ _ (by omega) ?_
                     rw [ldP_iff, ← ld_iff hok hH hH6 hMb hWb (w := 0) (a := a) (b := b) (fun s => ⟨fun h => by simp at h, fun h => absurd hguard h.1⟩)]
                     exact ⟨fun h => ⟨Or.inl hguard, h⟩, fun h => h.2⟩)
                  | (have hguard : a ≠ b ∧ 0 ≤ cr f a b := by omega
                     refine k94 (by omega) (by omega) w _ _ hw.1 ?_
                     rw [ldP_iff, ← ld_iff hok hH hH6 hMb hWb (w := w) (a := a) (b := b) (fun s => by rw [hw.2 s]; exact ⟨fun h => ⟨hguard.1, h.1, h.2⟩, fun h => ⟨h.2.1, h.2.2⟩⟩)]
                     exact ⟨fun h => ⟨Or.inr hguard.2, h⟩, fun h => h.2⟩)
              · refine j_iconst (pc := 78) dX9_findLeads_78 ?_
                refine j_goto (pc := 79) 94 dX9_findLeads_79 (by decide) ?_
                first
                  | (have hguard : M ||| W = 0 := by omega
                     obtain ⟨e1, e2⟩ := td_none hMb hWb hguard
                     refine k94 (by omega) (by omega) 0 _ _ (by omega) ?_
                     rw [e1, e2, ldP_iff]
                     refine ⟨fun _ => ⟨by omega, fun i hi hmi => ?_⟩, fun _ => ⟨rfl, rfl⟩⟩
                     exfalso
                     have hr := okSt_h3 hok (show i < 6 by omega)
                     obtain ⟨z, hz⟩ := Int.eq_ofNat_of_zero_le hr.1.1
                     rcases (show f (55 + 3 * i) = 1 ∨ f (55 + 3 * i) = 0 by omega) with hgg | hgg
                     · have := (hMb z).mpr ⟨i, by omega, hmi, hgg, hz⟩
                       rw [e1] at this; simp at this
                     · have := (hWb z).mpr ⟨i, by omega, hmi, hgg, hz⟩
                       rw [e2] at this; simp at this)
                  | (have hguard : a = b := by omega
                     refine k94 (by omega) (by omega) 0 _ _ (by omega) ?_
                     rw [ldP_iff, ← ld_iff hok hH hH6 hMb hWb (w := 0) (a := a) (b := b) (fun s => ⟨fun h => by simp at h, fun h => absurd hguard h.1⟩)]
                     exact ⟨fun h => ⟨Or.inl hguard, h⟩, fun h => h.2⟩)
                  | (have hguard : a ≠ b ∧ 0 ≤ cr f a b := by omega
                     refine k94 (by omega) (by omega) w _ _ hw.1 ?_
                     rw [ldP_iff, ← ld_iff hok hH hH6 hMb hWb (w := w) (a := a) (b := b) (fun s => by rw [hw.2 s]; exact ⟨fun h => ⟨hguard.1, h.1, h.2⟩, fun h => ⟨h.2.1, h.2.2⟩⟩)]
                     exact ⟨fun h => ⟨Or.inr hguard.2, h⟩, fun h => h.2⟩)
    refine j_iload (pc := 18) dX9_findLeads_18 rfl ?_
    refine j_bipush (pc := 20) dX9_findLeads_20 (by decide) ?_
    refine j_icmp_ge (pc := 22) 142 dX9_findLeads_22 (by decide) (by omega) (by omega) (fun h_22 => ?_) (fun h_22 => ?_)
    · refine j_retv dX9_findLeads_142 (?_) rfl
      obtain rfl : a = 8 := by omega
      rw [jSf_s]
      exact ⟨fun x hx => hg x hx, hgo, fun z hz => jSf_n hz⟩
    · refine j_iconst (pc := 25) dX9_findLeads_25 ?_
      refine j_istore6 (pc := 26) dX9_findLeads_26 (by decide) rfl ?_
      refine k28 (by omega) 0 0 g (by omega) hg (fun x hx1 hx2 => hg0 x (by omega) hx2) hgo (hg0 a (by omega) (by omega)) (by omega) (fun y => ?_) _ _
      constructor
      · intro h; simp at h
      · rintro ⟨h, -⟩; omega
  refine j_aload_n (pc := 0) dX9_findLeads_0 rfl ?_
  refine j_iload_n (pc := 1) dX9_findLeads_1 rfl ?_
  refine j_iconst (pc := 2) dX9_findLeads_2 ?_
  refine j_goI (pc := 3) (j_runV k_X9_36 m_X4_toldOf (c_told X I f ah u m 1 hN hok (by omega) (by omega)) dX9_findLeads_3 rfl (by decide) rfl (by decide) (by decide) rfl rfl (Nat.le_of_ble_eq_true rfl)) (fun r1 I1 h1 => ?_)
  obtain ⟨M, H, rfl, hM, hH, hMb, rfl⟩ := h1
  refine j_istore_n3 (pc := 6) dX9_findLeads_6 (by decide) rfl ?_
  refine j_aload_n (pc := 7) dX9_findLeads_7 rfl ?_
  refine j_iload_n (pc := 8) dX9_findLeads_8 rfl ?_
  refine j_iconst (pc := 9) dX9_findLeads_9 ?_
  refine j_goI (pc := 10) (j_runV k_X9_36 m_X4_toldOf (c_told X I1 f ah u m 0 hN hok (by omega) (by omega)) dX9_findLeads_10 rfl (by decide) rfl (by decide) (by decide) rfl rfl (Nat.le_of_ble_eq_true rfl)) (fun r2 I2 h2 => ?_)
  obtain ⟨W, H2, rfl, hW, hH2, hWb, rfl⟩ := h2
  refine j_istore4 (pc := 13) dX9_findLeads_13 (by decide) rfl ?_
  refine j_iconst (pc := 15) dX9_findLeads_15 ?_
  refine j_istore5 (pc := 16) dX9_findLeads_16 (by decide) rfl ?_
  obtain rfl : H2 = H := by omega
  obtain ⟨H3, e1, e2⟩ := okSt_52 hok
  have hy := k18 H2 M W hH (by omega) hM hW hMb hWb 0 (I2 101) (by omega) (fun x hx => by omega) (fun x h1 h2 => h0 x h2) (fun j _ => rfl) none none none
  rw [jSf_i] at hy
  exact hy
