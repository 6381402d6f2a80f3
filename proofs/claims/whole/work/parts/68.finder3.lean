/-! ===== the class: two at once ===== -/
def clr (w a : Nat) : Nat := w &&& (255 ^^^ 2 ^ a)
theorem clr_lt {w a : Nat} (hw : w < 2 ^ 8) : clr w a < 2 ^ 8 := Nat.lt_of_le_of_lt Nat.and_le_left hw
theorem tb_clr {w a b : Nat} (hw : w < 2 ^ 8) : (clr w a).testBit b = true ↔ (w.testBit b = true ∧ b ≠ a) := by
  unfold clr
  rw [Nat.testBit_and, Nat.testBit_xor, Nat.testBit_two_pow, show (255 : Nat) = 2 ^ 8 - 1 from rfl, Nat.testBit_two_pow_sub_one]
  by_cases hb : b < 8
  · by_cases e : a = b
    · subst e; simp [hb]
    · simp [hb, e, Ne.symm e]
  · have : w.testBit b = false := Nat.testBit_lt_two_pow (Nat.lt_of_lt_of_le hw (Nat.pow_le_pow_right (by omega) (by omega)))
    simp [this]
theorem jclr {w a : Nat} (hw : w < 2 ^ 8) (ha : a < 8) : jband w (jbxor ((2 ^ a : Nat) : Int) (-1)) = ((clr w a : Nat) : Int) := by
  have h : ∀ a : Fin 8, ∀ w : Fin 256, jband ((w : Nat) : Int) (jbxor ((2 ^ (a : Nat) : Nat) : Int) (-1)) = ((clr w a : Nat) : Int) := by decide +kernel
  exact h ⟨a, ha⟩ ⟨w, hw⟩
def agP (S Q : Nat → Nat → Prop) (a x b y : Nat) : Prop := S a b ∧ Q b y ∧ ¬ (a ≠ x ∧ b = x ∧ y = a)
theorem c_second (X : jX) (I : jMI) (S Q : Nat → Nat → Prop) (a x : Nat) (ha : a < 8) (hx : x < 8) (hQ : qB Q (I 97)) (hS : qB S (I 98)) : C_X1_secondGoes X [jR 96, jI a, jI x] I (fun r I' => ∃ v : Nat, r = v ∧ v < 2 ^ 8 ∧ (∀ y, v.testBit y = true ↔ (y < 8 ∧ ∃ b, b < 8 ∧ agP S Q a x b y)) ∧ I' = I) := by
  refine CG.of (by decide) [some (jR 96), some (jI a), some (jI x), none, none, none] rfl (Nat.le_of_ble_eq_true rfl) ?_
  obtain ⟨p, hp1, hp2, hp3⟩ := hS a ha
  have key : ∀ (i v : Nat), i ≤ 8 → v < 2 ^ 8 → (∀ y, v.testBit y = true ↔ (y < 8 ∧ ∃ b, b < i ∧ agP S Q a x b y)) → ∀ x5, S_X1_secondGoes X 5 [some (jR 96), some (jI a), some (jI x), some (jI v), some (jI i), x5] [] I (fun r I' => ∃ v : Nat, r = v ∧ v < 2 ^ 8 ∧ (∀ y, v.testBit y = true ↔ (y < 8 ∧ ∃ b, b < 8 ∧ agP S Q a x b y)) ∧ I' = I) := by
    refine mu2 (fun i _ => 8 - i) _ (fun i v ih hi hv hb x5 => ?_)
    have k76 : i < 8 → ∀ (v' : Nat) (x5 : Option jV), v' < 2 ^ 8 → (∀ y, v'.testBit y = true ↔ (v.testBit y = true ∨ (y < 8 ∧ agP S Q a x i y))) → S_X1_secondGoes X 76 [some (jR 96), some (jI a), some (jI x), some (jI v'), some (jI i), x5] [] I (fun r I' => ∃ v : Nat, r = v ∧ v < 2 ^ 8 ∧ (∀ y, v.testBit y = true ↔ (y < 8 ∧ ∃ b, b < 8 ∧ agP S Q a x b y)) ∧ I' = I) := by
      intro hi8 v' x5 hv' hb'
      refine j_iinc4 (pc := 76) dX1_secondGoes_76 (by decide) rfl ?_
      refine j_goto (pc := 79) 5 dX1_secondGoes_79 (by decide) ?_
      refine ih (i + 1) v' (by omega) (by omega) hv' (fun y => ?_) _
      rw [hb' y, hb y]
      constructor
      · rintro (⟨h1, b, h2, h3⟩ | ⟨h1, h2⟩)
        · exact ⟨h1, b, by omega, h3⟩
        · exact ⟨h1, i, by omega, h2⟩
      · rintro ⟨h1, b, h2, h3⟩
        by_cases e : b = i
        · subst e; exact Or.inr ⟨h1, h3⟩
        · exact Or.inl ⟨h1, b, by omega, h3⟩
    have k43 : i < 8 → p.testBit i = true → ∀ (ag : Int), ((ag = 1 ∧ (a ≠ x ∧ i = x)) ∨ (ag = 0 ∧ ¬ (a ≠ x ∧ i = x))) → S_X1_secondGoes X 43 [some (jR 96), some (jI a), some (jI x), some (jI v), some (jI i), x5] [jI ag] I (fun r I' => ∃ v : Nat, r = v ∧ v < 2 ^ 8 ∧ (∀ y, v.testBit y = true ↔ (y < 8 ∧ ∃ b, b < 8 ∧ agP S Q a x b y)) ∧ I' = I) := by
      intro hi8 hpi ag hag
      obtain ⟨q, hq1, hq2, hq3⟩ := hQ i hi8
      have hSi : S a i := ((hp3 i).mp hpi).2
      refine j_istore5 (pc := 43) dX1_secondGoes_43 (by decide) rfl ?_
      refine j_iload_n (pc := 45) dX1_secondGoes_45 rfl ?_
      refine j_iload (pc := 46) dX1_secondGoes_46 rfl ?_
      refine j_if_eq (pc := 48) 67 dX1_secondGoes_48 (by decide) (by omega) (fun h_48 => ?_) (fun h_48 => ?_)
      · refine j_aload_n (pc := 67) dX1_secondGoes_67 rfl ?_
        refine j_getR (pc := 68) f_X1_9 dX1_secondGoes_68 rfl rfl (by decide) rfl ?_
        refine j_iload (pc := 71) dX1_secondGoes_71 rfl ?_
        refine j_iald_b (pc := 73) (i) dX1_secondGoes_73 rfl (by decide) (by decide) (by omega) (by omega) ?_
        try rw [hq1]
        refine j_ior (pc := 74) dX1_secondGoes_74 ?_
        rw [jbor_n (by omega) (by have := clr_lt (a := a) hq2; omega)]
        refine j_istore_n3 (pc := 75) dX1_secondGoes_75 (by decide) rfl ?_
        first
          | (have hguard : a ≠ x ∧ i = x := by omega
             refine k76 hi8 (v ||| clr q a) _ (Nat.or_lt_two_pow hv (clr_lt hq2)) (fun y => ?_)
             rw [tb_or, tb_clr hq2, hq3 y]
             constructor
             · rintro (h | ⟨⟨h1, h2⟩, h3⟩)
               · exact Or.inl h
               · exact Or.inr ⟨h1, hSi, h2, fun h => h3 h.2.2⟩
             · rintro (h | ⟨h1, -, h2, h3⟩)
               · exact Or.inl h
               · exact Or.inr ⟨⟨h1, h2⟩, fun h => h3 ⟨hguard.1, hguard.2, h⟩⟩)
          | (have hguard : ¬ (a ≠ x ∧ i = x) := by omega
             refine k76 hi8 (v ||| q) _ (Nat.or_lt_two_pow hv hq2) (fun y => ?_)
             rw [tb_or, hq3 y]
             constructor
             · rintro (h | ⟨h1, h2⟩)
               · exact Or.inl h
               · exact Or.inr ⟨h1, hSi, h2, fun h => hguard ⟨h.1, h.2.1⟩⟩
             · rintro (h | ⟨h1, -, h2, h3⟩)
               · exact Or.inl h
               · exact Or.inr ⟨h1, h2⟩)
      · refine j_aload_n (pc := 51) dX1_secondGoes_51 rfl ?_
        refine j_getR (pc := 52) f_X1_9 dX1_secondGoes_52 rfl rfl (by decide) rfl ?_
        refine j_iload (pc := 55) dX1_secondGoes_55 rfl ?_
        refine j_iald_b (pc := 57) (i) dX1_secondGoes_57 rfl (by decide) (by decide) (by omega) (by omega) ?_
        rw [hq1]
        refine j_iconst (pc := 58) dX1_secondGoes_58 ?_
        refine j_iload_n (pc := 59) dX1_secondGoes_59 rfl ?_
        refine j_ishl (pc := 60) dX1_secondGoes_60 ?_
        rw [jshl_n (by omega)]
        refine j_iconst (pc := 61) dX1_secondGoes_61 ?_
        refine j_ixor (pc := 62) dX1_secondGoes_62 ?_
        refine j_iand (pc := 63) dX1_secondGoes_63 ?_
        rw [jclr hq2 ha]
        refine j_goto (pc := 64) 74 dX1_secondGoes_64 (by decide) ?_
        try rw [hq1]
        refine j_ior (pc := 74) dX1_secondGoes_74 ?_
        rw [jbor_n (by omega) (by have := clr_lt (a := a) hq2; omega)]
        refine j_istore_n3 (pc := 75) dX1_secondGoes_75 (by decide) rfl ?_
        first
          | (have hguard : a ≠ x ∧ i = x := by omega
             refine k76 hi8 (v ||| clr q a) _ (Nat.or_lt_two_pow hv (clr_lt hq2)) (fun y => ?_)
             rw [tb_or, tb_clr hq2, hq3 y]
             constructor
             · rintro (h | ⟨⟨h1, h2⟩, h3⟩)
               · exact Or.inl h
               · exact Or.inr ⟨h1, hSi, h2, fun h => h3 h.2.2⟩
             · rintro (h | ⟨h1, -, h2, h3⟩)
               · exact Or.inl h
               · exact Or.inr ⟨⟨h1, h2⟩, fun h => h3 ⟨hguard.1, hguard.2, h⟩⟩)
          | (have hguard : ¬ (a ≠ x ∧ i = x) := by omega
             refine k76 hi8 (v ||| q) _ (Nat.or_lt_two_pow hv hq2) (fun y => ?_)
             rw [tb_or, hq3 y]
             constructor
             · rintro (h | ⟨h1, h2⟩)
               · exact Or.inl h
               · exact Or.inr ⟨h1, hSi, h2, fun h => hguard ⟨h.1, h.2.1⟩⟩
             · rintro (h | ⟨h1, -, h2, h3⟩)
               · exact Or.inl h
               · exact Or.inr ⟨h1, h2⟩)
    refine j_iload (pc := 5) dX1_secondGoes_5 rfl ?_
    refine j_bipush (pc := 7) dX1_secondGoes_7 (by decide) ?_
    refine j_icmp_ge (pc := 9) 82 dX1_secondGoes_9 (by decide) (by omega) (by omega) (fun h_9 => ?_) (fun h_9 => ?_)
    · refine j_iload_n (pc := 82) dX1_secondGoes_82 rfl ?_
      refine j_reti dX1_secondGoes_83 (?_) rfl
      obtain rfl : i = 8 := by omega
      exact ⟨v, rfl, hv, hb, rfl⟩
    · refine j_aload_n (pc := 12) dX1_secondGoes_12 rfl ?_
      refine j_getR (pc := 13) f_X1_15 dX1_secondGoes_13 rfl rfl (by decide) rfl ?_
      refine j_iload_n (pc := 16) dX1_secondGoes_16 rfl ?_
      refine j_iald_b (pc := 17) (a) dX1_secondGoes_17 rfl (by decide) (by decide) (by omega) (by omega) ?_
      rw [hp1]
      refine j_iload (pc := 18) dX1_secondGoes_18 rfl ?_
      refine j_goI (pc := 20) (j_runSN k_X1_40 m_X11_bit (c_bit X I p i) dX1_secondGoes_20 (by decide) rfl rfl (Nat.le_of_ble_eq_true rfl)) (fun r1 I1 h1 => ?_)
      obtain ⟨rfl, rfl⟩ := h1
      rw [jbit (by omega) (by omega)]
      refine j_iconst (pc := 23) dX1_secondGoes_23 ?_
      refine j_icmp_ne (pc := 24) 76 dX1_secondGoes_24 (by decide) (by split <;> omega) (by omega) (fun h_24 => ?_) (fun h_24 => ?_)
      · have hpi : ¬ p.testBit i = true := by split at h_24 <;> first | assumption | omega
        refine k76 (by omega) v _ hv (fun y => ⟨fun h => Or.inl h, fun h => ?_⟩)
        rcases h with h | ⟨-, h, -⟩
        · exact h
        · exact absurd ((hp3 i).mpr ⟨by omega, h⟩) hpi
      · refine j_iload_n (pc := 27) dX1_secondGoes_27 rfl ?_
        refine j_iload_n (pc := 28) dX1_secondGoes_28 rfl ?_
        refine j_icmp_eq (pc := 29) 42 dX1_secondGoes_29 (by decide) (by omega) (by omega) (fun h_29 => ?_) (fun h_29 => ?_)
        · refine j_iconst (pc := 42) dX1_secondGoes_42 ?_
          have hpi : p.testBit i = true := by split at h_24 <;> first | assumption | omega
          refine k43 (by omega) hpi _ ?_
          clear h_24
          first
            | exact Or.inl ⟨rfl, by omega, by omega⟩
            | exact Or.inr ⟨rfl, by omega⟩
        · refine j_iload (pc := 32) dX1_secondGoes_32 rfl ?_
          refine j_iload_n (pc := 34) dX1_secondGoes_34 rfl ?_
          refine j_icmp_ne (pc := 35) 42 dX1_secondGoes_35 (by decide) (by omega) (by omega) (fun h_35 => ?_) (fun h_35 => ?_)
          · refine j_iconst (pc := 42) dX1_secondGoes_42 ?_
            have hpi : p.testBit i = true := by split at h_24 <;> first | assumption | omega
            refine k43 (by omega) hpi _ ?_
            clear h_24
            first
              | exact Or.inl ⟨rfl, by omega, by omega⟩
              | exact Or.inr ⟨rfl, by omega⟩
          · refine j_iconst (pc := 38) dX1_secondGoes_38 ?_
            refine j_goto (pc := 39) 43 dX1_secondGoes_39 (by decide) ?_
            have hpi : p.testBit i = true := by split at h_24 <;> first | assumption | omega
            refine k43 (by omega) hpi _ ?_
            clear h_24
            first
              | exact Or.inl ⟨rfl, by omega, by omega⟩
              | exact Or.inr ⟨rfl, by omega⟩
  refine j_iconst (pc := 0) dX1_secondGoes_0 ?_
  refine j_istore_n3 (pc := 1) dX1_secondGoes_1 (by decide) rfl ?_
  refine j_iconst (pc := 2) dX1_secondGoes_2 ?_
  refine j_istore4 (pc := 3) dX1_secondGoes_3 (by decide) rfl ?_
  refine key 0 0 (by omega) (by omega) (fun b => ?_) _
  constructor
  · intro h; simp at h
  · rintro ⟨-, a, h, -⟩; omega
def tgP (S Q : Nat → Nat → Prop) (x y : Nat) : Prop := (x ≠ y ∨ x = 0) ∧ ∃ a, a < 8 ∧ Q a x ∧ ∃ b, b < 8 ∧ agP S Q a x b y
theorem c_together (X : jX) (I : jMI) (S Q : Nat → Nat → Prop) (hQ : qB Q (I 97)) (hS : qB S (I 98)) : C_X1_goTogether X [jR 96] I (fun I' => qB (tgP S Q) (I' 98) ∧ ∀ z, z ≠ 98 → z ≠ 99 → I' z = I z) := by
  refine CG.of (by decide) [some (jR 96), none, none, none] rfl (Nat.le_of_ble_eq_true rfl) ?_
  have key : ∀ (x : Nat) (g : Nat → Int), x ≤ 8 → (∀ z, z < x → ∃ w : Nat, g z = w ∧ w < 2 ^ 8 ∧ ∀ y, w.testBit y = true ↔ (y < 8 ∧ tgP S Q z y)) → ∀ x2 x3, S_X1_goTogether X 2 [some (jR 96), some (jI x), x2, x3] [] (jSf I 99 g) (fun I' => qB (tgP S Q) (I' 98) ∧ ∀ z, z ≠ 98 → z ≠ 99 → I' z = I z) := by
    refine mu2 (fun x _ => 8 - x) _ (fun x g ih hx hg x2 x3 => ?_)
    have k12 : x < 8 → ∀ (i v : Nat), i ≤ 8 → v < 2 ^ 8 → (∀ y, v.testBit y = true ↔ (y < 8 ∧ ∃ a, a < i ∧ Q a x ∧ ∃ b, b < 8 ∧ agP S Q a x b y)) → S_X1_goTogether X 12 [some (jR 96), some (jI x), some (jI v), some (jI i)] [] (jSf I 99 g) (fun I' => qB (tgP S Q) (I' 98) ∧ ∀ z, z ≠ 98 → z ≠ 99 → I' z = I z) := by
      intro hx8
      refine mu2 (fun i _ => 8 - i) _ (fun i v ihi hi hv hb => ?_)
      have k67 : i = 8 → ∀ (w : Nat), w < 2 ^ 8 → (∀ y, w.testBit y = true ↔ (y < 8 ∧ tgP S Q x y)) → S_X1_goTogether X 67 [some (jR 96), some (jI x), some (jI v), some (jI i)] [jI w, jI x, jR 99] (jSf I 99 g) (fun I' => qB (tgP S Q) (I' 98) ∧ ∀ z, z ≠ 98 → z ≠ 99 → I' z = I z) := by
        intro hi8 w hw hwb
        refine j_iast_a (pc := 67) (x) dX1_goTogether_67 rfl (by decide) (by decide) (by omega) (by omega) ?_
        refine j_iinc1 (pc := 68) dX1_goTogether_68 (by decide) rfl ?_
        refine j_goto (pc := 71) 2 dX1_goTogether_71 (by decide) ?_
        refine ih (x + 1) _ (by omega) (by omega) (fun z hz => ?_) _ _
        by_cases e : z = x
        · subst e; rw [jU_s]; exact ⟨w, rfl, hw, hwb⟩
        · rw [jU_n e]; exact hg z (by omega)
      refine j_iload_n (pc := 12) dX1_goTogether_12 rfl ?_
      refine j_bipush (pc := 13) dX1_goTogether_13 (by decide) ?_
      refine j_icmp_ge (pc := 15) 47 dX1_goTogether_15 (by decide) (by omega) (by omega) (fun h_15 => ?_) (fun h_15 => ?_)
      · refine j_aload_n (pc := 47) dX1_goTogether_47 rfl ?_
        refine j_getR (pc := 48) f_X1_18 dX1_goTogether_48 rfl rfl (by decide) rfl ?_
        refine j_iload_n (pc := 51) dX1_goTogether_51 rfl ?_
        refine j_iload_n (pc := 52) dX1_goTogether_52 rfl ?_
        refine j_if_ne (pc := 53) 60 dX1_goTogether_53 (by decide) (by omega) (fun h_53 => ?_) (fun h_53 => ?_)
        · refine j_iload_n (pc := 60) dX1_goTogether_60 rfl ?_
          refine j_iconst (pc := 61) dX1_goTogether_61 ?_
          refine j_iload_n (pc := 62) dX1_goTogether_62 rfl ?_
          refine j_ishl (pc := 63) dX1_goTogether_63 ?_
          rw [jshl_n (by omega)]
          refine j_iconst (pc := 64) dX1_goTogether_64 ?_
          refine j_ixor (pc := 65) dX1_goTogether_65 ?_
          refine j_iand (pc := 66) dX1_goTogether_66 ?_
          obtain rfl : i = 8 := by omega
          first
            | (have hguard : x = 0 := by omega
               refine k67 rfl v hv (fun y => ?_)
               rw [hb y]
               unfold tgP
               exact ⟨fun h => ⟨h.1, Or.inr hguard, h.2⟩, fun h => ⟨h.1, h.2.2⟩⟩)
            | (have hguard : x ≠ 0 := by omega
               rw [jclr hv hx8]
               refine k67 rfl (clr v x) (clr_lt hv) (fun y => ?_)
               rw [tb_clr hv, hb y]
               unfold tgP
               constructor
               · rintro ⟨⟨h1, h2⟩, h3⟩
                 exact ⟨h1, Or.inl (Ne.symm h3), h2⟩
               · rintro ⟨h1, h2 | h2, h3⟩
                 · exact ⟨⟨h1, h3⟩, Ne.symm h2⟩
                 · exact absurd h2 hguard)
        · refine j_iload_n (pc := 56) dX1_goTogether_56 rfl ?_
          refine j_goto (pc := 57) 67 dX1_goTogether_57 (by decide) ?_
          obtain rfl : i = 8 := by omega
          first
            | (have hguard : x = 0 := by omega
               refine k67 rfl v hv (fun y => ?_)
               rw [hb y]
               unfold tgP
               exact ⟨fun h => ⟨h.1, Or.inr hguard, h.2⟩, fun h => ⟨h.1, h.2.2⟩⟩)
            | (have hguard : x ≠ 0 := by omega
               rw [jclr hv hx8]
               refine k67 rfl (clr v x) (clr_lt hv) (fun y => ?_)
               rw [tb_clr hv, hb y]
               unfold tgP
               constructor
               · rintro ⟨⟨h1, h2⟩, h3⟩
                 exact ⟨h1, Or.inl (Ne.symm h3), h2⟩
               · rintro ⟨h1, h2 | h2, h3⟩
                 · exact ⟨⟨h1, h3⟩, Ne.symm h2⟩
                 · exact absurd h2 hguard)
      · obtain ⟨q, hq1, hq2, hq3⟩ := hQ i (by omega)
        refine j_aload_n (pc := 18) dX1_goTogether_18 rfl ?_
        refine j_getR (pc := 19) f_X1_9 dX1_goTogether_19 rfl rfl (by decide) rfl ?_
        refine j_iload_n (pc := 22) dX1_goTogether_22 rfl ?_
        refine j_iald_c (pc := 23) (i) dX1_goTogether_23 rfl (by decide) (by decide) (by omega) (by omega) (by decide) ?_
        rw [hq1]
        refine j_iload_n (pc := 24) dX1_goTogether_24 rfl ?_
        refine j_goI (pc := 25) (j_runSN k_X1_40 m_X11_bit (c_bit X (jSf I 99 g) q x) dX1_goTogether_25 (by decide) rfl rfl (Nat.le_of_ble_eq_true rfl)) (fun r1 I1 h1 => ?_)
        obtain ⟨rfl, rfl⟩ := h1
        rw [jbit (by omega) (by omega)]
        refine j_iconst (pc := 28) dX1_goTogether_28 ?_
        refine j_icmp_ne (pc := 29) 41 dX1_goTogether_29 (by decide) (by split <;> omega) (by omega) (fun h_29 => ?_) (fun h_29 => ?_)
        · refine j_iinc3 (pc := 41) dX1_goTogether_41 (by decide) rfl ?_
          refine j_goto (pc := 44) 12 dX1_goTogether_44 (by decide) ?_
          first
            | (have hqx : q.testBit x = true := by split at h_29 <;> first | assumption | omega
               refine ihi (i + 1) (v ||| s) (by omega) (by omega) (Nat.or_lt_two_pow hv hs) (fun y => ?_)
               rw [tb_or, hb y, hsb y]
               constructor
               · rintro (⟨h1, a, h2, h3⟩ | ⟨h1, h2⟩)
                 · exact ⟨h1, a, by omega, h3⟩
                 · exact ⟨h1, i, by omega, ((hq3 x).mp hqx).2, h2⟩
               · rintro ⟨h1, a, h2, h3, h4⟩
                 by_cases e : a = i
                 · subst e; exact Or.inr ⟨h1, h4⟩
                 · exact Or.inl ⟨h1, a, by omega, h3, h4⟩)
            | (have hqx : ¬ q.testBit x = true := by split at h_29 <;> first | assumption | omega
               refine ihi (i + 1) v (by omega) (by omega) hv (fun y => ?_)
               rw [hb y]
               constructor
               · rintro ⟨h1, a, h2, h3⟩
                 exact ⟨h1, a, by omega, h3⟩
               · rintro ⟨h1, a, h2, h3, h4⟩
                 by_cases e : a = i
                 · subst e; exact absurd ((hq3 x).mpr ⟨hx8, h3⟩) hqx
                 · exact ⟨h1, a, by omega, h3, h4⟩)
        · refine j_iload_n (pc := 32) dX1_goTogether_32 rfl ?_
          refine j_aload_n (pc := 33) dX1_goTogether_33 rfl ?_
          refine j_iload_n (pc := 34) dX1_goTogether_34 rfl ?_
          refine j_iload_n (pc := 35) dX1_goTogether_35 rfl ?_
          refine j_goI (pc := 36) (j_runV k_X1_60 m_X1_secondGoes (c_second X (jSf I 99 g) S Q i x (by omega) hx8 (by rw [jSf_n (by decide)]; exact hQ) (by rw [jSf_n (by decide)]; exact hS)) dX1_goTogether_36 rfl (by decide) rfl (by decide) (by decide) rfl rfl (Nat.le_of_ble_eq_true rfl)) (fun r2 I2 h2 => ?_)
          obtain ⟨s, rfl, hs, hsb, rfl⟩ := h2
          refine j_ior (pc := 39) dX1_goTogether_39 ?_
          rw [jbor_n (by omega) (by omega)]
          refine j_istore_n2 (pc := 40) dX1_goTogether_40 (by decide) rfl ?_
          refine j_iinc3 (pc := 41) dX1_goTogether_41 (by decide) rfl ?_
          refine j_goto (pc := 44) 12 dX1_goTogether_44 (by decide) ?_
          first
            | (have hqx : q.testBit x = true := by split at h_29 <;> first | assumption | omega
               refine ihi (i + 1) (v ||| s) (by omega) (by omega) (Nat.or_lt_two_pow hv hs) (fun y => ?_)
               rw [tb_or, hb y, hsb y]
               constructor
               · rintro (⟨h1, a, h2, h3⟩ | ⟨h1, h2⟩)
                 · exact ⟨h1, a, by omega, h3⟩
                 · exact ⟨h1, i, by omega, ((hq3 x).mp hqx).2, h2⟩
               · rintro ⟨h1, a, h2, h3, h4⟩
                 by_cases e : a = i
                 · subst e; exact Or.inr ⟨h1, h4⟩
                 · exact Or.inl ⟨h1, a, by omega, h3, h4⟩)
            | (have hqx : ¬ q.testBit x = true := by split at h_29 <;> first | assumption | omega
               refine ihi (i + 1) v (by omega) (by omega) hv (fun y => ?_)
               rw [hb y]
               constructor
               · rintro ⟨h1, a, h2, h3⟩
                 exact ⟨h1, a, by omega, h3⟩
               · rintro ⟨h1, a, h2, h3, h4⟩
                 by_cases e : a = i
                 · subst e; exact absurd ((hq3 x).mpr ⟨hx8, h3⟩) hqx
                 · exact ⟨h1, a, by omega, h3, h4⟩)
    refine j_iload_n (pc := 2) dX1_goTogether_2 rfl ?_
    refine j_bipush (pc := 3) dX1_goTogether_3 (by decide) ?_
    refine j_icmp_ge (pc := 5) 74 dX1_goTogether_5 (by decide) (by omega) (by omega) (fun h_5 => ?_) (fun h_5 => ?_)
    · refine j_aload_n (pc := 74) dX1_goTogether_74 rfl ?_
      refine j_getR (pc := 75) f_X1_18 dX1_goTogether_75 rfl rfl (by decide) rfl ?_
      refine j_iconst (pc := 78) dX1_goTogether_78 ?_
      refine j_aload_n (pc := 79) dX1_goTogether_79 rfl ?_
      refine j_getR (pc := 80) f_X1_15 dX1_goTogether_80 rfl rfl (by decide) rfl ?_
      refine j_iconst (pc := 83) dX1_goTogether_83 ?_
      refine j_bipush (pc := 84) dX1_goTogether_84 (by decide) ?_
      refine j_acp (pc := 86) 8 k_acp_X1 dX1_goTogether_86 rfl rfl (by decide) (by decide) (by decide) (by decide) (by decide) (by decide) ?_
      refine j_retv dX1_goTogether_89 (?_) rfl
      obtain rfl : x = 8 := by omega
      refine ⟨fun z hz => ?_, fun z z1 z2 => by rw [jSf_n z1, jSf_n z2]⟩
      rw [jSf_s, acp_lt hz, jSf_s]
      exact hg z hz
    · refine j_iconst (pc := 8) dX1_goTogether_8 ?_
      refine j_istore_n2 (pc := 9) dX1_goTogether_9 (by decide) rfl ?_
      refine j_iconst (pc := 10) dX1_goTogether_10 ?_
      refine j_istore_n3 (pc := 11) dX1_goTogether_11 (by decide) rfl ?_
      refine k12 (by omega) 0 0 (by omega) (by omega) (fun y => ?_)
      constructor
      · intro h; simp at h
      · rintro ⟨-, a, h, -⟩; omega
  refine j_iconst (pc := 0) dX1_goTogether_0 ?_
  refine j_istore_n1 (pc := 1) dX1_goTogether_1 (by decide) rfl ?_
  have hy := key 0 (I 99) (by omega) (fun z hz => by omega) none none
  rw [jSf_i] at hy
  exact hy
theorem sch_ne {f : Nat → Int} : ∀ n a b, sch f n a b → (a ≠ b ∨ a = 0)
  | 0, a, b, h => Or.inr h.1
  | n + 1, a, b, ⟨_, _, _, _, _, h⟩ => h.1
theorem sch_lt {f : Nat → Int} {n a b : Nat} (h : sch f (n + 1) a b) : True := trivial
theorem tg_go2 {f : Nat → Int} {n x y : Nat} (hx : x < 8) (hy : y < 8) : tgP (sch f n) (qt f n) x y ↔ sch f (n + 1) x y := by
  have e : sch f (n + 1) x y ↔ ∃ a b, a < 8 ∧ b < 8 ∧ sch f n a b ∧ go2 f n a b x y := Iff.rfl
  rw [e]
  unfold tgP agP go2
  constructor
  · rintro ⟨h1, a, ha, h2, b, hb, h3, h4, h5⟩
    refine ⟨a, b, ha, hb, h3, h1, ?_, h2, h4⟩
    rintro ⟨g1, g2, g3⟩
    have hne := sch_ne n a b h3
    rcases pairN_inj ha hx hb hy g1 g2 g3 with ⟨e1, e2⟩ | ⟨e1, e2⟩
    · subst e1; subst e2
      rcases h1 with h1 | h1
      · exact h1 rfl
      · rcases hne with hne | hne
        · exact hne rfl
        · omega
    · exact h5 ⟨g1, e2.symm, e1.symm⟩
  · rintro ⟨a, b, ha, hb, h3, h1, h6, h2, h4⟩
    refine ⟨h1, a, ha, h2, b, hb, h3, h4, ?_⟩
    rintro ⟨g1, g2, g3⟩
    subst g2; subst g3
    exact h6 ⟨g1, Ne.symm g1, pairN_comm y b⟩
theorem c_ofTwo (X : jX) (I : jMI) (f : Nat → Int) (u v : Nat) (hH : hR f I 2) (hok : okSt f) (hu : u < 8) (hv : v < 8) : C_X1_fewestMinutesOfTwo X [jR 96, jR 2, jI u, jI v] I (fun r I' => isSch f u v r ∧ ∀ z, z ≠ 97 → z ≠ 98 → z ≠ 99 → I' z = I z) := by
  refine CG.of (by decide) [some (jR 96), some (jR 2), some (jI u), some (jI v), none] rfl (Nat.le_of_ble_eq_true rfl) ?_
  have k36 : ∀ (n : Nat) (J0 : jMI), n ≤ 20 → qB (sch f n) (J0 98) → (∀ k, k < n → ¬ sch f k u v) → (∀ z, z ≠ 97 → z ≠ 98 → z ≠ 99 → J0 z = I z) → S_X1_fewestMinutesOfTwo X 36 [some (jR 96), some (jR 2), some (jI u), some (jI v), some (jI n)] [] J0 (fun r I' => isSch f u v r ∧ ∀ z, z ≠ 97 → z ≠ 98 → z ≠ 99 → I' z = I z) := by
    refine mu2 (fun n _ => 21 - n) _ (fun n J0 ih hn hQ hno hz => ?_)
    have hH' : hR f J0 2 := hR_fr hH (fun z hz' => hz z (by omega) (by omega) (by omega))
    obtain ⟨w, hw1, hw2, hw3⟩ := hQ u hu
    refine j_iload (pc := 36) dX1_fewestMinutesOfTwo_36 rfl ?_
    refine j_bipush (pc := 38) dX1_fewestMinutesOfTwo_38 (by decide) ?_
    refine j_icmp_ge (pc := 40) 77 dX1_fewestMinutesOfTwo_40 (by decide) (by omega) (by omega) (fun h_40 => ?_) (fun h_40 => ?_)
    · refine j_aload_n (pc := 77) dX1_fewestMinutesOfTwo_77 rfl ?_
      refine j_getR (pc := 78) f_X1_15 dX1_fewestMinutesOfTwo_78 rfl rfl (by decide) rfl ?_
      refine j_iload_n (pc := 81) dX1_fewestMinutesOfTwo_81 rfl ?_
      refine j_iald_b (pc := 82) (u) dX1_fewestMinutesOfTwo_82 rfl (by decide) (by decide) (by omega) (by omega) ?_
      rw [hw1]
      refine j_iload_n (pc := 83) dX1_fewestMinutesOfTwo_83 rfl ?_
      refine j_goI (pc := 84) (j_runSN k_X1_40 m_X11_bit (c_bit X J0 w v) dX1_fewestMinutesOfTwo_84 (by decide) rfl rfl (Nat.le_of_ble_eq_true rfl)) (fun r4 I4 h4 => ?_)
      obtain ⟨rfl, rfl⟩ := h4
      rw [jbit (by omega) (by omega)]
      refine j_iconst (pc := 87) dX1_fewestMinutesOfTwo_87 ?_
      refine j_icmp_ne (pc := 88) 96 dX1_fewestMinutesOfTwo_88 (by decide) (by split <;> omega) (by omega) (fun h_88 => ?_) (fun h_88 => ?_)
      · refine j_iconst (pc := 96) dX1_fewestMinutesOfTwo_96 ?_
        refine j_reti dX1_fewestMinutesOfTwo_97 (?_) rfl
        obtain rfl : n = 20 := by omega
        first
          | (have hx : w.testBit v = true := by split at h_88 <;> first | assumption | omega
             exact ⟨Or.inr ⟨20, rfl, by omega, ((hw3 v).mp hx).2, hno⟩, hz⟩)
          | (have hx : ¬ w.testBit v = true := by split at h_88 <;> first | assumption | omega
             refine ⟨Or.inl ⟨rfl, fun k hk hh => ?_⟩, hz⟩
             by_cases e : k = 20
             · subst e; exact hx ((hw3 v).mpr ⟨hv, hh⟩)
             · exact hno k (by omega) hh)
      · refine j_bipush (pc := 91) dX1_fewestMinutesOfTwo_91 (by decide) ?_
        refine j_goto (pc := 93) 97 dX1_fewestMinutesOfTwo_93 (by decide) ?_
        refine j_reti dX1_fewestMinutesOfTwo_97 (?_) rfl
        obtain rfl : n = 20 := by omega
        first
          | (have hx : w.testBit v = true := by split at h_88 <;> first | assumption | omega
             exact ⟨Or.inr ⟨20, rfl, by omega, ((hw3 v).mp hx).2, hno⟩, hz⟩)
          | (have hx : ¬ w.testBit v = true := by split at h_88 <;> first | assumption | omega
             refine ⟨Or.inl ⟨rfl, fun k hk hh => ?_⟩, hz⟩
             by_cases e : k = 20
             · subst e; exact hx ((hw3 v).mpr ⟨hv, hh⟩)
             · exact hno k (by omega) hh)
    · refine j_aload_n (pc := 43) dX1_fewestMinutesOfTwo_43 rfl ?_
      refine j_getR (pc := 44) f_X1_15 dX1_fewestMinutesOfTwo_44 rfl rfl (by decide) rfl ?_
      refine j_iload_n (pc := 47) dX1_fewestMinutesOfTwo_47 rfl ?_
      refine j_iald_b (pc := 48) (u) dX1_fewestMinutesOfTwo_48 rfl (by decide) (by decide) (by omega) (by omega) ?_
      rw [hw1]
      refine j_iload_n (pc := 49) dX1_fewestMinutesOfTwo_49 rfl ?_
      refine j_goI (pc := 50) (j_runSN k_X1_40 m_X11_bit (c_bit X J0 w v) dX1_fewestMinutesOfTwo_50 (by decide) rfl rfl (Nat.le_of_ble_eq_true rfl)) (fun r1 I1 h1 => ?_)
      obtain ⟨rfl, rfl⟩ := h1
      rw [jbit (by omega) (by omega)]
      refine j_iconst (pc := 53) dX1_fewestMinutesOfTwo_53 ?_
      refine j_icmp_ne (pc := 54) 60 dX1_fewestMinutesOfTwo_54 (by decide) (by split <;> omega) (by omega) (fun h_54 => ?_) (fun h_54 => ?_)
      · refine j_aload_n (pc := 60) dX1_fewestMinutesOfTwo_60 rfl ?_
        refine j_aload_n (pc := 61) dX1_fewestMinutesOfTwo_61 rfl ?_
        refine j_iload (pc := 62) dX1_fewestMinutesOfTwo_62 rfl ?_
        refine j_goV (pc := 64) (j_runV k_X1_43 m_X1_lookAt (c_look X I1 f n hH' hok (by omega)) dX1_fewestMinutesOfTwo_64 rfl (by decide) rfl (by decide) (by decide) rfl rfl (Nat.le_of_ble_eq_true rfl)) (fun I2 h2 => ?_)
        obtain ⟨hQ2, hz2⟩ := h2
        refine j_aload_n (pc := 67) dX1_fewestMinutesOfTwo_67 rfl ?_
        refine j_goV (pc := 68) (j_runV k_X1_57 m_X1_goTogether (c_together X I2 (sch f n) (qt f n) hQ2 (by rw [hz2 98 (by omega)]; exact hQ)) dX1_fewestMinutesOfTwo_68 rfl (by decide) rfl (by decide) (by decide) rfl rfl (Nat.le_of_ble_eq_true rfl)) (fun I3 h3 => ?_)
        obtain ⟨hQ3, hz3⟩ := h3
        refine j_iinc4 (pc := 71) dX1_fewestMinutesOfTwo_71 (by decide) rfl ?_
        refine j_goto (pc := 74) 36 dX1_fewestMinutesOfTwo_74 (by decide) ?_
        have hx : ¬ w.testBit v = true := by split at h_54 <;> first | assumption | omega
        refine ih (n + 1) I3 (by omega) (by omega) (qB_iff hQ3 (fun x y hx hy => tg_go2 hx hy)) (fun k hk hh => ?_) (fun z z1 z2 z3 => (hz3 z z2 z3).trans ((hz2 z z1).trans (hz z z1 z2 z3)))
        by_cases e : k = n
        · subst e; exact hx ((hw3 v).mpr ⟨hv, hh⟩)
        · exact hno k (by omega) hh
      · refine j_iload (pc := 57) dX1_fewestMinutesOfTwo_57 rfl ?_
        refine j_reti dX1_fewestMinutesOfTwo_59 (?_) rfl
        have hx : w.testBit v = true := by split at h_54 <;> first | assumption | omega
        exact ⟨Or.inr ⟨n, rfl, hn, ((hw3 v).mp hx).2, hno⟩, hz⟩
  have k3 : ∀ (i : Nat) (g : Nat → Int), i ≤ 8 → (∀ a, a < i → g a = if a = 0 then 1 else 0) → S_X1_fewestMinutesOfTwo X 3 [some (jR 96), some (jR 2), some (jI u), some (jI v), some (jI i)] [] (jSf I 98 g) (fun r I' => isSch f u v r ∧ ∀ z, z ≠ 97 → z ≠ 98 → z ≠ 99 → I' z = I z) := by
    refine mu2 (fun i _ => 8 - i) _ (fun i g ih hi hg => ?_)
    refine j_iload (pc := 3) dX1_fewestMinutesOfTwo_3 rfl ?_
    refine j_bipush (pc := 5) dX1_fewestMinutesOfTwo_5 (by decide) ?_
    refine j_icmp_ge (pc := 7) 33 dX1_fewestMinutesOfTwo_7 (by decide) (by omega) (by omega) (fun h_7 => ?_) (fun h_7 => ?_)
    · refine j_iconst (pc := 33) dX1_fewestMinutesOfTwo_33 ?_
      refine j_istore4 (pc := 34) dX1_fewestMinutesOfTwo_34 (by decide) rfl ?_
      refine k36 0 _ (by omega) (fun a ha => ?_) (fun k hk => by omega) (fun z z1 z2 z3 => jSf_n z2)
      rw [jSf_s, hg a (by omega)]
      by_cases e : a = 0
      · rw [if_pos e]
        refine ⟨1, rfl, by omega, fun b => ?_⟩
        rw [show (1 : Nat) = 2 ^ 0 from rfl, tb_pow]
        exact ⟨fun h => ⟨by omega, e, h⟩, fun h => h.2.2⟩
      · rw [if_neg e]
        refine ⟨0, rfl, by omega, fun b => ?_⟩
        constructor
        · intro h; simp at h
        · rintro ⟨-, h, -⟩; exact absurd h e
    · refine j_aload_n (pc := 10) dX1_fewestMinutesOfTwo_10 rfl ?_
      refine j_getR (pc := 11) f_X1_15 dX1_fewestMinutesOfTwo_11 rfl rfl (by decide) rfl ?_
      refine j_iload (pc := 14) dX1_fewestMinutesOfTwo_14 rfl ?_
      refine j_iload (pc := 16) dX1_fewestMinutesOfTwo_16 rfl ?_
      refine j_if_ne (pc := 18) 25 dX1_fewestMinutesOfTwo_18 (by decide) (by omega) (fun h_18 => ?_) (fun h_18 => ?_)
      · refine j_iconst (pc := 25) dX1_fewestMinutesOfTwo_25 ?_
        refine j_iast_a (pc := 26) (i) dX1_fewestMinutesOfTwo_26 rfl (by decide) (by decide) (by omega) (by omega) ?_
        refine j_iinc4 (pc := 27) dX1_fewestMinutesOfTwo_27 (by decide) rfl ?_
        refine j_goto (pc := 30) 3 dX1_fewestMinutesOfTwo_30 (by decide) ?_
        refine ih (i + 1) _ (by omega) (by omega) (fun a ha => ?_)
        by_cases e : a = i
        · subst e
          rw [jU_s]
          first
            | rw [if_pos (by omega)]
            | rw [if_neg (by omega)]
        · rw [jU_n e]; exact hg a (by omega)
      · refine j_iconst (pc := 21) dX1_fewestMinutesOfTwo_21 ?_
        refine j_goto (pc := 22) 26 dX1_fewestMinutesOfTwo_22 (by decide) ?_
        refine j_iast_a (pc := 26) (i) dX1_fewestMinutesOfTwo_26 rfl (by decide) (by decide) (by omega) (by omega) ?_
        refine j_iinc4 (pc := 27) dX1_fewestMinutesOfTwo_27 (by decide) rfl ?_
        refine j_goto (pc := 30) 3 dX1_fewestMinutesOfTwo_30 (by decide) ?_
        refine ih (i + 1) _ (by omega) (by omega) (fun a ha => ?_)
        by_cases e : a = i
        · subst e
          rw [jU_s]
          first
            | rw [if_pos (by omega)]
            | rw [if_neg (by omega)]
        · rw [jU_n e]; exact hg a (by omega)
  refine j_iconst (pc := 0) dX1_fewestMinutesOfTwo_0 ?_
  refine j_istore4 (pc := 1) dX1_fewestMinutesOfTwo_1 (by decide) rfl ?_
  have hy := k3 0 (I 98) (by omega) (fun a ha => by omega)
  rw [jSf_i] at hy
  exact hy
