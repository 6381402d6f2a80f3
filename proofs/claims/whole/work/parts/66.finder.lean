/-! ===== the class: the finder's sets ===== -/
/-- a row of sets of rooms -/
def qB (P : Nat → Nat → Prop) (g : Nat → Int) : Prop := ∀ a, a < 8 → ∃ w : Nat, g a = w ∧ w < 2 ^ 8 ∧ ∀ b, w.testBit b = true ↔ (b < 8 ∧ P a b)
theorem qB_iff {P P' : Nat → Nat → Prop} {g : Nat → Int} (h : qB P g) (e : ∀ a b, a < 8 → b < 8 → (P a b ↔ P' a b)) : qB P' g := by
  intro a ha
  obtain ⟨w, h1, h2, h3⟩ := h a ha
  refine ⟨w, h1, h2, fun b => ?_⟩
  rw [h3 b]
  exact ⟨fun ⟨x, y⟩ => ⟨x, (e a b ha x).mp y⟩, fun ⟨x, y⟩ => ⟨x, (e a b ha x).mpr y⟩⟩
theorem tb_pow {a b : Nat} : (2 ^ a).testBit b = true ↔ b = a := by
  rw [Nat.testBit_two_pow, decide_eq_true_eq]
  exact ⟨fun h => h.symm, fun h => h.symm⟩
theorem c_stay (X : jX) (I : jMI) : C_X1_stayOnly X [jR 96] I (fun I' => qB (fun a b => a = b) (I' 97) ∧ ∀ z, z ≠ 97 → I' z = I z) := by
  refine CG.of (by decide) [some (jR 96), none] rfl (Nat.le_of_ble_eq_true rfl) ?_
  have key : ∀ (i : Nat) (g : Nat → Int), i ≤ 8 → (∀ a, a < i → g a = ((2 ^ a : Nat) : Int)) → S_X1_stayOnly X 2 [some (jR 96), some (jI i)] [] (jSf I 97 g) (fun I' => qB (fun a b => a = b) (I' 97) ∧ ∀ z, z ≠ 97 → I' z = I z) := by
    refine mu2 (fun i _ => 8 - i) _ (fun i g ih hi hg => ?_)
    refine j_iload_n (pc := 2) dX1_stayOnly_2 rfl ?_
    refine j_bipush (pc := 3) dX1_stayOnly_3 (by decide) ?_
    refine j_icmp_ge (pc := 5) 23 dX1_stayOnly_5 (by decide) (by omega) (by omega) (fun h_5 => ?_) (fun h_5 => ?_)
    · refine j_retv dX1_stayOnly_23 (?_) rfl
      refine ⟨fun a ha => ?_, fun z hz => jSf_n hz⟩
      rw [jSf_s]
      refine ⟨2 ^ a, hg a (by omega), Nat.pow_lt_pow_right (by omega) ha, fun b => ?_⟩
      rw [tb_pow]
      exact ⟨fun h => ⟨by omega, h.symm⟩, fun h => h.2.symm⟩
    · refine j_aload_n (pc := 8) dX1_stayOnly_8 rfl ?_
      refine j_getR (pc := 9) f_X1_9 dX1_stayOnly_9 rfl rfl (by decide) rfl ?_
      refine j_iload_n (pc := 12) dX1_stayOnly_12 rfl ?_
      refine j_iconst (pc := 13) dX1_stayOnly_13 ?_
      refine j_iload_n (pc := 14) dX1_stayOnly_14 rfl ?_
      refine j_ishl (pc := 15) dX1_stayOnly_15 ?_
      rw [jshl_n (by omega)]
      refine j_iast_a (pc := 16) (i) dX1_stayOnly_16 rfl (by decide) (by decide) (by omega) (by omega) ?_
      refine j_iinc1 (pc := 17) dX1_stayOnly_17 (by decide) rfl ?_
      refine j_goto (pc := 20) 2 dX1_stayOnly_20 (by decide) ?_
      refine ih (i + 1) _ (by omega) (by omega) (fun a ha => ?_)
      by_cases e : a = i
      · subst e; rw [jU_s]
      · rw [jU_n e]; exact hg a (by omega)
  refine j_iconst (pc := 0) dX1_stayOnly_0 ?_
  refine j_istore_n1 (pc := 1) dX1_stayOnly_1 (by decide) rfl ?_
  have hy := key 0 (I 97) (by omega) (fun a ha => by omega)
  rw [jSf_i] at hy
  exact hy
def inP (f : Nat → Int) (P : Nat → Nat → Prop) (b0 : Nat) (most : Int) (a b : Nat) : Prop := P a b ∨ (b = b0 ∧ 0 ≤ cr f a b0 ∧ cr f a b0 ≤ most)
theorem c_into (X : jX) (I : jMI) (f : Nat → Int) (P : Nat → Nat → Prop) (b0 : Nat) (most : Int) (hH : hR f I 2) (hok : okSt f) (hb : b0 < 8) (hm : -100 ≤ most ∧ most ≤ 100) (hQ : qB P (I 97)) : C_X1_allowInto X [jR 96, jR 2, jI b0, jI most] I (fun I' => qB (inP f P b0 most) (I' 97) ∧ ∀ z, z ≠ 97 → I' z = I z) := by
  refine CG.of (by decide) [some (jR 96), some (jR 2), some (jI b0), some (jI most), none, none] rfl (Nat.le_of_ble_eq_true rfl) ?_
  have key : ∀ (i : Nat) (g : Nat → Int), i ≤ 8 → (∀ a, a < i → ∃ w : Nat, g a = w ∧ w < 2 ^ 8 ∧ ∀ b, w.testBit b = true ↔ (b < 8 ∧ inP f P b0 most a b)) → (∀ a, i ≤ a → g a = I 97 a) → ∀ x5, S_X1_allowInto X 3 [some (jR 96), some (jR 2), some (jI b0), some (jI most), some (jI i), x5] [] (jSf I 97 g) (fun I' => qB (inP f P b0 most) (I' 97) ∧ ∀ z, z ≠ 97 → I' z = I z) := by
    refine mu2 (fun i _ => 8 - i) _ (fun i g ih hi hg hg2 x5 => ?_)
    refine j_iload (pc := 3) dX1_allowInto_3 rfl ?_
    refine j_bipush (pc := 5) dX1_allowInto_5 (by decide) ?_
    refine j_icmp_ge (pc := 7) 53 dX1_allowInto_7 (by decide) (by omega) (by omega) (fun h_7 => ?_) (fun h_7 => ?_)
    · refine j_retv dX1_allowInto_53 (?_) rfl
      refine ⟨fun a ha => ?_, fun z hz => jSf_n hz⟩
      rw [jSf_s]
      exact hg a (by omega)
    · refine j_aload_n (pc := 10) dX1_allowInto_10 rfl ?_
      refine j_getR (pc := 11) f_X1_34 dX1_allowInto_11 rfl rfl (by decide) rfl ?_
      refine j_iload (pc := 14) dX1_allowInto_14 rfl ?_
      refine j_iload_n (pc := 16) dX1_allowInto_16 rfl ?_
      refine j_goI (pc := 17) (j_runSN k_X1_37 m_X11_pair (c_pair X (jSf I 97 g) i b0) dX1_allowInto_17 (by decide) rfl rfl (Nat.le_of_ble_eq_true rfl)) (fun r1 I1 h1 => ?_)
      obtain ⟨rfl, rfl⟩ := h1
      refine j_iald_c (pc := 20) (8 * i + b0) dX1_allowInto_20 rfl (by decide) (by decide) (by omega) (by omega) (by decide) ?_
      rw [show I 10 (8 * i + b0) = cr f i b0 from hH.2.2.1 i b0 (by omega) hb]
      have hcr := cr_rng hok (a := i) (b := b0) (by omega) hb
      obtain ⟨w, hw1, hw2, hw3⟩ := hQ i (by omega)
      refine j_istore5 (pc := 21) dX1_allowInto_21 (by decide) rfl ?_
      refine j_iload (pc := 23) dX1_allowInto_23 rfl ?_
      refine j_if_lt (pc := 25) 47 dX1_allowInto_25 (by decide) (by omega) (fun h_25 => ?_) (fun h_25 => ?_)
      · refine j_iinc4 (pc := 47) dX1_allowInto_47 (by decide) rfl ?_
        refine j_goto (pc := 50) 3 dX1_allowInto_50 (by decide) ?_
        first
          | (have hguard : 0 ≤ cr f i b0 ∧ cr f i b0 ≤ most := by omega
             refine ih (i + 1) (jU g i ((w ||| 2 ^ b0 : Nat) : Int)) (by omega) (by omega) (fun a ha => ?_) (fun a ha => by rw [jU_n (by omega)]; exact hg2 a (by omega)) _
             by_cases e : a = i
             · subst e
               rw [jU_s]
               refine ⟨_, rfl, lt_or_pow hw2 hb, bt_set hw3 (fun b => ?_)⟩
               unfold inP
               constructor
               · rintro ⟨h1, h2 | ⟨h2, h3⟩⟩
                 · exact Or.inl ⟨h1, h2⟩
                 · exact Or.inr h2
               · rintro (⟨h1, h2⟩ | rfl)
                 · exact ⟨h1, Or.inl h2⟩
                 · exact ⟨hb, Or.inr ⟨rfl, by omega, by omega⟩⟩
             · rw [jU_n e]; exact hg a (by omega))
          | (have hguard : ¬ (0 ≤ cr f i b0 ∧ cr f i b0 ≤ most) := by omega
             refine ih (i + 1) g (by omega) (by omega) (fun a ha => ?_) (fun a ha => hg2 a (by omega)) _
             by_cases e : a = i
             · subst e
               refine ⟨w, (hg2 a (by omega)).trans hw1, hw2, fun b => ?_⟩
               rw [hw3 b]
               unfold inP
               constructor
               · rintro ⟨h1, h2⟩
                 exact ⟨h1, Or.inl h2⟩
               · rintro ⟨h1, h2 | ⟨h2, h3, h4⟩⟩
                 · exact ⟨h1, h2⟩
                 · omega
             · exact hg a (by omega))
      · refine j_iload (pc := 28) dX1_allowInto_28 rfl ?_
        refine j_iload_n (pc := 30) dX1_allowInto_30 rfl ?_
        refine j_icmp_gt (pc := 31) 47 dX1_allowInto_31 (by decide) (by omega) (by omega) (fun h_31 => ?_) (fun h_31 => ?_)
        · refine j_iinc4 (pc := 47) dX1_allowInto_47 (by decide) rfl ?_
          refine j_goto (pc := 50) 3 dX1_allowInto_50 (by decide) ?_
          first
            | (have hguard : 0 ≤ cr f i b0 ∧ cr f i b0 ≤ most := by omega
               refine ih (i + 1) (jU g i ((w ||| 2 ^ b0 : Nat) : Int)) (by omega) (by omega) (fun a ha => ?_) (fun a ha => by rw [jU_n (by omega)]; exact hg2 a (by omega)) _
               by_cases e : a = i
               · subst e
                 rw [jU_s]
                 refine ⟨_, rfl, lt_or_pow hw2 hb, bt_set hw3 (fun b => ?_)⟩
                 unfold inP
                 constructor
                 · rintro ⟨h1, h2 | ⟨h2, h3⟩⟩
                   · exact Or.inl ⟨h1, h2⟩
                   · exact Or.inr h2
                 · rintro (⟨h1, h2⟩ | rfl)
                   · exact ⟨h1, Or.inl h2⟩
                   · exact ⟨hb, Or.inr ⟨rfl, by omega, by omega⟩⟩
               · rw [jU_n e]; exact hg a (by omega))
            | (have hguard : ¬ (0 ≤ cr f i b0 ∧ cr f i b0 ≤ most) := by omega
               refine ih (i + 1) g (by omega) (by omega) (fun a ha => ?_) (fun a ha => hg2 a (by omega)) _
               by_cases e : a = i
               · subst e
                 refine ⟨w, (hg2 a (by omega)).trans hw1, hw2, fun b => ?_⟩
                 rw [hw3 b]
                 unfold inP
                 constructor
                 · rintro ⟨h1, h2⟩
                   exact ⟨h1, Or.inl h2⟩
                 · rintro ⟨h1, h2 | ⟨h2, h3, h4⟩⟩
                   · exact ⟨h1, h2⟩
                   · omega
               · exact hg a (by omega))
        · refine j_aload_n (pc := 34) dX1_allowInto_34 rfl ?_
          refine j_getR (pc := 35) f_X1_9 dX1_allowInto_35 rfl rfl (by decide) rfl ?_
          refine j_iload (pc := 38) dX1_allowInto_38 rfl ?_
          refine j_dup2 (pc := 40) dX1_allowInto_40 ?_
          refine j_iald_a (pc := 41) (i) dX1_allowInto_41 rfl (by decide) (by decide) (by omega) (by omega) ?_
          rw [show g i = (w : Int) from (hg2 i (by omega)).trans hw1]
          refine j_iconst (pc := 42) dX1_allowInto_42 ?_
          refine j_iload_n (pc := 43) dX1_allowInto_43 rfl ?_
          refine j_ishl (pc := 44) dX1_allowInto_44 ?_
          rw [jshl_n (by omega)]
          refine j_ior (pc := 45) dX1_allowInto_45 ?_
          rw [jbor_n (by omega) (by have := Nat.pow_lt_pow_right (a := 2) (by omega) hb; omega)]
          refine j_iast_a (pc := 46) (i) dX1_allowInto_46 rfl (by decide) (by decide) (by omega) (by omega) ?_
          refine j_iinc4 (pc := 47) dX1_allowInto_47 (by decide) rfl ?_
          refine j_goto (pc := 50) 3 dX1_allowInto_50 (by decide) ?_
          first
            | (have hguard : 0 ≤ cr f i b0 ∧ cr f i b0 ≤ most := by omega
               refine ih (i + 1) (jU g i ((w ||| 2 ^ b0 : Nat) : Int)) (by omega) (by omega) (fun a ha => ?_) (fun a ha => by rw [jU_n (by omega)]; exact hg2 a (by omega)) _
               by_cases e : a = i
               · subst e
                 rw [jU_s]
                 refine ⟨_, rfl, lt_or_pow hw2 hb, bt_set hw3 (fun b => ?_)⟩
                 unfold inP
                 constructor
                 · rintro ⟨h1, h2 | ⟨h2, h3⟩⟩
                   · exact Or.inl ⟨h1, h2⟩
                   · exact Or.inr h2
                 · rintro (⟨h1, h2⟩ | rfl)
                   · exact ⟨h1, Or.inl h2⟩
                   · exact ⟨hb, Or.inr ⟨rfl, by omega, by omega⟩⟩
               · rw [jU_n e]; exact hg a (by omega))
            | (have hguard : ¬ (0 ≤ cr f i b0 ∧ cr f i b0 ≤ most) := by omega
               refine ih (i + 1) g (by omega) (by omega) (fun a ha => ?_) (fun a ha => hg2 a (by omega)) _
               by_cases e : a = i
               · subst e
                 refine ⟨w, (hg2 a (by omega)).trans hw1, hw2, fun b => ?_⟩
                 rw [hw3 b]
                 unfold inP
                 constructor
                 · rintro ⟨h1, h2⟩
                   exact ⟨h1, Or.inl h2⟩
                 · rintro ⟨h1, h2 | ⟨h2, h3, h4⟩⟩
                   · exact ⟨h1, h2⟩
                   · omega
               · exact hg a (by omega))
  refine j_iconst (pc := 0) dX1_allowInto_0 ?_
  refine j_istore4 (pc := 1) dX1_allowInto_1 (by decide) rfl ?_
  have hy := key 0 (I 97) (by omega) (fun a ha => by omega) (fun a _ => rfl) none
  rw [jSf_i] at hy
  exact hy
/-- who does not wake: no bit -/
theorem isMo_W {f : Nat → Int} {room : Nat} {mi v n : Int} {S : Nat} (hS : f 5 = S) (h : isMo f room mi S v) (hn : n ≤ 30) : n ≤ v ↔ isW f n room mi 0 := by
  rw [h.2.2 n hn]
  constructor
  · intro hh
    refine ⟨by omega, fun s => ?_⟩
    constructor
    · intro hb; simp at hb
    · rintro ⟨h1, h2⟩; exact absurd h2 (hh s (by omega))
  · intro hw s hs hk
    have := (hw.2 s).mpr ⟨by omega, hk⟩
    simp at this
theorem c_look (X : jX) (I : jMI) (f : Nat → Int) (m : Int) (hH : hR f I 2) (hok : okSt f) (hm : 0 ≤ m ∧ m ≤ 59) : C_X1_lookAt X [jR 96, jR 2, jI m] I (fun I' => qB (qt f m) (I' 97) ∧ ∀ z, z ≠ 97 → I' z = I z) := by
  refine CG.of (by decide) [some (jR 96), some (jR 2), some (jI m), none] rfl (Nat.le_of_ble_eq_true rfl) ?_
  have key : ∀ (b : Nat) (J0 : jMI), b ≤ 8 → (∀ z, z ≠ 97 → J0 z = I z) → qB (fun x y => x = y ∨ (y < b ∧ 0 ≤ cr f x y ∧ isW f (cr f x y) y m 0)) (J0 97) → S_X1_lookAt X 6 [some (jR 96), some (jR 2), some (jI m), some (jI b)] [] J0 (fun I' => qB (qt f m) (I' 97) ∧ ∀ z, z ≠ 97 → I' z = I z) := by
    refine mu2 (fun b _ => 8 - b) _ (fun b J0 ih hb hz hQ => ?_)
    have hH' : hR f J0 2 := hR_fr hH (fun z hz' => hz z (by omega))
    refine j_iload_n (pc := 6) dX1_lookAt_6 rfl ?_
    refine j_bipush (pc := 7) dX1_lookAt_7 (by decide) ?_
    refine j_icmp_ge (pc := 9) 30 dX1_lookAt_9 (by decide) (by omega) (by omega) (fun h_9 => ?_) (fun h_9 => ?_)
    · refine j_retv dX1_lookAt_30 (?_) rfl
      obtain rfl : b = 8 := by omega
      refine ⟨qB_iff hQ (fun x y hx hy => ?_), hz⟩
      unfold qt
      constructor
      · rintro (h | ⟨h1, h2, h3⟩)
        · exact Or.inl h
        · exact Or.inr ⟨h2, h3⟩
      · rintro (h | ⟨h2, h3⟩)
        · exact Or.inl h
        · exact Or.inr ⟨hy, h2, h3⟩
    · refine j_aload_n (pc := 12) dX1_lookAt_12 rfl ?_
      refine j_aload_n (pc := 13) dX1_lookAt_13 rfl ?_
      refine j_iload_n (pc := 14) dX1_lookAt_14 rfl ?_
      refine j_aload_n (pc := 15) dX1_lookAt_15 rfl ?_
      refine j_iload_n (pc := 16) dX1_lookAt_16 rfl ?_
      refine j_iload_n (pc := 17) dX1_lookAt_17 rfl ?_
      refine j_goI (pc := 18) (j_runV k_X1_24 m_X2_loudest (c_loudest X J0 f b m hH' hok (by omega) hm) dX1_lookAt_18 rfl (by decide) rfl (by decide) (by decide) rfl rfl (Nat.le_of_ble_eq_true rfl)) (fun r1 I1 h1 => ?_)
      obtain ⟨⟨S, hS, hMo⟩, rfl⟩ := h1
      have hr1 := hMo.1
      have hr2 := hMo.2.1
      refine j_goV (pc := 21) (j_runV k_X1_30 m_X1_allowInto (c_into X I1 f _ b r1 hH' hok (by omega) (by omega) hQ) dX1_lookAt_21 rfl (by decide) rfl (by decide) (by decide) rfl rfl (Nat.le_of_ble_eq_true rfl)) (fun I2 h2 => ?_)
      obtain ⟨h2, hz2⟩ := h2
      refine j_iinc3 (pc := 24) dX1_lookAt_24 (by decide) rfl ?_
      refine j_goto (pc := 27) 6 dX1_lookAt_27 (by decide) ?_
      refine ih (b + 1) I2 (by omega) (by omega) (fun z hz' => (hz2 z hz').trans (hz z hz')) (qB_iff h2 (fun x y hx hy => ?_))
      have hcr := cr_rng hok hx hy
      unfold inP
      constructor
      · rintro ((h | ⟨h1, h2, h3⟩) | ⟨rfl, h2, h3⟩)
        · exact Or.inl h
        · exact Or.inr ⟨by omega, h2, h3⟩
        · exact Or.inr ⟨by omega, h2, (isMo_W hS hMo (by omega)).mp h3⟩
      · rintro (h | ⟨g1, g2, g3⟩)
        · exact Or.inl (Or.inl h)
        · by_cases e : y = b
          · subst e
            exact Or.inr ⟨rfl, g2, (isMo_W hS hMo (by omega)).mpr g3⟩
          · exact Or.inl (Or.inr ⟨by omega, g2, g3⟩)
  refine j_aload_n (pc := 0) dX1_lookAt_0 rfl ?_
  refine j_goV (pc := 1) (j_runV k_X1_21 m_X1_stayOnly (c_stay X I) dX1_lookAt_1 rfl (by decide) rfl (by decide) (by decide) rfl rfl (Nat.le_of_ble_eq_true rfl)) (fun I1 h1 => ?_)
  obtain ⟨h1, hz1⟩ := h1
  refine j_iconst (pc := 4) dX1_lookAt_4 ?_
  refine j_istore_n3 (pc := 5) dX1_lookAt_5 (by decide) rfl ?_
  refine key 0 I1 (by omega) hz1 (qB_iff h1 (fun x y hx hy => ?_))
  constructor
  · intro h; exact Or.inl h
  · rintro (h | ⟨h1, -⟩)
    · exact h
    · omega
theorem c_allow (X : jX) (I : jMI) (f : Nat → Int) (t : Int) (hH : hR f I 2) (hok : okSt f) (ht : 0 ≤ t ∧ t ≤ 9) : C_X1_allowCreaks X [jR 96, jR 2, jI t] I (fun I' => qB (fun x y => x = y ∨ et f t x y) (I' 97) ∧ ∀ z, z ≠ 97 → I' z = I z) := by
  refine CG.of (by decide) [some (jR 96), some (jR 2), some (jI t), none] rfl (Nat.le_of_ble_eq_true rfl) ?_
  have key : ∀ (b : Nat) (J0 : jMI), b ≤ 8 → (∀ z, z ≠ 97 → J0 z = I z) → qB (fun x y => x = y ∨ (y < b ∧ 0 ≤ cr f x y ∧ cr f x y ≤ t)) (J0 97) → S_X1_allowCreaks X 6 [some (jR 96), some (jR 2), some (jI t), some (jI b)] [] J0 (fun I' => qB (fun x y => x = y ∨ et f t x y) (I' 97) ∧ ∀ z, z ≠ 97 → I' z = I z) := by
    refine mu2 (fun b _ => 8 - b) _ (fun b J0 ih hb hz hQ => ?_)
    have hH' : hR f J0 2 := hR_fr hH (fun z hz' => hz z (by omega))
    refine j_iload_n (pc := 6) dX1_allowCreaks_6 rfl ?_
    refine j_bipush (pc := 7) dX1_allowCreaks_7 (by decide) ?_
    refine j_icmp_ge (pc := 9) 25 dX1_allowCreaks_9 (by decide) (by omega) (by omega) (fun h_9 => ?_) (fun h_9 => ?_)
    · refine j_retv dX1_allowCreaks_25 (?_) rfl
      obtain rfl : b = 8 := by omega
      refine ⟨qB_iff hQ (fun x y hx hy => ?_), hz⟩
      unfold et edg
      constructor
      · rintro (h | ⟨h1, h2, h3⟩)
        · exact Or.inl h
        · exact Or.inr ⟨⟨hx, hy, h2⟩, h3⟩
      · rintro (h | ⟨⟨-, -, h2⟩, h3⟩)
        · exact Or.inl h
        · exact Or.inr ⟨hy, h2, h3⟩
    · refine j_aload_n (pc := 12) dX1_allowCreaks_12 rfl ?_
      refine j_aload_n (pc := 13) dX1_allowCreaks_13 rfl ?_
      refine j_iload_n (pc := 14) dX1_allowCreaks_14 rfl ?_
      refine j_iload_n (pc := 15) dX1_allowCreaks_15 rfl ?_
      refine j_goV (pc := 16) (j_runV k_X1_30 m_X1_allowInto (c_into X J0 f _ b t hH' hok (by omega) (by omega) hQ) dX1_allowCreaks_16 rfl (by decide) rfl (by decide) (by decide) rfl rfl (Nat.le_of_ble_eq_true rfl)) (fun I2 h2 => ?_)
      obtain ⟨h2, hz2⟩ := h2
      refine j_iinc3 (pc := 19) dX1_allowCreaks_19 (by decide) rfl ?_
      refine j_goto (pc := 22) 6 dX1_allowCreaks_22 (by decide) ?_
      refine ih (b + 1) I2 (by omega) (by omega) (fun z hz' => (hz2 z hz').trans (hz z hz')) (qB_iff h2 (fun x y hx hy => ?_))
      unfold inP
      constructor
      · rintro ((h | ⟨h1, h2, h3⟩) | ⟨rfl, h2, h3⟩)
        · exact Or.inl h
        · exact Or.inr ⟨by omega, h2, h3⟩
        · exact Or.inr ⟨by omega, h2, h3⟩
      · rintro (h | ⟨g1, g2, g3⟩)
        · exact Or.inl (Or.inl h)
        · by_cases e : y = b
          · subst e
            exact Or.inr ⟨rfl, g2, g3⟩
          · exact Or.inl (Or.inr ⟨by omega, g2, g3⟩)
  refine j_aload_n (pc := 0) dX1_allowCreaks_0 rfl ?_
  refine j_goV (pc := 1) (j_runV k_X1_21 m_X1_stayOnly (c_stay X I) dX1_allowCreaks_1 rfl (by decide) rfl (by decide) (by decide) rfl rfl (Nat.le_of_ble_eq_true rfl)) (fun I1 h1 => ?_)
  obtain ⟨h1, hz1⟩ := h1
  refine j_iconst (pc := 4) dX1_allowCreaks_4 ?_
  refine j_istore_n3 (pc := 5) dX1_allowCreaks_5 (by decide) rfl ?_
  refine key 0 I1 (by omega) hz1 (qB_iff h1 (fun x y hx hy => ?_))
  constructor
  · intro h; exact Or.inl h
  · rintro (h | ⟨h1, -⟩)
    · exact h
    · omega
theorem tb_or {w v b : Nat} : (w ||| v).testBit b = true ↔ (w.testBit b = true ∨ v.testBit b = true) := by
  rw [Nat.testBit_or, Bool.or_eq_true]
theorem tb_and {w v b : Nat} : (w &&& v).testBit b = true ↔ (w.testBit b = true ∧ v.testBit b = true) := by
  rw [Nat.testBit_and, Bool.and_eq_true]
theorem c_rAfter (X : jX) (I : jMI) (P : Nat → Nat → Prop) (w : Nat) (hw : w < 2 ^ 8) (hQ : qB P (I 97)) : C_X1_roomsAfter X [jR 96, jI w] I (fun r I' => ∃ v : Nat, r = v ∧ v < 2 ^ 8 ∧ (∀ b, v.testBit b = true ↔ (b < 8 ∧ ∃ a, a < 8 ∧ w.testBit a = true ∧ P a b)) ∧ I' = I) := by
  refine CG.of (by decide) [some (jR 96), some (jI w), none, none] rfl (Nat.le_of_ble_eq_true rfl) ?_
  have key : ∀ (i v : Nat), i ≤ 8 → v < 2 ^ 8 → (∀ b, v.testBit b = true ↔ (b < 8 ∧ ∃ a, a < i ∧ w.testBit a = true ∧ P a b)) → S_X1_roomsAfter X 4 [some (jR 96), some (jI w), some (jI v), some (jI i)] [] I (fun r I' => ∃ v : Nat, r = v ∧ v < 2 ^ 8 ∧ (∀ b, v.testBit b = true ↔ (b < 8 ∧ ∃ a, a < 8 ∧ w.testBit a = true ∧ P a b)) ∧ I' = I) := by
    refine mu2 (fun i _ => 8 - i) _ (fun i v ih hi hv hb => ?_)
    refine j_iload_n (pc := 4) dX1_roomsAfter_4 rfl ?_
    refine j_bipush (pc := 5) dX1_roomsAfter_5 (by decide) ?_
    refine j_icmp_ge (pc := 7) 34 dX1_roomsAfter_7 (by decide) (by omega) (by omega) (fun h_7 => ?_) (fun h_7 => ?_)
    · refine j_iload_n (pc := 34) dX1_roomsAfter_34 rfl ?_
      refine j_reti dX1_roomsAfter_35 (?_) rfl
      obtain rfl : i = 8 := by omega
      exact ⟨v, rfl, hv, hb, rfl⟩
    · refine j_iload_n (pc := 10) dX1_roomsAfter_10 rfl ?_
      refine j_iload_n (pc := 11) dX1_roomsAfter_11 rfl ?_
      refine j_goI (pc := 12) (j_runSN k_X1_40 m_X11_bit (c_bit X I w i) dX1_roomsAfter_12 (by decide) rfl rfl (Nat.le_of_ble_eq_true rfl)) (fun r1 I1 h1 => ?_)
      obtain ⟨rfl, rfl⟩ := h1
      rw [jbit (by omega) (by omega)]
      refine j_iconst (pc := 15) dX1_roomsAfter_15 ?_
      refine j_icmp_ne (pc := 16) 28 dX1_roomsAfter_16 (by decide) (by split <;> omega) (by omega) (fun h_16 => ?_) (fun h_16 => ?_)
      · refine j_iinc3 (pc := 28) dX1_roomsAfter_28 (by decide) rfl ?_
        refine j_goto (pc := 31) 4 dX1_roomsAfter_31 (by decide) ?_
        first
          | (refine ih (i + 1) (v ||| q) (by omega) (by omega) (Nat.or_lt_two_pow hv hq2) (fun b => ?_)
             rw [tb_or, hb b, hq3 b]
             constructor
             · rintro (⟨h1, a, h2, h3⟩ | ⟨h1, h2⟩)
               · exact ⟨h1, a, by omega, h3⟩
               · exact ⟨h1, i, by omega, hwi, h2⟩
             · rintro ⟨h1, a, h2, h3, h4⟩
               by_cases e : a = i
               · subst e; exact Or.inr ⟨h1, h4⟩
               · exact Or.inl ⟨h1, a, by omega, h3, h4⟩)
          | (refine ih (i + 1) v (by omega) (by omega) hv (fun b => ?_)
             have hwi : ¬ w.testBit i = true := by split at h_16 <;> first | assumption | omega
             rw [hb b]
             constructor
             · rintro ⟨h1, a, h2, h3⟩
               exact ⟨h1, a, by omega, h3⟩
             · rintro ⟨h1, a, h2, h3, h4⟩
               by_cases e : a = i
               · subst e; exact absurd h3 hwi
               · exact ⟨h1, a, by omega, h3, h4⟩)
      · obtain ⟨q, hq1, hq2, hq3⟩ := hQ i (by omega)
        have hwi : w.testBit i = true := by split at h_16 <;> first | assumption | omega
        refine j_iload_n (pc := 19) dX1_roomsAfter_19 rfl ?_
        refine j_aload_n (pc := 20) dX1_roomsAfter_20 rfl ?_
        refine j_getR (pc := 21) f_X1_9 dX1_roomsAfter_21 rfl rfl (by decide) rfl ?_
        refine j_iload_n (pc := 24) dX1_roomsAfter_24 rfl ?_
        refine j_iald_b (pc := 25) (i) dX1_roomsAfter_25 rfl (by decide) (by decide) (by omega) (by omega) ?_
        rw [hq1]
        refine j_ior (pc := 26) dX1_roomsAfter_26 ?_
        rw [jbor_n (by omega) (by omega)]
        refine j_istore_n2 (pc := 27) dX1_roomsAfter_27 (by decide) rfl ?_
        refine j_iinc3 (pc := 28) dX1_roomsAfter_28 (by decide) rfl ?_
        refine j_goto (pc := 31) 4 dX1_roomsAfter_31 (by decide) ?_
        first
          | (refine ih (i + 1) (v ||| q) (by omega) (by omega) (Nat.or_lt_two_pow hv hq2) (fun b => ?_)
             rw [tb_or, hb b, hq3 b]
             constructor
             · rintro (⟨h1, a, h2, h3⟩ | ⟨h1, h2⟩)
               · exact ⟨h1, a, by omega, h3⟩
               · exact ⟨h1, i, by omega, hwi, h2⟩
             · rintro ⟨h1, a, h2, h3, h4⟩
               by_cases e : a = i
               · subst e; exact Or.inr ⟨h1, h4⟩
               · exact Or.inl ⟨h1, a, by omega, h3, h4⟩)
          | (refine ih (i + 1) v (by omega) (by omega) hv (fun b => ?_)
             have hwi : ¬ w.testBit i = true := by split at h_16 <;> first | assumption | omega
             rw [hb b]
             constructor
             · rintro ⟨h1, a, h2, h3⟩
               exact ⟨h1, a, by omega, h3⟩
             · rintro ⟨h1, a, h2, h3, h4⟩
               by_cases e : a = i
               · subst e; exact absurd h3 hwi
               · exact ⟨h1, a, by omega, h3, h4⟩)
  refine j_iconst (pc := 0) dX1_roomsAfter_0 ?_
  refine j_istore_n2 (pc := 1) dX1_roomsAfter_1 (by decide) rfl ?_
  refine j_iconst (pc := 2) dX1_roomsAfter_2 ?_
  refine j_istore_n3 (pc := 3) dX1_roomsAfter_3 (by decide) rfl ?_
  refine key 0 0 (by omega) (by omega) (fun b => ?_)
  constructor
  · intro h; simp at h
  · rintro ⟨-, a, h, -⟩; omega
theorem c_rAhead (X : jX) (I : jMI) (P : Nat → Nat → Prop) (w : Nat) (hw : w < 2 ^ 8) (hQ : qB P (I 97)) : C_X1_roomsAhead X [jR 96, jI w] I (fun r I' => ∃ v : Nat, r = v ∧ v < 2 ^ 8 ∧ (∀ a, v.testBit a = true ↔ (a < 8 ∧ ∃ b, b < 8 ∧ w.testBit b = true ∧ P a b)) ∧ I' = I) := by
  refine CG.of (by decide) [some (jR 96), some (jI w), none, none] rfl (Nat.le_of_ble_eq_true rfl) ?_
  have key : ∀ (i v : Nat), i ≤ 8 → v < 2 ^ 8 → (∀ a, v.testBit a = true ↔ (a < i ∧ ∃ b, b < 8 ∧ w.testBit b = true ∧ P a b)) → S_X1_roomsAhead X 4 [some (jR 96), some (jI w), some (jI v), some (jI i)] [] I (fun r I' => ∃ v : Nat, r = v ∧ v < 2 ^ 8 ∧ (∀ a, v.testBit a = true ↔ (a < 8 ∧ ∃ b, b < 8 ∧ w.testBit b = true ∧ P a b)) ∧ I' = I) := by
    refine mu2 (fun i _ => 8 - i) _ (fun i v ih hi hv hb => ?_)
    refine j_iload_n (pc := 4) dX1_roomsAhead_4 rfl ?_
    refine j_bipush (pc := 5) dX1_roomsAhead_5 (by decide) ?_
    refine j_icmp_ge (pc := 7) 33 dX1_roomsAhead_7 (by decide) (by omega) (by omega) (fun h_7 => ?_) (fun h_7 => ?_)
    · refine j_iload_n (pc := 33) dX1_roomsAhead_33 rfl ?_
      refine j_reti dX1_roomsAhead_34 (?_) rfl
      obtain rfl : i = 8 := by omega
      exact ⟨v, rfl, hv, hb, rfl⟩
    · obtain ⟨q, hq1, hq2, hq3⟩ := hQ i (by omega)
      have hqw : q &&& w < 2 ^ 8 := Nat.and_lt_two_pow q hw
      have hiff : q &&& w ≠ 0 ↔ ∃ b, b < 8 ∧ w.testBit b = true ∧ P i b := by
        constructor
        · intro h
          obtain ⟨b, hb'⟩ := Nat.exists_testBit_of_ne_zero h
          obtain ⟨h1, h2⟩ := tb_and.mp hb'
          exact ⟨b, ((hq3 b).mp h1).1, h2, ((hq3 b).mp h1).2⟩
        · rintro ⟨b, h1, h2, h3⟩ h0
          have := tb_and.mpr ⟨(hq3 b).mpr ⟨h1, h3⟩, h2⟩
          rw [h0] at this
          simp at this
      refine j_aload_n (pc := 10) dX1_roomsAhead_10 rfl ?_
      refine j_getR (pc := 11) f_X1_9 dX1_roomsAhead_11 rfl rfl (by decide) rfl ?_
      refine j_iload_n (pc := 14) dX1_roomsAhead_14 rfl ?_
      refine j_iald_b (pc := 15) (i) dX1_roomsAhead_15 rfl (by decide) (by decide) (by omega) (by omega) ?_
      rw [hq1]
      refine j_iload_n (pc := 16) dX1_roomsAhead_16 rfl ?_
      refine j_iand (pc := 17) dX1_roomsAhead_17 ?_
      rw [jband_n (by omega) (by omega)]
      refine j_if_eq (pc := 18) 27 dX1_roomsAhead_18 (by decide) (by omega) (fun h_18 => ?_) (fun h_18 => ?_)
      · refine j_iinc3 (pc := 27) dX1_roomsAhead_27 (by decide) rfl ?_
        refine j_goto (pc := 30) 4 dX1_roomsAhead_30 (by decide) ?_
        first
          | (refine ih (i + 1) (v ||| 2 ^ i) (by omega) (by omega) (lt_or_pow hv (by omega)) (bt_set hb (fun a => ?_))
             have hx := hiff.mp (by omega)
             constructor
             · rintro ⟨h1, h2⟩
               by_cases e : a = i
               · exact Or.inr e
               · exact Or.inl ⟨by omega, h2⟩
             · rintro (⟨h1, h2⟩ | rfl)
               · exact ⟨by omega, h2⟩
               · exact ⟨by omega, hx⟩)
          | (refine ih (i + 1) v (by omega) (by omega) hv (fun a => ?_)
             have hx : ¬ ∃ b, b < 8 ∧ w.testBit b = true ∧ P i b := fun h => hiff.mpr h (by omega)
             rw [hb a]
             constructor
             · rintro ⟨h1, h2⟩
               exact ⟨by omega, h2⟩
             · rintro ⟨h1, h2⟩
               by_cases e : a = i
               · subst e; exact absurd h2 hx
               · exact ⟨by omega, h2⟩)
      · refine j_iload_n (pc := 21) dX1_roomsAhead_21 rfl ?_
        refine j_iconst (pc := 22) dX1_roomsAhead_22 ?_
        refine j_iload_n (pc := 23) dX1_roomsAhead_23 rfl ?_
        refine j_ishl (pc := 24) dX1_roomsAhead_24 ?_
        rw [jshl_n (by omega)]
        refine j_ior (pc := 25) dX1_roomsAhead_25 ?_
        rw [jbor_n (by omega) (by have := Nat.pow_lt_pow_right (a := 2) (by omega) (show i < 8 by omega); omega)]
        refine j_istore_n2 (pc := 26) dX1_roomsAhead_26 (by decide) rfl ?_
        refine j_iinc3 (pc := 27) dX1_roomsAhead_27 (by decide) rfl ?_
        refine j_goto (pc := 30) 4 dX1_roomsAhead_30 (by decide) ?_
        first
          | (refine ih (i + 1) (v ||| 2 ^ i) (by omega) (by omega) (lt_or_pow hv (by omega)) (bt_set hb (fun a => ?_))
             have hx := hiff.mp (by omega)
             constructor
             · rintro ⟨h1, h2⟩
               by_cases e : a = i
               · exact Or.inr e
               · exact Or.inl ⟨by omega, h2⟩
             · rintro (⟨h1, h2⟩ | rfl)
               · exact ⟨by omega, h2⟩
               · exact ⟨by omega, hx⟩)
          | (refine ih (i + 1) v (by omega) (by omega) hv (fun a => ?_)
             have hx : ¬ ∃ b, b < 8 ∧ w.testBit b = true ∧ P i b := fun h => hiff.mpr h (by omega)
             rw [hb a]
             constructor
             · rintro ⟨h1, h2⟩
               exact ⟨by omega, h2⟩
             · rintro ⟨h1, h2⟩
               by_cases e : a = i
               · subst e; exact absurd h2 hx
               · exact ⟨by omega, h2⟩)
  refine j_iconst (pc := 0) dX1_roomsAhead_0 ?_
  refine j_istore_n2 (pc := 1) dX1_roomsAhead_1 (by decide) rfl ?_
  refine j_iconst (pc := 2) dX1_roomsAhead_2 ?_
  refine j_istore_n3 (pc := 3) dX1_roomsAhead_3 (by decide) rfl ?_
  refine key 0 0 (by omega) (by omega) (fun b => ?_)
  constructor
  · intro h; simp at h
  · rintro ⟨h, -⟩; omega
