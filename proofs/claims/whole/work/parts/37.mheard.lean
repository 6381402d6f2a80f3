/-! ===== the reference: what was heard ===== -/
def mHear (f : Nat → Int) (h : Nat) (s m i : Int) : Nat → Int := jU (jU (jU (jU f (53 + 3 * h) s) (54 + 3 * h) m) (55 + 3 * h) i) 52 ((h : Int) + 1)
theorem c_mheard (X : jX) (I : jMI) (s m i : Int) (q : Int → jMI → Prop) (hs : -2147483648 ≤ s ∧ s < 2147483648) (hm : -2147483648 ≤ m ∧ m < 2147483648) (hi : -2147483648 ≤ i ∧ i < 2147483648) (h : Nat) (hh : I 106 52 = h) (hh6 : h ≤ 6) (hok : okSt (I 106))
    (q0 : ¬ ((0 ≤ s ∧ s < I 106 5) ∧ (0 ≤ m ∧ m ≤ 12) ∧ (0 ≤ i ∧ i ≤ 1)) → q (-2) (mRef I 0)) (q1 : (0 ≤ s ∧ s < I 106 5) → (0 ≤ m ∧ m ≤ 12) → (0 ≤ i ∧ i ≤ 1) → h = 6 → q (-4) (mRef I 2))
    (q2 : (0 ≤ s ∧ s < I 106 5) → (0 ≤ m ∧ m ≤ 12) → (0 ≤ i ∧ i ≤ 1) → h < 6 → q ((h : Int) + 1) (jSf I 106 (mHear (I 106) h s m i))) : C_X12_heard X [jR 105, jI s, jI m, jI i] I q := by
  refine CG.of (by decide) [some (jR 105), some (jI s), some (jI m), some (jI i), none] rfl (Nat.le_of_ble_eq_true rfl) ?_
  obtain ⟨n5, hn5, hn55⟩ := okSt_5 hok
  have kbad : ¬ ((0 ≤ s ∧ s < I 106 5) ∧ (0 ≤ m ∧ m ≤ 12) ∧ (0 ≤ i ∧ i ≤ 1)) → S_X12_heard X 27 [some (jR 105), some (jI s), some (jI m), some (jI i), none] [] I q := by
    intro hz
    refine j_aload_n (pc := 27) dX12_heard_27 rfl ?_
    refine j_goI (pc := 28) (j_runV k_X12_95 m_X12_bad (c_bad X I) dX12_heard_28 rfl (by decide) rfl (by decide) (by decide) rfl rfl (Nat.le_of_ble_eq_true rfl)) (fun r9 I9 h9 => ?_)
    obtain ⟨rfl, rfl⟩ := h9
    exact j_reti dX12_heard_31 (q0 hz) rfl
  refine j_aload_n (pc := 0) dX12_heard_0 rfl ?_
  refine j_iload_n (pc := 1) dX12_heard_1 rfl ?_
  refine j_goI (pc := 2) (j_runV k_X12_226 m_X12_isSleeper (c_isSleeper X I s hs (by omega)) dX12_heard_2 rfl (by decide) rfl (by decide) (by decide) rfl rfl (Nat.le_of_ble_eq_true rfl)) (fun r1 I1 h1 => ?_)
  obtain ⟨rfl, rfl⟩ := h1
  refine j_if_eq (pc := 5) 27 dX12_heard_5 (by decide) (by omega) (fun h_5 => ?_) (fun h_5 => ?_)
  · exact kbad (by omega)
  · refine j_iload_n (pc := 8) dX12_heard_8 rfl ?_
    refine j_i2l (pc := 9) dX12_heard_9 (by omega) ?_
    refine j_lconst0 (pc := 10) dX12_heard_10 ?_
    refine j_ldc2 (pc := 11) cl_X12_247 dX12_heard_11 ?_
    refine j_goI (pc := 14) (j_runS k_X12_75 m_X12_in (c_in X I1 m 0 12 hm (by omega) (by omega)) dX12_heard_14 (by decide) rfl rfl (Nat.le_of_ble_eq_true rfl)) (fun r2 I2 h2 => ?_)
    obtain ⟨rfl, rfl⟩ := h2
    refine j_if_eq (pc := 17) 27 dX12_heard_17 (by decide) (by omega) (fun h_17 => ?_) (fun h_17 => ?_)
    · exact kbad (by omega)
    · refine j_iload_n (pc := 20) dX12_heard_20 rfl ?_
      refine j_goI (pc := 21) (j_runS k_X12_238 m_X12_isWhat (c_isWhat X I2 i hi) dX12_heard_21 (by decide) rfl rfl (Nat.le_of_ble_eq_true rfl)) (fun r3 I3 h3 => ?_)
      obtain ⟨rfl, rfl⟩ := h3
      refine j_if_ne (pc := 24) 32 dX12_heard_24 (by decide) (by omega) (fun h_24 => ?_) (fun h_24 => ?_)
      · refine j_aload_n (pc := 32) dX12_heard_32 rfl ?_
        refine j_getR (pc := 33) f_X12_7 dX12_heard_33 rfl rfl (by decide) rfl ?_
        refine j_bipush (pc := 36) dX12_heard_36 (by decide) ?_
        refine j_iald_b (pc := 38) (52) dX12_heard_38 rfl (by decide) (by decide) (by omega) (by omega) ?_
        rw [hh]
        refine j_bipush (pc := 39) dX12_heard_39 (by decide) ?_
        refine j_icmp_ne (pc := 41) 49 dX12_heard_41 (by decide) (by omega) (by omega) (fun h_41 => ?_) (fun h_41 => ?_)
        · refine j_bipush (pc := 49) dX12_heard_49 (by decide) ?_
          refine j_iconst (pc := 51) dX12_heard_51 ?_
          refine j_aload_n (pc := 52) dX12_heard_52 rfl ?_
          refine j_getR (pc := 53) f_X12_7 dX12_heard_53 rfl rfl (by decide) rfl ?_
          refine j_bipush (pc := 56) dX12_heard_56 (by decide) ?_
          refine j_iald_b (pc := 58) (52) dX12_heard_58 rfl (by decide) (by decide) (by omega) (by omega) ?_
          rw [hh]
          refine j_imul (pc := 59) dX12_heard_59 ?_
          refine j_iadd (pc := 60) dX12_heard_60 ?_
          refine j_istore4 (pc := 61) dX12_heard_61 (by decide) rfl ?_
          refine j_aload_n (pc := 63) dX12_heard_63 rfl ?_
          refine j_getR (pc := 64) f_X12_7 dX12_heard_64 rfl rfl (by decide) rfl ?_
          refine j_iload (pc := 67) dX12_heard_67 rfl ?_
          refine j_iload_n (pc := 69) dX12_heard_69 rfl ?_
          refine j_iast_b (pc := 70) (53 + 3 * h) dX12_heard_70 rfl (by decide) (by decide) (by omega) (by omega) ?_
          refine j_aload_n (pc := 71) dX12_heard_71 rfl ?_
          refine j_getR (pc := 72) f_X12_7 dX12_heard_72 rfl rfl (by decide) rfl ?_
          refine j_iload (pc := 75) dX12_heard_75 rfl ?_
          refine j_iconst (pc := 77) dX12_heard_77 ?_
          refine j_iadd (pc := 78) dX12_heard_78 ?_
          refine j_iload_n (pc := 79) dX12_heard_79 rfl ?_
          refine j_iast_a (pc := 80) (54 + 3 * h) dX12_heard_80 rfl (by decide) (by decide) (by omega) (by omega) ?_
          refine j_aload_n (pc := 81) dX12_heard_81 rfl ?_
          refine j_getR (pc := 82) f_X12_7 dX12_heard_82 rfl rfl (by decide) rfl ?_
          refine j_iload (pc := 85) dX12_heard_85 rfl ?_
          refine j_iconst (pc := 87) dX12_heard_87 ?_
          refine j_iadd (pc := 88) dX12_heard_88 ?_
          refine j_iload_n (pc := 89) dX12_heard_89 rfl ?_
          refine j_iast_a (pc := 90) (55 + 3 * h) dX12_heard_90 rfl (by decide) (by decide) (by omega) (by omega) ?_
          refine j_aload_n (pc := 91) dX12_heard_91 rfl ?_
          refine j_getR (pc := 92) f_X12_7 dX12_heard_92 rfl rfl (by decide) rfl ?_
          refine j_bipush (pc := 95) dX12_heard_95 (by decide) ?_
          refine j_dup2 (pc := 97) dX12_heard_97 ?_
          refine j_iald_a (pc := 98) (52) dX12_heard_98 rfl (by decide) (by decide) (by omega) (by omega) ?_
          rw [jU_n (by omega), jU_n (by omega), jU_n (by omega), hh]
          refine j_iconst (pc := 99) dX12_heard_99 ?_
          refine j_iadd (pc := 100) dX12_heard_100 ?_
          refine j_iast_a (pc := 101) (52) dX12_heard_101 rfl (by decide) (by decide) (by omega) (by omega) ?_
          refine j_aload_n (pc := 102) dX12_heard_102 rfl ?_
          refine j_getR (pc := 103) f_X12_7 dX12_heard_103 rfl rfl (by decide) rfl ?_
          refine j_bipush (pc := 106) dX12_heard_106 (by decide) ?_
          refine j_iald_a (pc := 108) (52) dX12_heard_108 rfl (by decide) (by decide) (by omega) (by omega) ?_
          rw [jU_s]
          exact j_reti dX12_heard_109 (q2 (by omega) (by omega) (by omega) (by omega)) rfl
        · refine j_aload_n (pc := 44) dX12_heard_44 rfl ?_
          refine j_goI (pc := 45) (j_runV k_X12_104 m_X12_full (c_full X I3) dX12_heard_45 rfl (by decide) rfl (by decide) (by decide) rfl rfl (Nat.le_of_ble_eq_true rfl)) (fun r4 I4 h4 => ?_)
          obtain ⟨rfl, rfl⟩ := h4
          exact j_reti dX12_heard_48 (q1 (by omega) (by omega) (by omega) (by omega)) rfl
      · exact kbad (by omega)
theorem c_mforget (X : jX) (I : jMI) (q : Int → jMI → Prop) (h : q (I 106 52) (jSf I 106 (jU (I 106) 52 0))) : C_X12_forget X [jR 105] I q := by
  refine CG.of (by decide) [some (jR 105), none] rfl (Nat.le_of_ble_eq_true rfl) ?_
  refine j_aload_n (pc := 0) dX12_forget_0 rfl ?_
  refine j_getR (pc := 1) f_X12_7 dX12_forget_1 rfl rfl (by decide) rfl ?_
  refine j_bipush (pc := 4) dX12_forget_4 (by decide) ?_
  refine j_iald_b (pc := 6) (52) dX12_forget_6 rfl (by decide) (by decide) (by omega) (by omega) ?_
  refine j_istore_n1 (pc := 7) dX12_forget_7 (by decide) rfl ?_
  refine j_aload_n (pc := 8) dX12_forget_8 rfl ?_
  refine j_getR (pc := 9) f_X12_7 dX12_forget_9 rfl rfl (by decide) rfl ?_
  refine j_bipush (pc := 12) dX12_forget_12 (by decide) ?_
  refine j_iconst (pc := 14) dX12_forget_14 ?_
  refine j_iast_b (pc := 15) (52) dX12_forget_15 rfl (by decide) (by decide) (by omega) (by omega) ?_
  refine j_iload_n (pc := 16) dX12_forget_16 rfl ?_
  exact j_reti dX12_forget_17 (h) rfl
/-- sleeper s hears a step from a to b in minute m -/
def hbP (f : Nat → Int) (m : Int) (a b s : Nat) : Prop := a ≠ b ∧ (s : Int) < f 5 ∧ wkB f (cr f a b) b m s
/-- a step (or waiting) that fits what was heard -/
def ldP (f : Nat → Int) (m : Int) (a b : Nat) : Prop := (a = b ∨ 0 ≤ cr f a b) ∧ ∀ i : Nat, (i : Int) < f 52 → f (54 + 3 * i) = m → ((f (55 + 3 * i) = 1 ∧ hbP f m a b (f (53 + 3 * i)).toNat) ∨ (f (55 + 3 * i) = 0 ∧ ¬ hbP f m a b (f (53 + 3 * i)).toNat))
/-- the first k of what was heard fit -/
def nfP (f : Nat → Int) (m : Int) (a b k : Nat) : Prop := ∀ i : Nat, i < k → f (54 + 3 * i) = m → ((f (55 + 3 * i) = 1 ∧ hbP f m a b (f (53 + 3 * i)).toNat) ∨ (f (55 + 3 * i) = 0 ∧ ¬ hbP f m a b (f (53 + 3 * i)).toNat))
theorem c_heardBy (X : jX) (I : jMI) (a b : Nat) (m : Int) (ha : a < 8) (hb : b < 8) (hm : 0 ≤ m ∧ m ≤ 59) (hc : a = b ∨ 0 ≤ cr (I 106) a b) (hok : okSt (I 106)) : C_X12_heardBy X [jR 105, jI a, jI b, jI m] I (fun r I' => ∃ w : Nat, r = w ∧ w < 32 ∧ (∀ s, w.testBit s = true ↔ hbP (I 106) m a b s) ∧ ∀ k, k ≠ 110 → I' k = I k) := by
  refine CG.of (by decide) [some (jR 105), some (jI a), some (jI b), some (jI m)] rfl (Nat.le_of_ble_eq_true rfl) ?_
  have hcr := cr_rng hok ha hb
  refine j_iload_n (pc := 0) dX12_heardBy_0 rfl ?_
  refine j_iload_n (pc := 1) dX12_heardBy_1 rfl ?_
  refine j_icmp_ne (pc := 2) 9 dX12_heardBy_2 (by decide) (by omega) (by omega) (fun h_2 => ?_) (fun h_2 => ?_)
  · refine j_aload_n (pc := 9) dX12_heardBy_9 rfl ?_
    refine j_aload_n (pc := 10) dX12_heardBy_10 rfl ?_
    refine j_iload_n (pc := 11) dX12_heardBy_11 rfl ?_
    refine j_iload_n (pc := 12) dX12_heardBy_12 rfl ?_
    refine j_goI (pc := 13) (j_runV k_X12_99 m_X12_creakOf (c_creakOf X I a b ha hb) dX12_heardBy_13 rfl (by decide) rfl (by decide) (by decide) rfl rfl (Nat.le_of_ble_eq_true rfl)) (fun r1 I1 h1 => ?_)
    obtain ⟨rfl, rfl⟩ := h1
    refine j_iload_n (pc := 16) dX12_heardBy_16 rfl ?_
    refine j_iload_n (pc := 17) dX12_heardBy_17 rfl ?_
    refine j_goI (pc := 18) (j_runV k_X12_211 m_X12_wakesBy (c_wakesBy X I1 (cr (I1 106) a b) b m (by omega) hb hm hok) dX12_heardBy_18 rfl (by decide) rfl (by decide) (by decide) rfl rfl (Nat.le_of_ble_eq_true rfl)) (fun r3 I3 h3 => ?_)
    obtain ⟨w, g, rfl, rfl, hw⟩ := h3
    refine j_reti dX12_heardBy_21 (?_) rfl
    first
      | exact ⟨0, rfl, by omega, fun s => by simp [hbP]; omega, fun _ _ => rfl⟩
      | exact ⟨w, rfl, hw.1, fun s => by rw [hw.2 s]; exact ⟨fun h => ⟨by omega, h⟩, fun h => h.2⟩, fun k hk => jSf_n hk⟩
  · refine j_iconst (pc := 5) dX12_heardBy_5 ?_
    refine j_goto (pc := 6) 21 dX12_heardBy_6 (by decide) ?_
    refine j_reti dX12_heardBy_21 (?_) rfl
    first
      | exact ⟨0, rfl, by omega, fun s => by simp [hbP]; omega, fun _ _ => rfl⟩
      | exact ⟨w, rfl, hw.1, fun s => by rw [hw.2 s]; exact ⟨fun h => ⟨by omega, h⟩, fun h => h.2⟩, fun k hk => jSf_n hk⟩
theorem okSt_53 {f : Nat → Int} (hok : okSt f) {k : Nat} (hk : k < 6) : ∃ s : Nat, f (53 + 3 * k) = s ∧ s ≤ 4 ∧ (0 ≤ f (54 + 3 * k) ∧ f (54 + 3 * k) ≤ 12) ∧ (0 ≤ f (55 + 3 * k) ∧ f (55 + 3 * k) ≤ 1) := by
  have g1 := hok (53 + 3 * k) (by omega)
  have g2 := hok (54 + 3 * k) (by omega)
  have g3 := hok (55 + 3 * k) (by omega)
  unfold stLo stHi at g1 g2 g3
  obtain ⟨s, hs⟩ := Int.eq_ofNat_of_zero_le (show 0 ≤ f (53 + 3 * k) by omega)
  exact ⟨s, hs, by omega, by omega, by omega⟩
set_option maxHeartbeats 4000000 in
theorem c_canBe (X : jX) (I : jMI) (a b : Nat) (m : Int) (ha : a < 8) (hb : b < 8) (hm : 0 ≤ m ∧ m ≤ 59) (hok : okSt (I 106)) : C_X12_canBe X [jR 105, jI a, jI b, jI m] I (fun r I' => ((r = 1 ∧ ldP (I 106) m a b) ∨ (r = 0 ∧ ¬ ldP (I 106) m a b)) ∧ ∀ k, k ≠ 110 → I' k = I k) := by
  refine CG.of (by decide) [some (jR 105), some (jI a), some (jI b), some (jI m), none, none, none, none] rfl (Nat.le_of_ble_eq_true rfl) ?_
  generalize hq : (fun (r : Int) (I' : jMI) => ((r = 1 ∧ ldP (I 106) m a b) ∨ (r = 0 ∧ ¬ ldP (I 106) m a b)) ∧ ∀ k, k ≠ 110 → I' k = I k) = q
  have hcr := cr_rng hok ha hb
  have h52 : ∃ h : Nat, I 106 52 = h ∧ h ≤ 6 := by
    have := hok 52 (by omega); unfold stLo stHi at this
    obtain ⟨w, hw⟩ := Int.eq_ofNat_of_zero_le (show 0 ≤ I 106 52 by omega)
    exact ⟨w, hw, by omega⟩
  obtain ⟨h, hh, hh6⟩ := h52
  have key : (a = b ∨ 0 ≤ cr (I 106) a b) → ∀ (w : Nat) (J0 : jMI), w < 32 → (∀ s, w.testBit s = true ↔ hbP (I 106) m a b s) → (∀ k, k ≠ 110 → J0 k = I k) → ∀ (k : Nat) (c : Int), k ≤ h → ((c = 1 ∧ nfP (I 106) m a b k) ∨ (c = 0 ∧ ¬ nfP (I 106) m a b k)) → ∀ x7, S_X12_canBe X 31 [some (jR 105), some (jI a), some (jI b), some (jI m), some (jI w), some (jI c), some (jI k), x7] [] J0 q := by
    intro hab w J0 hw32 hw hJ
    have e6 : J0 106 = I 106 := hJ 106 (by omega)
    refine mu2 (fun k _ => 6 - k) _ (fun k c ih hk hc x7 => ?_)
    refine j_iload (pc := 31) dX12_canBe_31 rfl ?_
    refine j_aload_n (pc := 33) dX12_canBe_33 rfl ?_
    refine j_getR (pc := 34) f_X12_7 dX12_canBe_34 rfl rfl (by decide) rfl ?_
    refine j_bipush (pc := 37) dX12_canBe_37 (by decide) ?_
    refine j_iald_b (pc := 39) (52) dX12_canBe_39 rfl (by decide) (by decide) (by omega) (by omega) ?_
    rw [e6, hh]
    refine j_icmp_ge (pc := 40) 107 dX12_canBe_40 (by decide) (by omega) (by omega) (fun h_40 => ?_) (fun h_40 => ?_)
    · refine j_iload (pc := 107) dX12_canBe_107 rfl ?_
      refine j_retz dX12_canBe_109 (by omega) (?_) rfl
      obtain rfl : k = h := by omega
      subst hq
      refine ⟨?_, hJ⟩
      rcases hc with ⟨rfl, hc⟩ | ⟨rfl, hc⟩
      · exact Or.inl ⟨rfl, hab, fun i hi => hc i (by omega)⟩
      · exact Or.inr ⟨rfl, fun hl => hc (fun i hi => hl.2 i (by omega))⟩
    · refine j_bipush (pc := 43) dX12_canBe_43 (by decide) ?_
      refine j_iconst (pc := 45) dX12_canBe_45 ?_
      refine j_iload (pc := 46) dX12_canBe_46 rfl ?_
      refine j_imul (pc := 48) dX12_canBe_48 ?_
      refine j_iadd (pc := 49) dX12_canBe_49 ?_
      refine j_istore7 (pc := 50) dX12_canBe_50 (by decide) rfl ?_
      obtain ⟨s, hs, hs4, g2, g3⟩ := okSt_53 hok (show k < 6 by omega)
      have hbt := jbit (a := w) (s := s) (by omega) (by omega)
      refine j_iload (pc := 52) dX12_canBe_52 rfl ?_
      refine j_if_eq (pc := 54) 98 dX12_canBe_54 (by decide) (by omega) (fun h_54 => ?_) (fun h_54 => ?_)
      · refine j_iconst (pc := 98) dX12_canBe_98 ?_
        refine j_istore5 (pc := 99) dX12_canBe_99 (by decide) rfl ?_
        refine j_iinc6 (pc := 101) dX12_canBe_101 (by decide) rfl ?_
        refine j_goto (pc := 104) 31 dX12_canBe_104 (by decide) ?_
        refine ih (k + 1) _ (by omega) (by omega) ?_ _
        have hws := hw s
        rcases hc with ⟨rfl, hc⟩ | ⟨rfl, hc⟩
        · first
            | omega
            | (refine Or.inl ⟨rfl, fun i hi hm1 => ?_⟩
               by_cases hik : i = k
               · subst hik
                 rw [hs, Int.toNat_natCast, ← hws]
                 first
                   | omega
                   | (cases hbb : w.testBit s
                      · rw [hbb] at h_91; exact Or.inr ⟨by simp at h_91; omega, by simp⟩
                      · rw [hbb] at h_91; exact Or.inl ⟨by simp at h_91; omega, rfl⟩)
               · exact hc i (by omega) hm1)
            | (refine Or.inr ⟨rfl, fun hall => ?_⟩
               have hk1 := hall k (by omega) (by omega)
               rw [hs, Int.toNat_natCast, ← hws] at hk1
               cases hbb : w.testBit s <;> rw [hbb] at h_91 hk1 <;> simp at h_91 hk1 <;> omega)
        · first
            | omega
            | exact Or.inr ⟨rfl, fun hall => hc (fun i hi hm1 => hall i (by omega) hm1)⟩
      · refine j_aload_n (pc := 57) dX12_canBe_57 rfl ?_
        refine j_getR (pc := 58) f_X12_7 dX12_canBe_58 rfl rfl (by decide) rfl ?_
        refine j_iload (pc := 61) dX12_canBe_61 rfl ?_
        refine j_iconst (pc := 63) dX12_canBe_63 ?_
        refine j_iadd (pc := 64) dX12_canBe_64 ?_
        refine j_iald_b (pc := 65) (54 + 3 * k) dX12_canBe_65 rfl (by decide) (by decide) (by omega) (by omega) ?_
        rw [e6]
        refine j_iload_n (pc := 66) dX12_canBe_66 rfl ?_
        refine j_icmp_ne (pc := 67) 94 dX12_canBe_67 (by decide) (by omega) (by omega) (fun h_67 => ?_) (fun h_67 => ?_)
        · refine j_iconst (pc := 94) dX12_canBe_94 ?_
          refine j_goto (pc := 95) 99 dX12_canBe_95 (by decide) ?_
          refine j_istore5 (pc := 99) dX12_canBe_99 (by decide) rfl ?_
          refine j_iinc6 (pc := 101) dX12_canBe_101 (by decide) rfl ?_
          refine j_goto (pc := 104) 31 dX12_canBe_104 (by decide) ?_
          refine ih (k + 1) _ (by omega) (by omega) ?_ _
          have hws := hw s
          rcases hc with ⟨rfl, hc⟩ | ⟨rfl, hc⟩
          · first
              | omega
              | (refine Or.inl ⟨rfl, fun i hi hm1 => ?_⟩
                 by_cases hik : i = k
                 · subst hik
                   rw [hs, Int.toNat_natCast, ← hws]
                   first
                     | omega
                     | (cases hbb : w.testBit s
                        · rw [hbb] at h_91; exact Or.inr ⟨by simp at h_91; omega, by simp⟩
                        · rw [hbb] at h_91; exact Or.inl ⟨by simp at h_91; omega, rfl⟩)
                 · exact hc i (by omega) hm1)
              | (refine Or.inr ⟨rfl, fun hall => ?_⟩
                 have hk1 := hall k (by omega) (by omega)
                 rw [hs, Int.toNat_natCast, ← hws] at hk1
                 cases hbb : w.testBit s <;> rw [hbb] at h_91 hk1 <;> simp at h_91 hk1 <;> omega)
          · first
              | omega
              | exact Or.inr ⟨rfl, fun hall => hc (fun i hi hm1 => hall i (by omega) hm1)⟩
        · refine j_iload (pc := 70) dX12_canBe_70 rfl ?_
          refine j_aload_n (pc := 72) dX12_canBe_72 rfl ?_
          refine j_getR (pc := 73) f_X12_7 dX12_canBe_73 rfl rfl (by decide) rfl ?_
          refine j_iload (pc := 76) dX12_canBe_76 rfl ?_
          refine j_iald_b (pc := 78) (53 + 3 * k) dX12_canBe_78 rfl (by decide) (by decide) (by omega) (by omega) ?_
          rw [e6, hs]
          refine j_ishr (pc := 79) dX12_canBe_79 ?_
          refine j_iconst (pc := 80) dX12_canBe_80 ?_
          refine j_iand (pc := 81) dX12_canBe_81 ?_
          refine j_aload_n (pc := 82) dX12_canBe_82 rfl ?_
          refine j_getR (pc := 83) f_X12_7 dX12_canBe_83 rfl rfl (by decide) rfl ?_
          refine j_iload (pc := 86) dX12_canBe_86 rfl ?_
          refine j_iconst (pc := 88) dX12_canBe_88 ?_
          refine j_iadd (pc := 89) dX12_canBe_89 ?_
          refine j_iald_b (pc := 90) (55 + 3 * k) dX12_canBe_90 rfl (by decide) (by decide) (by omega) (by omega) ?_
          rw [e6, hbt]
          refine j_icmp_ne (pc := 91) 98 dX12_canBe_91 (by decide) (by omega) (by omega) (fun h_91 => ?_) (fun h_91 => ?_)
          · refine j_iconst (pc := 98) dX12_canBe_98 ?_
            refine j_istore5 (pc := 99) dX12_canBe_99 (by decide) rfl ?_
            refine j_iinc6 (pc := 101) dX12_canBe_101 (by decide) rfl ?_
            refine j_goto (pc := 104) 31 dX12_canBe_104 (by decide) ?_
            refine ih (k + 1) _ (by omega) (by omega) ?_ _
            have hws := hw s
            rcases hc with ⟨rfl, hc⟩ | ⟨rfl, hc⟩
            · first
                | omega
                | (refine Or.inl ⟨rfl, fun i hi hm1 => ?_⟩
                   by_cases hik : i = k
                   · subst hik
                     rw [hs, Int.toNat_natCast, ← hws]
                     first
                       | omega
                       | (cases hbb : w.testBit s
                          · rw [hbb] at h_91; exact Or.inr ⟨by simp at h_91; omega, by simp⟩
                          · rw [hbb] at h_91; exact Or.inl ⟨by simp at h_91; omega, rfl⟩)
                   · exact hc i (by omega) hm1)
                | (refine Or.inr ⟨rfl, fun hall => ?_⟩
                   have hk1 := hall k (by omega) (by omega)
                   rw [hs, Int.toNat_natCast, ← hws] at hk1
                   cases hbb : w.testBit s <;> rw [hbb] at h_91 hk1 <;> simp at h_91 hk1 <;> omega)
            · first
                | omega
                | exact Or.inr ⟨rfl, fun hall => hc (fun i hi hm1 => hall i (by omega) hm1)⟩
          · refine j_iconst (pc := 94) dX12_canBe_94 ?_
            refine j_goto (pc := 95) 99 dX12_canBe_95 (by decide) ?_
            refine j_istore5 (pc := 99) dX12_canBe_99 (by decide) rfl ?_
            refine j_iinc6 (pc := 101) dX12_canBe_101 (by decide) rfl ?_
            refine j_goto (pc := 104) 31 dX12_canBe_104 (by decide) ?_
            refine ih (k + 1) _ (by omega) (by omega) ?_ _
            have hws := hw s
            rcases hc with ⟨rfl, hc⟩ | ⟨rfl, hc⟩
            · first
                | omega
                | (refine Or.inl ⟨rfl, fun i hi hm1 => ?_⟩
                   by_cases hik : i = k
                   · subst hik
                     rw [hs, Int.toNat_natCast, ← hws]
                     first
                       | omega
                       | (cases hbb : w.testBit s
                          · rw [hbb] at h_91; exact Or.inr ⟨by simp at h_91; omega, by simp⟩
                          · rw [hbb] at h_91; exact Or.inl ⟨by simp at h_91; omega, rfl⟩)
                   · exact hc i (by omega) hm1)
                | (refine Or.inr ⟨rfl, fun hall => ?_⟩
                   have hk1 := hall k (by omega) (by omega)
                   rw [hs, Int.toNat_natCast, ← hws] at hk1
                   cases hbb : w.testBit s <;> rw [hbb] at h_91 hk1 <;> simp at h_91 hk1 <;> omega)
            · first
                | omega
                | exact Or.inr ⟨rfl, fun hall => hc (fun i hi hm1 => hall i (by omega) hm1)⟩
  refine j_iload_n (pc := 0) dX12_canBe_0 rfl ?_
  refine j_iload_n (pc := 1) dX12_canBe_1 rfl ?_
  refine j_icmp_eq (pc := 2) 16 dX12_canBe_2 (by decide) (by omega) (by omega) (fun h_2 => ?_) (fun h_2 => ?_)
  · refine j_aload_n (pc := 16) dX12_canBe_16 rfl ?_
    refine j_iload_n (pc := 17) dX12_canBe_17 rfl ?_
    refine j_iload_n (pc := 18) dX12_canBe_18 rfl ?_
    refine j_iload_n (pc := 19) dX12_canBe_19 rfl ?_
    refine j_goI (pc := 20) (j_runV k_X12_249 m_X12_heardBy (c_heardBy X _ a b m ha hb hm (by omega) hok) dX12_canBe_20 rfl (by decide) rfl (by decide) (by decide) rfl rfl (Nat.le_of_ble_eq_true rfl)) (fun r2 I2 h2 => ?_)
    obtain ⟨w, rfl, hw1, hw2, hw3⟩ := h2
    refine j_istore4 (pc := 23) dX12_canBe_23 (by decide) rfl ?_
    refine j_iconst (pc := 25) dX12_canBe_25 ?_
    refine j_istore5 (pc := 26) dX12_canBe_26 (by decide) rfl ?_
    refine j_iconst (pc := 28) dX12_canBe_28 ?_
    refine j_istore6 (pc := 29) dX12_canBe_29 (by decide) rfl ?_
    exact key (by omega) w I2 hw1 hw2 hw3 0 1 (by omega) (Or.inl ⟨rfl, fun i hi => by omega⟩) _
  · refine j_aload_n (pc := 5) dX12_canBe_5 rfl ?_
    refine j_iload_n (pc := 6) dX12_canBe_6 rfl ?_
    refine j_iload_n (pc := 7) dX12_canBe_7 rfl ?_
    refine j_goI (pc := 8) (j_runV k_X12_99 m_X12_creakOf (c_creakOf X I a b ha hb) dX12_canBe_8 rfl (by decide) rfl (by decide) (by decide) rfl rfl (Nat.le_of_ble_eq_true rfl)) (fun r1 I1 h1 => ?_)
    obtain ⟨rfl, rfl⟩ := h1
    refine j_if_ge (pc := 11) 16 dX12_canBe_11 (by decide) (by omega) (fun h_11 => ?_) (fun h_11 => ?_)
    · refine j_aload_n (pc := 16) dX12_canBe_16 rfl ?_
      refine j_iload_n (pc := 17) dX12_canBe_17 rfl ?_
      refine j_iload_n (pc := 18) dX12_canBe_18 rfl ?_
      refine j_iload_n (pc := 19) dX12_canBe_19 rfl ?_
      refine j_goI (pc := 20) (j_runV k_X12_249 m_X12_heardBy (c_heardBy X _ a b m ha hb hm (by omega) hok) dX12_canBe_20 rfl (by decide) rfl (by decide) (by decide) rfl rfl (Nat.le_of_ble_eq_true rfl)) (fun r2 I2 h2 => ?_)
      obtain ⟨w, rfl, hw1, hw2, hw3⟩ := h2
      refine j_istore4 (pc := 23) dX12_canBe_23 (by decide) rfl ?_
      refine j_iconst (pc := 25) dX12_canBe_25 ?_
      refine j_istore5 (pc := 26) dX12_canBe_26 (by decide) rfl ?_
      refine j_iconst (pc := 28) dX12_canBe_28 ?_
      refine j_istore6 (pc := 29) dX12_canBe_29 (by decide) rfl ?_
      exact key (by omega) w I2 hw1 hw2 hw3 0 1 (by omega) (Or.inl ⟨rfl, fun i hi => by omega⟩) _
    · refine j_iconst (pc := 14) dX12_canBe_14 ?_
      refine j_retz dX12_canBe_15 (by omega) (?_) rfl
      subst hq
      exact ⟨Or.inr ⟨rfl, fun hl => by rcases hl.1 with h | h <;> omega⟩, fun _ _ => rfl⟩
