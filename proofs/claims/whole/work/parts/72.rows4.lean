/-! ===== the class: where one may have been; who is to be asked ===== -/
theorem c_roomsIn (X : jX) (I : jMI) (f : Nat → Int) (m : Nat) (h : tlQ f I) (hm : m ≤ 12) : C_X9_roomsIn X [jR 100, jI m] I (fun r I' => (∃ w : Nat, r = w ∧ isMy f m w) ∧ I' = I) := by
  refine CG.of (by decide) [some (jR 100), some (jI m), none, none] rfl (Nat.le_of_ble_eq_true rfl) ?_
  have key : ∀ (i w : Nat), i ≤ 8 → w < 2 ^ 8 → (∀ z, w.testBit z = true ↔ (z < i ∧ 0 < cm f m z ∧ 0 < onF f (12 - m) z)) → S_X9_roomsIn X 4 [some (jR 100), some (jI m), some (jI w), some (jI i)] [] I (fun r I' => (∃ w : Nat, r = w ∧ isMy f m w) ∧ I' = I) := by
    refine mu2 (fun i _ => 8 - i) _ (fun i w ih hi hw hb => ?_)
    have h1 := cm_small f hm i
    have h2 := onF_small f (show 12 - m ≤ 12 by omega) i
    have j1 := jcmp_0 (a := cm f m i) (by omega)
    have j2 := jcmp_0 (a := onF f (12 - m) i) (by omega)
    refine j_iload_n (pc := 4) dX9_roomsIn_4 rfl ?_
    refine j_bipush (pc := 5) dX9_roomsIn_5 (by decide) ?_
    refine j_icmp_ge (pc := 7) 52 dX9_roomsIn_7 (by decide) (by omega) (by omega) (fun h_7 => ?_) (fun h_7 => ?_)
    · refine j_iload_n (pc := 52) dX9_roomsIn_52 rfl ?_
      refine j_reti dX9_roomsIn_53 (?_) rfl
      obtain rfl : i = 8 := by omega
      exact ⟨⟨w, rfl, hb⟩, rfl⟩
    · refine j_aload_n (pc := 10) dX9_roomsIn_10 rfl ?_
      refine j_getR (pc := 11) f_X9_15 dX9_roomsIn_11 rfl rfl (by decide) rfl ?_
      refine j_iload_n (pc := 14) dX9_roomsIn_14 rfl ?_
      refine j_iload_n (pc := 15) dX9_roomsIn_15 rfl ?_
      refine j_goI (pc := 16) (j_runSN k_X9_22 m_X11_pair (c_pair X I m i) dX9_roomsIn_16 (by decide) rfl rfl (Nat.le_of_ble_eq_true rfl)) (fun r1 I1 h1 => ?_)
      obtain ⟨rfl, rfl⟩ := h1
      refine j_lald_b (pc := 19) (8 * m + i) dX9_roomsIn_19 rfl (by decide) (by decide) (by omega) (by omega) ?_
      rw [show I1 102 (8 * m + i) = cm f m i from h.2.1 m i hm (by omega)]
      refine j_lconst0 (pc := 20) dX9_roomsIn_20 ?_
      refine j_lcmp (pc := 21) dX9_roomsIn_21 ?_
      rw [j1]
      refine j_if_le (pc := 22) 46 dX9_roomsIn_22 (by decide) (by split <;> omega) (fun h_22 => ?_) (fun h_22 => ?_)
      · refine j_iinc3 (pc := 46) dX9_roomsIn_46 (by decide) rfl ?_
        refine j_goto (pc := 49) 4 dX9_roomsIn_49 (by decide) ?_
        first
          | (have hguard : 0 < cm f m i ∧ 0 < onF f (12 - m) i := ⟨by split at h_22 <;> omega, by split at h_37 <;> omega⟩
             refine ih (i + 1) (w ||| 2 ^ i) (by omega) (by omega) (lt_or_pow hw (by omega)) (bt_set hb (fun z => ?_))
             constructor
             · rintro ⟨g1, g2⟩
               by_cases e : z = i
               · exact Or.inr e
               · exact Or.inl ⟨by omega, g2⟩
             · rintro (⟨g1, g2⟩ | rfl)
               · exact ⟨by omega, g2⟩
               · exact ⟨by omega, hguard⟩)
          | (have hguard : ¬ (0 < cm f m i ∧ 0 < onF f (12 - m) i) := by
               first
                 | (intro hh; rw [if_pos hh.1] at h_22; omega)
                 | (intro hh; rw [if_pos hh.2] at h_37; omega)
             refine ih (i + 1) w (by omega) (by omega) hw (fun z => ?_)
             rw [hb z]
             constructor
             · rintro ⟨g1, g2⟩
               exact ⟨by omega, g2⟩
             · rintro ⟨g1, g2⟩
               by_cases e : z = i
               · subst e; exact absurd g2 hguard
               · exact ⟨by omega, g2⟩)
      · refine j_aload_n (pc := 25) dX9_roomsIn_25 rfl ?_
        refine j_getR (pc := 26) f_X9_19 dX9_roomsIn_26 rfl rfl (by decide) rfl ?_
        refine j_iload_n (pc := 29) dX9_roomsIn_29 rfl ?_
        refine j_iload_n (pc := 30) dX9_roomsIn_30 rfl ?_
        refine j_goI (pc := 31) (j_runSN k_X9_22 m_X11_pair (c_pair X I1 m i) dX9_roomsIn_31 (by decide) rfl rfl (Nat.le_of_ble_eq_true rfl)) (fun r2 I2 h2 => ?_)
        obtain ⟨rfl, rfl⟩ := h2
        refine j_lald_b (pc := 34) (8 * m + i) dX9_roomsIn_34 rfl (by decide) (by decide) (by omega) (by omega) ?_
        rw [show I2 103 (8 * m + i) = onF f (12 - m) i from h.2.2 m i hm (by omega)]
        refine j_lconst0 (pc := 35) dX9_roomsIn_35 ?_
        refine j_lcmp (pc := 36) dX9_roomsIn_36 ?_
        rw [j2]
        refine j_if_le (pc := 37) 46 dX9_roomsIn_37 (by decide) (by split <;> omega) (fun h_37 => ?_) (fun h_37 => ?_)
        · refine j_iinc3 (pc := 46) dX9_roomsIn_46 (by decide) rfl ?_
          refine j_goto (pc := 49) 4 dX9_roomsIn_49 (by decide) ?_
          first
            | (have hguard : 0 < cm f m i ∧ 0 < onF f (12 - m) i := ⟨by split at h_22 <;> omega, by split at h_37 <;> omega⟩
               refine ih (i + 1) (w ||| 2 ^ i) (by omega) (by omega) (lt_or_pow hw (by omega)) (bt_set hb (fun z => ?_))
               constructor
               · rintro ⟨g1, g2⟩
                 by_cases e : z = i
                 · exact Or.inr e
                 · exact Or.inl ⟨by omega, g2⟩
               · rintro (⟨g1, g2⟩ | rfl)
                 · exact ⟨by omega, g2⟩
                 · exact ⟨by omega, hguard⟩)
            | (have hguard : ¬ (0 < cm f m i ∧ 0 < onF f (12 - m) i) := by
                 first
                   | (intro hh; rw [if_pos hh.1] at h_22; omega)
                   | (intro hh; rw [if_pos hh.2] at h_37; omega)
               refine ih (i + 1) w (by omega) (by omega) hw (fun z => ?_)
               rw [hb z]
               constructor
               · rintro ⟨g1, g2⟩
                 exact ⟨by omega, g2⟩
               · rintro ⟨g1, g2⟩
                 by_cases e : z = i
                 · subst e; exact absurd g2 hguard
                 · exact ⟨by omega, g2⟩)
        · refine j_iload_n (pc := 40) dX9_roomsIn_40 rfl ?_
          refine j_iconst (pc := 41) dX9_roomsIn_41 ?_
          refine j_iload_n (pc := 42) dX9_roomsIn_42 rfl ?_
          refine j_ishl (pc := 43) dX9_roomsIn_43 ?_
          rw [jshl_n (by omega)]
          refine j_ior (pc := 44) dX9_roomsIn_44 ?_
          rw [jbor_n (by omega) (by have := Nat.pow_lt_pow_right (a := 2) (by omega) (show i < 8 by omega); omega)]
          refine j_istore_n2 (pc := 45) dX9_roomsIn_45 (by decide) rfl ?_
          refine j_iinc3 (pc := 46) dX9_roomsIn_46 (by decide) rfl ?_
          refine j_goto (pc := 49) 4 dX9_roomsIn_49 (by decide) ?_
          first
            | (have hguard : 0 < cm f m i ∧ 0 < onF f (12 - m) i := ⟨by split at h_22 <;> omega, by split at h_37 <;> omega⟩
               refine ih (i + 1) (w ||| 2 ^ i) (by omega) (by omega) (lt_or_pow hw (by omega)) (bt_set hb (fun z => ?_))
               constructor
               · rintro ⟨g1, g2⟩
                 by_cases e : z = i
                 · exact Or.inr e
                 · exact Or.inl ⟨by omega, g2⟩
               · rintro (⟨g1, g2⟩ | rfl)
                 · exact ⟨by omega, g2⟩
                 · exact ⟨by omega, hguard⟩)
            | (have hguard : ¬ (0 < cm f m i ∧ 0 < onF f (12 - m) i) := by
                 first
                   | (intro hh; rw [if_pos hh.1] at h_22; omega)
                   | (intro hh; rw [if_pos hh.2] at h_37; omega)
               refine ih (i + 1) w (by omega) (by omega) hw (fun z => ?_)
               rw [hb z]
               constructor
               · rintro ⟨g1, g2⟩
                 exact ⟨by omega, g2⟩
               · rintro ⟨g1, g2⟩
                 by_cases e : z = i
                 · subst e; exact absurd g2 hguard
                 · exact ⟨by omega, g2⟩)
  refine j_iconst (pc := 0) dX9_roomsIn_0 ?_
  refine j_istore_n2 (pc := 1) dX9_roomsIn_1 (by decide) rfl ?_
  refine j_iconst (pc := 2) dX9_roomsIn_2 ?_
  refine j_istore_n3 (pc := 3) dX9_roomsIn_3 (by decide) rfl ?_
  exact key 0 0 (by omega) (by omega) (fun z => by simp)
noncomputable def ysG (f : Nat → Int) (m s a b : Nat) : Int := ind (ldP f m a b ∧ hbP f m a b s) * (cm f m a * onF f (11 - m) b)
theorem c_hrdBy (X : jX) (I : jMI) (f ah : Nat → Int) (u s m : Nat) (hN : nR f ah u I 1) (hok : okSt f) (h : tlQ f I) (hs : (s : Int) < f 5) (hm : m ≤ 11) : C_X9_rowsHeardBy X [jR 100, jR 2, jI s, jI m] I (fun r I' => r = yesF f m s ∧ I' = I) := by
  refine CG.of (by decide) [some (jR 100), some (jR 2), some (jI s), some (jI m), none, none, none, none, none, none] rfl (Nat.le_of_ble_eq_true rfl) ?_
  obtain ⟨S, hS, hS5⟩ := okSt_5 hok
  have k6 : ∀ (a : Nat), a ≤ 8 → ∀ x7 x8 x9, S_X9_rowsHeardBy X 6 [some (jR 100), some (jR 2), some (jI s), some (jI m), some (jL (sumTo a (fun x => sumTo 8 (ysG f m s x)))), none, some (jI a), x7, x8, x9] [] I (fun r I' => r = yesF f m s ∧ I' = I) := by
    refine mu1 (fun a => 8 - a) _ (fun a ih ha x7 x8 x9 => ?_)
    have k16 : a < 8 → ∀ (b : Nat), b ≤ 8 → ∀ x8 x9, S_X9_rowsHeardBy X 16 [some (jR 100), some (jR 2), some (jI s), some (jI m), some (jL (sumTo a (fun x => sumTo 8 (ysG f m s x)) + sumTo b (ysG f m s a))), none, some (jI a), some (jI b), x8, x9] [] I (fun r I' => r = yesF f m s ∧ I' = I) := by
      intro ha8
      obtain ⟨w, hw1, hw2, hw3⟩ := h.1 m (by omega) a ha8
      refine mu1 (fun b => 8 - b) _ (fun b ihb hb x8 x9 => ?_)
      have k117 : b < 8 → ∀ (v : Int) (x8 x9 : Option jV), v = ysG f m s a b → S_X9_rowsHeardBy X 117 [some (jR 100), some (jR 2), some (jI s), some (jI m), some (jL (sumTo a (fun x => sumTo 8 (ysG f m s x)) + sumTo b (ysG f m s a) + v)), none, some (jI a), some (jI b), x8, x9] [] I (fun r I' => r = yesF f m s ∧ I' = I) := by
        intro hb8 v x8 x9 hv
        refine j_iinc7 (pc := 117) dX9_rowsHeardBy_117 (by decide) rfl ?_
        refine j_goto (pc := 120) 16 dX9_rowsHeardBy_120 (by decide) ?_
        have hy := ihb (b + 1) (by omega) (by omega) x8 x9
        have e : sumTo (b + 1) (ysG f m s a) = sumTo b (ysG f m s a) + ysG f m s a b := rfl
        rw [e, ← hv, ← Int.add_assoc] at hy
        exact hy
      have kz : b < 8 → ∀ (x8 x9 : Option jV), ¬ (ldP f m a b ∧ hbP f m a b s) → S_X9_rowsHeardBy X 117 [some (jR 100), some (jR 2), some (jI s), some (jI m), some (jL (sumTo a (fun x => sumTo 8 (ysG f m s x)) + sumTo b (ysG f m s a))), none, some (jI a), some (jI b), x8, x9] [] I (fun r I' => r = yesF f m s ∧ I' = I) := by
        intro hb8 x8 x9 hn
        have hy := k117 hb8 0 x8 x9 (by unfold ysG; rw [ind_f hn, Int.zero_mul])
        rw [Int.add_zero] at hy
        exact hy
      have k67 : b < 8 → ∀ (go : Int), ((go = 1 ∧ (0 ≤ cr f a b ∧ ldP f m a b)) ∨ (go = 0 ∧ ¬ (0 ≤ cr f a b ∧ ldP f m a b))) → S_X9_rowsHeardBy X 67 [some (jR 100), some (jR 2), some (jI s), some (jI m), some (jL (sumTo a (fun x => sumTo 8 (ysG f m s x)) + sumTo b (ysG f m s a))), none, some (jI a), some (jI b), some (jI (cr f a b)), x9] [jI go] I (fun r I' => r = yesF f m s ∧ I' = I) := by
        intro hb8 go hgo
        have hcr := cr_rng hok ha8 hb8
        have hab : 0 ≤ cr f a b → a ≠ b := fun h e => by subst e; unfold cr at h; rw [if_pos rfl] at h; omega
        refine j_istore9 (pc := 67) dX9_rowsHeardBy_67 (by decide) rfl ?_
        refine j_iload (pc := 69) dX9_rowsHeardBy_69 rfl ?_
        refine j_if_eq (pc := 71) 117 dX9_rowsHeardBy_71 (by decide) (by omega) (fun h_71 => ?_) (fun h_71 => ?_)
        · first
            | (have hguard : go ≠ 0 ∧ r1 ≤ cr f a b := ⟨by omega, by omega⟩
               have hl : 0 ≤ cr f a b ∧ ldP f m a b := by
                 rcases hgo with ⟨-, hh⟩ | ⟨hh, -⟩
                 · exact hh
                 · exact absurd hh hguard.1
               exact k117 hb8 _ _ _ (by unfold ysG; rw [ind_t ⟨hl.2, hab hl.1, hs, hiff.mp hguard.2⟩, Int.one_mul]))
            | (have hguard : cr f a b < r1 := by omega
               exact kz hb8 _ _ (fun hh => by have := hiff.mpr hh.2.2.2; omega))
            | (have hguard : go = 0 := by omega
               refine kz hb8 _ _ (fun hh => ?_)
               rcases hgo with ⟨hg, -⟩ | ⟨-, hg⟩
               · omega
               · refine hg ⟨?_, hh.1⟩
                 rcases hh.1.1 with e | e
                 · exact absurd e hh.2.1
                 · exact e)
        · refine j_iload (pc := 74) dX9_rowsHeardBy_74 rfl ?_
          refine j_aload_n (pc := 76) dX9_rowsHeardBy_76 rfl ?_
          refine j_iload_n (pc := 77) dX9_rowsHeardBy_77 rfl ?_
          refine j_iload (pc := 78) dX9_rowsHeardBy_78 rfl ?_
          refine j_iload_n (pc := 80) dX9_rowsHeardBy_80 rfl ?_
          refine j_goI (pc := 81) (j_runV k_X9_75 m_X2_leastNoise (c_least X I f s b m hN.1 hok hs (by omega) hb8 (by omega)) dX9_rowsHeardBy_81 rfl (by decide) rfl (by decide) (by decide) rfl rfl (Nat.le_of_ble_eq_true rfl)) (fun r1 I1 h1 => ?_)
          obtain ⟨h1, rfl⟩ := h1
          have hrr := isLn_rng (okSt_sl3 hok (show s < 5 by omega)).2.2 h1
          have hiff := isLn_w (n := cr f a b) hb8 (okSt_sl3 hok (show s < 5 by omega)).2.2 (by omega) h1
          refine j_icmp_lt (pc := 84) 117 dX9_rowsHeardBy_84 (by decide) (by omega) (by omega) (fun h_84 => ?_) (fun h_84 => ?_)
          · first
              | (have hguard : go ≠ 0 ∧ r1 ≤ cr f a b := ⟨by omega, by omega⟩
                 have hl : 0 ≤ cr f a b ∧ ldP f m a b := by
                   rcases hgo with ⟨-, hh⟩ | ⟨hh, -⟩
                   · exact hh
                   · exact absurd hh hguard.1
                 exact k117 hb8 _ _ _ (by unfold ysG; rw [ind_t ⟨hl.2, hab hl.1, hs, hiff.mp hguard.2⟩, Int.one_mul]))
              | (have hguard : cr f a b < r1 := by omega
                 exact kz hb8 _ _ (fun hh => by have := hiff.mpr hh.2.2.2; omega))
              | (have hguard : go = 0 := by omega
                 refine kz hb8 _ _ (fun hh => ?_)
                 rcases hgo with ⟨hg, -⟩ | ⟨-, hg⟩
                 · omega
                 · refine hg ⟨?_, hh.1⟩
                   rcases hh.1.1 with e | e
                   · exact absurd e hh.2.1
                   · exact e)
          · refine j_lload (pc := 87) dX9_rowsHeardBy_87 rfl ?_
            refine j_aload_n (pc := 89) dX9_rowsHeardBy_89 rfl ?_
            refine j_getR (pc := 90) f_X9_15 dX9_rowsHeardBy_90 rfl rfl (by decide) rfl ?_
            refine j_iload_n (pc := 93) dX9_rowsHeardBy_93 rfl ?_
            refine j_iload (pc := 94) dX9_rowsHeardBy_94 rfl ?_
            refine j_goI (pc := 96) (j_runSN k_X9_22 m_X11_pair (c_pair X I1 m a) dX9_rowsHeardBy_96 (by decide) rfl rfl (Nat.le_of_ble_eq_true rfl)) (fun r2 I2 h2 => ?_)
            obtain ⟨rfl, rfl⟩ := h2
            refine j_lald_b (pc := 99) (8 * m + a) dX9_rowsHeardBy_99 rfl (by decide) (by decide) (by omega) (by omega) ?_
            rw [show I2 102 (8 * m + a) = cm f m a from h.2.1 m a (by omega) ha8]
            refine j_aload_n (pc := 100) dX9_rowsHeardBy_100 rfl ?_
            refine j_getR (pc := 101) f_X9_19 dX9_rowsHeardBy_101 rfl rfl (by decide) rfl ?_
            refine j_iload_n (pc := 104) dX9_rowsHeardBy_104 rfl ?_
            refine j_iconst (pc := 105) dX9_rowsHeardBy_105 ?_
            refine j_iadd (pc := 106) dX9_rowsHeardBy_106 ?_
            refine j_iload (pc := 107) dX9_rowsHeardBy_107 rfl ?_
            refine j_goI (pc := 109) (j_runSN k_X9_22 m_X11_pair (c_pair X I2 ((m : Int) + 1) b) dX9_rowsHeardBy_109 (by decide) rfl rfl (Nat.le_of_ble_eq_true rfl)) (fun r3 I3 h3 => ?_)
            obtain ⟨rfl, rfl⟩ := h3
            refine j_lald_b (pc := 112) (8 * (m + 1) + b) dX9_rowsHeardBy_112 rfl (by decide) (by decide) (by omega) (by omega) ?_
            rw [show I3 103 (8 * (m + 1) + b) = onF f (11 - m) b by rw [h.2.2 (m + 1) b (by omega) hb8, show 12 - (m + 1) = 11 - m by omega]]
            refine j_lmul (pc := 113) dX9_rowsHeardBy_113 ?_
            refine j_ladd (pc := 114) dX9_rowsHeardBy_114 ?_
            refine j_lstore4 (pc := 115) dX9_rowsHeardBy_115 (by decide) rfl ?_
            first
              | (have hguard : go ≠ 0 ∧ r1 ≤ cr f a b := ⟨by omega, by omega⟩
                 have hl : 0 ≤ cr f a b ∧ ldP f m a b := by
                   rcases hgo with ⟨-, hh⟩ | ⟨hh, -⟩
                   · exact hh
                   · exact absurd hh hguard.1
                 exact k117 hb8 _ _ _ (by unfold ysG; rw [ind_t ⟨hl.2, hab hl.1, hs, hiff.mp hguard.2⟩, Int.one_mul]))
              | (have hguard : cr f a b < r1 := by omega
                 exact kz hb8 _ _ (fun hh => by have := hiff.mpr hh.2.2.2; omega))
              | (have hguard : go = 0 := by omega
                 refine kz hb8 _ _ (fun hh => ?_)
                 rcases hgo with ⟨hg, -⟩ | ⟨-, hg⟩
                 · omega
                 · refine hg ⟨?_, hh.1⟩
                   rcases hh.1.1 with e | e
                   · exact absurd e hh.2.1
                   · exact e)
      refine j_iload (pc := 16) dX9_rowsHeardBy_16 rfl ?_
      refine j_bipush (pc := 18) dX9_rowsHeardBy_18 (by decide) ?_
      refine j_icmp_ge (pc := 20) 123 dX9_rowsHeardBy_20 (by decide) (by omega) (by omega) (fun h_20 => ?_) (fun h_20 => ?_)
      · refine j_iinc6 (pc := 123) dX9_rowsHeardBy_123 (by decide) rfl ?_
        refine j_goto (pc := 126) 6 dX9_rowsHeardBy_126 (by decide) ?_
        obtain rfl : b = 8 := by omega
        exact ih (a + 1) (by omega) (by omega) _ _ _
      · refine j_aload_n (pc := 23) dX9_rowsHeardBy_23 rfl ?_
        refine j_getR (pc := 24) f_X9_45 dX9_rowsHeardBy_24 rfl rfl (by decide) rfl ?_
        refine j_iload (pc := 27) dX9_rowsHeardBy_27 rfl ?_
        refine j_iload (pc := 29) dX9_rowsHeardBy_29 rfl ?_
        refine j_goI (pc := 31) (j_runSN k_X9_22 m_X11_pair (c_pair X I a b) dX9_rowsHeardBy_31 (by decide) rfl rfl (Nat.le_of_ble_eq_true rfl)) (fun r1 I1 h1 => ?_)
        obtain ⟨rfl, rfl⟩ := h1
        refine j_iald_b (pc := 34) (8 * a + b) dX9_rowsHeardBy_34 rfl (by decide) (by decide) (by omega) (by omega) ?_
        rw [show I1 10 (8 * a + b) = cr f a b from hN.1.2.2.1 a b ha8 (by omega)]
        have hcr := cr_rng hok ha8 (show b < 8 by omega)
        refine j_istore8 (pc := 35) dX9_rowsHeardBy_35 (by decide) rfl ?_
        refine j_iload (pc := 37) dX9_rowsHeardBy_37 rfl ?_
        refine j_if_lt (pc := 39) 66 dX9_rowsHeardBy_39 (by decide) (by omega) (fun h_39 => ?_) (fun h_39 => ?_)
        · refine j_iconst (pc := 66) dX9_rowsHeardBy_66 ?_
          refine k67 (by omega) _ ?_
          first
            | (have hx : w.testBit b = true := by split at h_59 <;> first | assumption | omega
               exact Or.inl ⟨rfl, by omega, ((hw3 b).mp hx).2⟩)
            | (have hx : ¬ w.testBit b = true := by split at h_59 <;> first | assumption | omega
               exact Or.inr ⟨rfl, fun hh => hx ((hw3 b).mpr ⟨by omega, hh.2⟩)⟩)
            | exact Or.inr ⟨rfl, fun hh => by omega⟩
        · refine j_aload_n (pc := 42) dX9_rowsHeardBy_42 rfl ?_
          refine j_getR (pc := 43) f_X9_9 dX9_rowsHeardBy_43 rfl rfl (by decide) rfl ?_
          refine j_iload_n (pc := 46) dX9_rowsHeardBy_46 rfl ?_
          refine j_iload (pc := 47) dX9_rowsHeardBy_47 rfl ?_
          refine j_goI (pc := 49) (j_runSN k_X9_22 m_X11_pair (c_pair X I1 m a) dX9_rowsHeardBy_49 (by decide) rfl rfl (Nat.le_of_ble_eq_true rfl)) (fun r2 I2 h2 => ?_)
          obtain ⟨rfl, rfl⟩ := h2
          refine j_iald_b (pc := 52) (8 * m + a) dX9_rowsHeardBy_52 rfl (by decide) (by decide) (by omega) (by omega) ?_
          rw [hw1]
          refine j_iload (pc := 53) dX9_rowsHeardBy_53 rfl ?_
          refine j_goI (pc := 55) (j_runSN k_X9_54 m_X11_bit (c_bit X I2 w b) dX9_rowsHeardBy_55 (by decide) rfl rfl (Nat.le_of_ble_eq_true rfl)) (fun r3 I3 h3 => ?_)
          obtain ⟨rfl, rfl⟩ := h3
          rw [jbit (by omega) (by omega)]
          refine j_iconst (pc := 58) dX9_rowsHeardBy_58 ?_
          refine j_icmp_ne (pc := 59) 66 dX9_rowsHeardBy_59 (by decide) (by split <;> omega) (by omega) (fun h_59 => ?_) (fun h_59 => ?_)
          · refine j_iconst (pc := 66) dX9_rowsHeardBy_66 ?_
            refine k67 (by omega) _ ?_
            first
              | (have hx : w.testBit b = true := by split at h_59 <;> first | assumption | omega
                 exact Or.inl ⟨rfl, by omega, ((hw3 b).mp hx).2⟩)
              | (have hx : ¬ w.testBit b = true := by split at h_59 <;> first | assumption | omega
                 exact Or.inr ⟨rfl, fun hh => hx ((hw3 b).mpr ⟨by omega, hh.2⟩)⟩)
              | exact Or.inr ⟨rfl, fun hh => by omega⟩
          · refine j_iconst (pc := 62) dX9_rowsHeardBy_62 ?_
            refine j_goto (pc := 63) 67 dX9_rowsHeardBy_63 (by decide) ?_
            refine k67 (by omega) _ ?_
            first
              | (have hx : w.testBit b = true := by split at h_59 <;> first | assumption | omega
                 exact Or.inl ⟨rfl, by omega, ((hw3 b).mp hx).2⟩)
              | (have hx : ¬ w.testBit b = true := by split at h_59 <;> first | assumption | omega
                 exact Or.inr ⟨rfl, fun hh => hx ((hw3 b).mpr ⟨by omega, hh.2⟩)⟩)
              | exact Or.inr ⟨rfl, fun hh => by omega⟩
    refine j_iload (pc := 6) dX9_rowsHeardBy_6 rfl ?_
    refine j_bipush (pc := 8) dX9_rowsHeardBy_8 (by decide) ?_
    refine j_icmp_ge (pc := 10) 129 dX9_rowsHeardBy_10 (by decide) (by omega) (by omega) (fun h_10 => ?_) (fun h_10 => ?_)
    · refine j_lload (pc := 129) dX9_rowsHeardBy_129 rfl ?_
      refine j_retl dX9_rowsHeardBy_131 (?_) rfl
      obtain rfl : a = 8 := by omega
      exact ⟨rfl, rfl⟩
    · refine j_iconst (pc := 13) dX9_rowsHeardBy_13 ?_
      refine j_istore7 (pc := 14) dX9_rowsHeardBy_14 (by decide) rfl ?_
      have hy := k16 (by omega) 0 (by omega) x8 x9
      have e : sumTo 0 (ysG f m s a) = 0 := rfl
      rw [e, Int.add_zero] at hy
      exact hy
  refine j_lconst0 (pc := 0) dX9_rowsHeardBy_0 ?_
  refine j_lstore4 (pc := 1) dX9_rowsHeardBy_1 (by decide) rfl ?_
  refine j_iconst (pc := 3) dX9_rowsHeardBy_3 ?_
  refine j_istore6 (pc := 4) dX9_rowsHeardBy_4 (by decide) rfl ?_
  exact k6 0 (by omega) _ _ _
