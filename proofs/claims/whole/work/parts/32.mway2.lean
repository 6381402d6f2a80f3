/-! ===== the reference: way ===== -/
theorem isL_next {f : Nat → Int} {to m a n : Nat} (h : isL f to m a (n + 1 : Nat)) (hn : m + (n + 1) ≤ 59) : ∃ b, b < 8 ∧ qt f m a b ∧ isL f to (m + 1) b n := by
  rcases h with ⟨h, -⟩ | ⟨n', e, h1, h2, h3⟩
  · omega
  · obtain rfl : n' = n + 1 := by omega
    obtain ⟨b, hb, hq, hw⟩ := h2
    refine ⟨b, hb, hq, Or.inr ⟨n, rfl, by omega, hw, fun k hk hkw => ?_⟩⟩
    have := h3 (k + 1) (by omega) ⟨b, hb, hq, hkw⟩
    omega
/-- the room in which one is a minute on -/
def isNx (f : Nat → Int) (to m a : Nat) (v : Int) (b : Nat) : Prop := b < 8 ∧ qt f m a b ∧ isL f to (m + 1) b (v - 1) ∧ ∀ c, c < b → ¬ (qt f m a c ∧ isL f to (m + 1) c (v - 1))
theorem isNx_uniq {f : Nat → Int} {to m a : Nat} {v : Int} {b c : Nat} (h : isNx f to m a v b) (h' : isNx f to m a v c) : b = c := by
  rcases Nat.lt_trichotomy b c with hlt | heq | hgt
  · exact absurd ⟨h.2.1, h.2.2.1⟩ (h'.2.2.2 b hlt)
  · exact heq
  · exact absurd ⟨h'.2.1, h'.2.2.1⟩ (h.2.2.2 c hgt)
set_option maxHeartbeats 4000000 in
theorem c_mway (X : jX) (I : jMI) (a b m w : Int) (q : Int → jMI → Prop) (ha : -2147483648 ≤ a ∧ a < 2147483648) (hb : -2147483648 ≤ b ∧ b < 2147483648) (hm : -2147483648 ≤ m ∧ m < 2147483648) (hw : -2147483648 ≤ w ∧ w < 2147483648) (hok : okSt (I 106))
    (q0 : ¬ ((0 ≤ a ∧ a ≤ 7) ∧ (0 ≤ b ∧ b ≤ 7) ∧ (0 ≤ m ∧ m ≤ 59) ∧ (0 ≤ w ∧ w ≤ 1)) → q (-2) (mRef I 0))
    (q1 : ∀ (i j k : Nat) (I' : jMI), a = i → b = j → m = k → i < 8 → j < 8 → k ≤ 59 → (0 ≤ w ∧ w ≤ 1) → isL (I 106) j k i 99 → mSc I I' → q (-1) I')
    (q2 : ∀ (i j k : Nat) (v : Int) (I' : jMI), a = i → b = j → m = k → i < 8 → j < 8 → k ≤ 59 → w = 0 → isL (I 106) j k i v → v < 99 → mSc I I' → q v I')
    (q3 : ∀ (i j k : Nat) (I' : jMI), a = i → b = j → m = k → i < 8 → j < 8 → k ≤ 59 → w = 1 → isL (I 106) j k i 0 → mSc I I' → q j I')
    (q4 : ∀ (i j k c : Nat) (v : Int) (I' : jMI), a = i → b = j → m = k → i < 8 → j < 8 → k ≤ 59 → w = 1 → isL (I 106) j k i v → 0 < v → v < 99 → isNx (I 106) j k i v c → mSc I I' → q c I') : C_X12_way X [jR 105, jI a, jI b, jI m, jI w] I q := by
  refine CG.of (by decide) [some (jR 105), some (jI a), some (jI b), some (jI m), some (jI w), none, none] rfl (Nat.le_of_ble_eq_true rfl) ?_
  have kbad : ¬ ((0 ≤ a ∧ a ≤ 7) ∧ (0 ≤ b ∧ b ≤ 7) ∧ (0 ≤ m ∧ m ≤ 59) ∧ (0 ≤ w ∧ w ≤ 1)) → S_X12_way X 29 [some (jR 105), some (jI a), some (jI b), some (jI m), some (jI w), none, none] [] I q := by
    intro hz
    refine j_aload_n (pc := 29) dX12_way_29 rfl ?_
    refine j_goI (pc := 30) (j_runV k_X12_95 m_X12_bad (c_bad X I) dX12_way_30 rfl (by decide) rfl (by decide) (by decide) rfl rfl (Nat.le_of_ble_eq_true rfl)) (fun r9 I9 h9 => ?_)
    obtain ⟨rfl, rfl⟩ := h9
    exact j_reti dX12_way_33 (q0 hz) rfl
  have k87 : ∀ (i j k n : Nat), a = i → b = j → m = k → i < 8 → j < 8 → w = 1 → k + (n + 1) ≤ 59 → isL (I 106) j k i ((n + 1 : Nat) : Int) → ∀ (c : Nat) (J0 : jMI), c ≤ 8 → mSc I J0 → (∀ d, d < 8 → isL (I 106) j (k + 1) d (J0 113 (8 * (k + 1) + d))) → (∀ d, d < c → ¬ (qt (I 106) k i d ∧ isL (I 106) j (k + 1) d n)) → S_X12_way X 87 [some (jR 105), some (jI i), some (jI j), some (jI k), some (jI w), some (jI ((n + 1 : Nat) : Int)), some (jI c)] [] J0 q := by
    intro i j k n ea eb em hi hj hw1 hkn hL
    obtain ⟨b0, hb0, hq0, hl0⟩ := isL_next hL hkn
    refine mu2 (fun c _ => 8 - c) _ (fun c J0 ih hc hsc hlf hno => ?_)
    have hc8 : c < 8 := Nat.lt_of_le_of_lt (Nat.not_lt.mp fun h => hno b0 h ⟨hq0, hl0⟩) hb0
    have e6 : J0 106 = I 106 := hsc 106 (by omega)
    have hl := hlf c hc8
    have hlr := isL_rng hl
    refine j_aload_n (pc := 87) dX12_way_87 rfl ?_
    refine j_getR (pc := 88) f_X12_36 dX12_way_88 rfl rfl (by decide) rfl ?_
    refine j_bipush (pc := 91) dX12_way_91 (by decide) ?_
    refine j_iload_n (pc := 93) dX12_way_93 rfl ?_
    refine j_iconst (pc := 94) dX12_way_94 ?_
    refine j_iadd (pc := 95) dX12_way_95 ?_
    refine j_imul (pc := 96) dX12_way_96 ?_
    refine j_iload (pc := 97) dX12_way_97 rfl ?_
    refine j_iadd (pc := 99) dX12_way_99 ?_
    refine j_iald_b (pc := 100) (8 * (k + 1) + c) dX12_way_100 rfl (by decide) (by decide) (by omega) (by omega) ?_
    refine j_iload (pc := 101) dX12_way_101 rfl ?_
    refine j_iconst (pc := 103) dX12_way_103 ?_
    refine j_isub (pc := 104) dX12_way_104 ?_
    refine j_icmp_ne (pc := 105) 119 dX12_way_105 (by decide) (by omega) (by omega) (fun h_105 => ?_) (fun h_105 => ?_)
    · refine j_iinc6 (pc := 119) dX12_way_119 (by decide) rfl ?_
      refine j_goto (pc := 122) 87 dX12_way_122 (by decide) ?_
      refine ih (c + 1) _ (by omega) (by omega) ?_ ?_ (fun d hd hx => ?_)
      · first | exact hsc | exact fun z hz => (h2 z (by omega)).trans (hsc z hz)
      · first | exact hlf | (rw [h2 113 (by omega)]; exact hlf)
      · by_cases hdc : d = c
        · subst hdc
          have hu := isL_uniq hl hx.2
          first
            | omega
            | (rcases h1 with ⟨e1, e2⟩ | ⟨e1, e2⟩
               · omega
               · exact e2 hx.1)
        · exact hno d (by omega) hx
    · refine j_aload_n (pc := 108) dX12_way_108 rfl ?_
      refine j_iload_n (pc := 109) dX12_way_109 rfl ?_
      refine j_iload (pc := 110) dX12_way_110 rfl ?_
      refine j_iload_n (pc := 112) dX12_way_112 rfl ?_
      refine j_goI (pc := 113) (j_runV k_X12_231 m_X12_isQuiet (c_isQuiet X J0 i c k hi hc8 (by omega) (by rw [e6]; exact hok)) dX12_way_113 rfl (by decide) rfl (by decide) (by decide) rfl rfl (Nat.le_of_ble_eq_true rfl)) (fun r1 I1 h1 => ?_)
      obtain ⟨h1, h2⟩ := h1
      rw [e6] at h1
      refine j_if_ne (pc := 116) 125 dX12_way_116 (by decide) (by omega) (fun h_116 => ?_) (fun h_116 => ?_)
      · refine j_iload (pc := 125) dX12_way_125 rfl ?_
        refine j_reti dX12_way_127 (?_) rfl
        refine q4 i j k c ((n + 1 : Nat) : Int) I1 ea eb em hi hj (by omega) hw1 hL (by omega) (by omega) ⟨hc8, ?_, ?_, ?_⟩ (fun z hz => (h2 z (by omega)).trans (hsc z hz))
        · rcases h1 with ⟨e1, e2⟩ | ⟨e1, e2⟩
          · exact e2
          · omega
        · rw [show (((n + 1 : Nat) : Int) - 1) = (n : Int) by omega]
          have : J0 113 (8 * (k + 1) + c) = n := by omega
          rw [← this]; exact hl
        · rw [show (((n + 1 : Nat) : Int) - 1) = (n : Int) by omega]
          exact hno
      · refine j_iinc6 (pc := 119) dX12_way_119 (by decide) rfl ?_
        refine j_goto (pc := 122) 87 dX12_way_122 (by decide) ?_
        refine ih (c + 1) _ (by omega) (by omega) ?_ ?_ (fun d hd hx => ?_)
        · first | exact hsc | exact fun z hz => (h2 z (by omega)).trans (hsc z hz)
        · first | exact hlf | (rw [h2 113 (by omega)]; exact hlf)
        · by_cases hdc : d = c
          · subst hdc
            have hu := isL_uniq hl hx.2
            first
              | omega
              | (rcases h1 with ⟨e1, e2⟩ | ⟨e1, e2⟩
                 · omega
                 · exact e2 hx.1)
          · exact hno d (by omega) hx
  refine j_iload_n (pc := 0) dX12_way_0 rfl ?_
  refine j_goI (pc := 1) (j_runS k_X12_89 m_X12_isRoom (c_mRoom X I a ha) dX12_way_1 (by decide) rfl rfl (Nat.le_of_ble_eq_true rfl)) (fun r1 I1 h1 => ?_)
  obtain ⟨rfl, rfl⟩ := h1
  refine j_if_eq (pc := 4) 29 dX12_way_4 (by decide) (by omega) (fun h_4 => ?_) (fun h_4 => ?_)
  · exact kbad (by omega)
  · refine j_iload_n (pc := 7) dX12_way_7 rfl ?_
    refine j_goI (pc := 8) (j_runS k_X12_89 m_X12_isRoom (c_mRoom X I1 b hb) dX12_way_8 (by decide) rfl rfl (Nat.le_of_ble_eq_true rfl)) (fun r2 I2 h2 => ?_)
    obtain ⟨rfl, rfl⟩ := h2
    refine j_if_eq (pc := 11) 29 dX12_way_11 (by decide) (by omega) (fun h_11 => ?_) (fun h_11 => ?_)
    · exact kbad (by omega)
    · refine j_iload_n (pc := 14) dX12_way_14 rfl ?_
      refine j_goI (pc := 15) (j_runS k_X12_208 m_X12_isMinute (c_isMinute X I2 m hm) dX12_way_15 (by decide) rfl rfl (Nat.le_of_ble_eq_true rfl)) (fun r3 I3 h3 => ?_)
      obtain ⟨rfl, rfl⟩ := h3
      refine j_if_eq (pc := 18) 29 dX12_way_18 (by decide) (by omega) (fun h_18 => ?_) (fun h_18 => ?_)
      · exact kbad (by omega)
      · refine j_iload (pc := 21) dX12_way_21 rfl ?_
        refine j_goI (pc := 23) (j_runS k_X12_238 m_X12_isWhat (c_isWhat X I3 w hw) dX12_way_23 (by decide) rfl rfl (Nat.le_of_ble_eq_true rfl)) (fun r4 I4 h4 => ?_)
        obtain ⟨rfl, rfl⟩ := h4
        refine j_if_ne (pc := 26) 34 dX12_way_26 (by decide) (by omega) (fun h_26 => ?_) (fun h_26 => ?_)
        · obtain ⟨i, rfl⟩ := Int.eq_ofNat_of_zero_le (show 0 ≤ a by omega)
          obtain ⟨j, rfl⟩ := Int.eq_ofNat_of_zero_le (show 0 ≤ b by omega)
          obtain ⟨k, rfl⟩ := Int.eq_ofNat_of_zero_le (show 0 ≤ m by omega)
          have hi : i < 8 := by omega
          have hj : j < 8 := by omega
          have hk : k ≤ 59 := by omega
          have hw1 : 0 ≤ w ∧ w ≤ 1 := by omega
          refine j_aload_n (pc := 34) dX12_way_34 rfl ?_
          refine j_iload_n (pc := 35) dX12_way_35 rfl ?_
          refine j_iload_n (pc := 36) dX12_way_36 rfl ?_
          refine j_goV (pc := 37) (j_runV k_X12_241 m_X12_findWays (c_findWays X I4 j k hj hk hok) dX12_way_37 rfl (by decide) rfl (by decide) (by decide) rfl rfl (Nat.le_of_ble_eq_true rfl)) (fun I5 h5 => ?_)
          obtain ⟨h5, h6⟩ := h5
          have hsc : mSc I4 I5 := fun z hz => h6 z (by omega) (by omega) (by omega)
          have hl := h5 k i (by omega) hk hi
          have hlr := isL_rng hl
          refine j_aload_n (pc := 40) dX12_way_40 rfl ?_
          refine j_getR (pc := 41) f_X12_36 dX12_way_41 rfl rfl (by decide) rfl ?_
          refine j_bipush (pc := 44) dX12_way_44 (by decide) ?_
          refine j_iload_n (pc := 46) dX12_way_46 rfl ?_
          refine j_imul (pc := 47) dX12_way_47 ?_
          refine j_iload_n (pc := 48) dX12_way_48 rfl ?_
          refine j_iadd (pc := 49) dX12_way_49 ?_
          refine j_iald_b (pc := 50) (8 * k + i) dX12_way_50 rfl (by decide) (by decide) (by omega) (by omega) ?_
          refine j_istore5 (pc := 51) dX12_way_51 (by decide) rfl ?_
          refine j_iload (pc := 53) dX12_way_53 rfl ?_
          refine j_bipush (pc := 55) dX12_way_55 (by decide) ?_
          refine j_icmp_lt (pc := 57) 62 dX12_way_57 (by decide) (by omega) (by omega) (fun h_57 => ?_) (fun h_57 => ?_)
          · refine j_iload (pc := 62) dX12_way_62 rfl ?_
            refine j_if_eq (pc := 64) 72 dX12_way_64 (by decide) (by omega) (fun h_64 => ?_) (fun h_64 => ?_)
            · refine j_iload (pc := 72) dX12_way_72 rfl ?_
              refine j_if_ne (pc := 74) 82 dX12_way_74 (by decide) (by omega) (fun h_74 => ?_) (fun h_74 => ?_)
              · refine j_iload_n (pc := 82) dX12_way_82 rfl ?_
                refine j_reti dX12_way_83 (?_) rfl
                first
                  | exact q2 i j k _ I5 rfl rfl rfl hi hj hk (by omega) hl (by omega) hsc
                  | exact q3 i j k I5 rfl rfl rfl hi hj hk (by omega) (by rw [show (0 : Int) = I5 113 (8 * k + i) by omega]; exact hl) hsc
              · refine j_iload (pc := 77) dX12_way_77 rfl ?_
                refine j_goto (pc := 79) 83 dX12_way_79 (by decide) ?_
                refine j_reti dX12_way_83 (?_) rfl
                first
                  | exact q2 i j k _ I5 rfl rfl rfl hi hj hk (by omega) hl (by omega) hsc
                  | exact q3 i j k I5 rfl rfl rfl hi hj hk (by omega) (by rw [show (0 : Int) = I5 113 (8 * k + i) by omega]; exact hl) hsc
            · refine j_iload (pc := 67) dX12_way_67 rfl ?_
              refine j_if_ne (pc := 69) 84 dX12_way_69 (by decide) (by omega) (fun h_69 => ?_) (fun h_69 => ?_)
              · refine j_iconst (pc := 84) dX12_way_84 ?_
                refine j_istore6 (pc := 85) dX12_way_85 (by decide) rfl ?_
                obtain ⟨n, hn⟩ : ∃ n : Nat, I5 113 (8 * k + i) = ((n + 1 : Nat) : Int) := ⟨(I5 113 (8 * k + i) - 1).toNat, by omega⟩
                rw [hn] at hl hlr ⊢
                exact k87 i j k n rfl rfl rfl hi hj (by omega) (by omega) hl 0 I5 (by omega) hsc (fun d hd => h5 (k + 1) d (by omega) (by omega) hd) (fun d hd => by omega)
              · refine j_iload (pc := 72) dX12_way_72 rfl ?_
                refine j_if_ne (pc := 74) 82 dX12_way_74 (by decide) (by omega) (fun h_74 => ?_) (fun h_74 => ?_)
                · refine j_iload_n (pc := 82) dX12_way_82 rfl ?_
                  refine j_reti dX12_way_83 (?_) rfl
                  first
                    | exact q2 i j k _ I5 rfl rfl rfl hi hj hk (by omega) hl (by omega) hsc
                    | exact q3 i j k I5 rfl rfl rfl hi hj hk (by omega) (by rw [show (0 : Int) = I5 113 (8 * k + i) by omega]; exact hl) hsc
                · refine j_iload (pc := 77) dX12_way_77 rfl ?_
                  refine j_goto (pc := 79) 83 dX12_way_79 (by decide) ?_
                  refine j_reti dX12_way_83 (?_) rfl
                  first
                    | exact q2 i j k _ I5 rfl rfl rfl hi hj hk (by omega) hl (by omega) hsc
                    | exact q3 i j k I5 rfl rfl rfl hi hj hk (by omega) (by rw [show (0 : Int) = I5 113 (8 * k + i) by omega]; exact hl) hsc
          · refine j_iconst (pc := 60) dX12_way_60 ?_
            exact j_reti dX12_way_61 (q1 i j k I5 rfl rfl rfl hi hj hk hw1 (by rw [show (99 : Int) = I5 113 (8 * k + i) by omega]; exact hl) hsc) rfl
        · exact kbad (by omega)
