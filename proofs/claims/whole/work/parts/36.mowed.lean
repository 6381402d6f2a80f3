/-! ===== the reference: owed, took, canNot ===== -/
theorem bt_set {w s : Nat} {P P' : Nat → Prop} (hw : ∀ i, w.testBit i = true ↔ P i) (hP : ∀ i, P' i ↔ (P i ∨ i = s)) : ∀ i, (w ||| 2 ^ s).testBit i = true ↔ P' i := by
  intro i
  rw [tb_or_pow, Bool.or_eq_true, decide_eq_true_eq, hw i, hP i]
  constructor
  · rintro (h | h)
    · exact Or.inl h
    · exact Or.inr h.symm
  · rintro (h | h)
    · exact Or.inl h
    · exact Or.inr h.symm
theorem bt_uniq {w w' : Nat} {P : Nat → Prop} (h : ∀ i, w.testBit i = true ↔ P i) (h' : ∀ i, w'.testBit i = true ↔ P i) : w = w' := by
  apply Nat.eq_of_testBit_eq
  intro i
  have := (h i).trans (h' i).symm
  cases hw : w.testBit i <;> cases hw' : w'.testBit i <;> simp_all
/-- a bit comes, or not: what the two methods do with their numbers -/
theorem bor_step {w s n : Nat} {v : Int} (hn : n ≤ 30) (hw : w < 2 ^ n) (hs : s < n) (hv : v = ((2 ^ s : Nat) : Int) ∨ v = 0) : ∃ w' : Nat, jbor w v = w' ∧ w' < 2 ^ n ∧ ((v = ((2 ^ s : Nat) : Int) ∧ w' = w ||| 2 ^ s) ∨ (v = 0 ∧ w' = w)) := by
  have h30 : 2 ^ n ≤ 2 ^ 30 := Nat.pow_le_pow_right (by omega) hn
  have hs2 : 2 ^ s < 2 ^ n := Nat.pow_lt_pow_right (by omega) hs
  rcases hv with rfl | rfl
  · exact ⟨w ||| 2 ^ s, by rw [jbor_n (by omega) (by omega)], lt_or_pow hw hs, Or.inl ⟨rfl, rfl⟩⟩
  · exact ⟨w, by rw [show (0 : Int) = ((0 : Nat) : Int) from rfl, jbor_n (by omega) (by omega), Nat.or_zero], hw, Or.inr ⟨rfl, rfl⟩⟩
def owP (f : Nat → Int) (p : Int) (t : Nat) : Prop := ∃ k : Nat, (k : Int) + 1 < f (27 + t) ∧ f (32 + 4 * t + k) = p
def isOw (f : Nat → Int) (p : Int) (w : Nat) : Prop := ∀ t, w.testBit t = true ↔ ((t : Int) < f 21 ∧ owP f p t)
theorem okSt_21 {f : Nat → Int} (h : okSt f) : ∃ m : Nat, f 21 = m ∧ m ≤ 5 := by
  have := h 21 (by omega); unfold stLo stHi at this
  obtain ⟨w, hw⟩ := Int.eq_ofNat_of_zero_le (show 0 ≤ f 21 by omega)
  exact ⟨w, hw, by omega⟩
theorem okSt_27 {f : Nat → Int} (h : okSt f) {t : Nat} (ht : t < 5) : ∃ m : Nat, f (27 + t) = m ∧ m ≤ 4 := by
  have := h (27 + t) (by omega); unfold stLo stHi at this
  obtain ⟨w, hw⟩ := Int.eq_ofNat_of_zero_le (show 0 ≤ f (27 + t) by omega)
  exact ⟨w, hw, by omega⟩
theorem okSt_22 {f : Nat → Int} (h : okSt f) {t : Nat} (ht : t < 5) : ∃ m : Nat, f (22 + t) = m ∧ m < 8 := by
  have := h (22 + t) (by omega); unfold stLo stHi at this
  obtain ⟨w, hw⟩ := Int.eq_ofNat_of_zero_le (show 0 ≤ f (22 + t) by omega)
  exact ⟨w, hw, by omega⟩
set_option maxHeartbeats 4000000 in
theorem c_mowed (X : jX) (I : jMI) (p : Int) (q : Int → jMI → Prop) (hp : -2147483648 ≤ p ∧ p < 2147483648) (hok : okSt (I 106)) (q0 : ¬ (0 ≤ p ∧ p ≤ 2) → q (-2) (mRef I 0)) (q1 : ∀ w : Nat, (0 ≤ p ∧ p ≤ 2) → isOw (I 106) p w → q w I) : C_X12_owed X [jR 105, jI p] I q := by
  refine CG.of (by decide) [some (jR 105), some (jI p), none, none, none] rfl (Nat.le_of_ble_eq_true rfl) ?_
  obtain ⟨g, hg, hg5⟩ := okSt_21 hok
  have k21 : (0 ≤ p ∧ p ≤ 2) → ∀ (t w : Nat), t ≤ g → w < 2 ^ 5 → (∀ i, w.testBit i = true ↔ (i < t ∧ owP (I 106) p i)) → ∀ x4, S_X12_owed X 21 [some (jR 105), some (jI p), some (jI w), some (jI t), x4] [] I q := by
    intro hp2
    refine mu2 (fun t _ => 5 - t) _ (fun t w ih ht hw hb x4 => ?_)
    have k35 : t < g → ∀ (c : Nat), I 106 (27 + t) = c → c ≤ 4 → ∀ (k w : Nat), k ≤ 4 → w < 2 ^ 5 → (∀ i, w.testBit i = true ↔ ((i < t ∧ owP (I 106) p i) ∨ (i = t ∧ ∃ j : Nat, j < k ∧ (j : Int) + 1 < I 106 (27 + t) ∧ I 106 (32 + 4 * t + j) = p))) → S_X12_owed X 35 [some (jR 105), some (jI p), some (jI w), some (jI t), some (jI k)] [] I q := by
      intro htg c hc hc4
      refine mu2 (fun k _ => 4 - k) _ (fun k w ihk hk4 hw hb => ?_)
      have k77 : (k : Int) + 1 < c → ∀ v : Int, ((v = ((2 ^ t : Nat) : Int) ∧ I 106 (32 + 4 * t + k) = p) ∨ (v = 0 ∧ ¬ I 106 (32 + 4 * t + k) = p)) → S_X12_owed X 77 [some (jR 105), some (jI p), some (jI w), some (jI t), some (jI k)] [jI v, jI w] I q := by
        intro hkc v hv
        obtain ⟨w', e1, e2, e3⟩ := bor_step (n := 5) (s := t) (by omega) hw (by omega) (show v = ((2 ^ t : Nat) : Int) ∨ v = 0 by rcases hv with ⟨h, -⟩ | ⟨h, -⟩ <;> simp [h])
        have hp2t : (0 : Int) < ((2 ^ t : Nat) : Int) := by have := Nat.two_pow_pos t; omega
        refine j_ior (pc := 77) dX12_owed_77 ?_
        rw [e1]
        refine j_istore_n2 (pc := 78) dX12_owed_78 (by decide) rfl ?_
        refine j_iinc4 (pc := 79) dX12_owed_79 (by decide) rfl ?_
        refine j_goto (pc := 82) 35 dX12_owed_82 (by decide) ?_
        refine ihk (k + 1) w' (by omega) (by omega) e2 ?_
        rcases e3 with ⟨e3, rfl⟩ | ⟨e3, rfl⟩
        · refine bt_set hb (fun i => ?_)
          have hx : I 106 (32 + 4 * t + k) = p := by rcases hv with ⟨-, h⟩ | ⟨h, -⟩ <;> first | exact h | omega
          constructor
          · rintro (h | ⟨h1, j, h2, h3, h4⟩)
            · exact Or.inl (Or.inl h)
            · exact Or.inr h1
          · rintro ((h | ⟨h1, j, h2, h3, h4⟩) | h)
            · exact Or.inl h
            · exact Or.inr ⟨h1, j, by omega, h3, h4⟩
            · exact Or.inr ⟨h, k, by omega, by omega, hx⟩
        · intro i
          rw [hb i]
          have hx : ¬ I 106 (32 + 4 * t + k) = p := by rcases hv with ⟨h, -⟩ | ⟨-, h⟩ <;> first | exact h | omega
          constructor
          · rintro (h | ⟨h1, j, h2, h3, h4⟩)
            · exact Or.inl h
            · exact Or.inr ⟨h1, j, by omega, h3, h4⟩
          · rintro (h | ⟨h1, j, h2, h3, h4⟩)
            · exact Or.inl h
            · refine Or.inr ⟨h1, j, ?_, h3, h4⟩
              by_cases hjk : j = k
              · subst hjk; exact absurd h4 hx
              · omega
      refine j_iload (pc := 35) dX12_owed_35 rfl ?_
      refine j_iconst (pc := 37) dX12_owed_37 ?_
      refine j_iadd (pc := 38) dX12_owed_38 ?_
      refine j_aload_n (pc := 39) dX12_owed_39 rfl ?_
      refine j_getR (pc := 40) f_X12_7 dX12_owed_40 rfl rfl (by decide) rfl ?_
      refine j_bipush (pc := 43) dX12_owed_43 (by decide) ?_
      refine j_iload_n (pc := 45) dX12_owed_45 rfl ?_
      refine j_iadd (pc := 46) dX12_owed_46 ?_
      refine j_iald_b (pc := 47) (27 + t) dX12_owed_47 rfl (by decide) (by decide) (by omega) (by omega) ?_
      rw [hc]
      refine j_icmp_ge (pc := 48) 85 dX12_owed_48 (by decide) (by omega) (by omega) (fun h_48 => ?_) (fun h_48 => ?_)
      · refine j_iinc3 (pc := 85) dX12_owed_85 (by decide) rfl ?_
        refine j_goto (pc := 88) 21 dX12_owed_88 (by decide) ?_
        refine ih (t + 1) w (by omega) (by omega) hw (fun i => ?_) _
        rw [hb i]
        constructor
        · rintro (h | ⟨rfl, j, h2, h3, h4⟩)
          · exact ⟨by omega, h.2⟩
          · exact ⟨by omega, j, h3, h4⟩
        · rintro ⟨h1, h2⟩
          by_cases hit : i = t
          · subst hit
            obtain ⟨j, h3, h4⟩ := h2
            exact Or.inr ⟨rfl, j, by omega, h3, h4⟩
          · exact Or.inl ⟨by omega, h2⟩
      · refine j_iload_n (pc := 51) dX12_owed_51 rfl ?_
        refine j_aload_n (pc := 52) dX12_owed_52 rfl ?_
        refine j_getR (pc := 53) f_X12_7 dX12_owed_53 rfl rfl (by decide) rfl ?_
        refine j_bipush (pc := 56) dX12_owed_56 (by decide) ?_
        refine j_iconst (pc := 58) dX12_owed_58 ?_
        refine j_iload_n (pc := 59) dX12_owed_59 rfl ?_
        refine j_imul (pc := 60) dX12_owed_60 ?_
        refine j_iadd (pc := 61) dX12_owed_61 ?_
        refine j_iload (pc := 62) dX12_owed_62 rfl ?_
        refine j_iadd (pc := 64) dX12_owed_64 ?_
        have hrr := hok (32 + 4 * t + k) (by omega)
        unfold stLo stHi at hrr
        refine j_iald_b (pc := 65) (32 + 4 * t + k) dX12_owed_65 rfl (by decide) (by decide) (by omega) (by omega) ?_
        refine j_iload_n (pc := 66) dX12_owed_66 rfl ?_
        refine j_icmp_ne (pc := 67) 76 dX12_owed_67 (by decide) (by omega) (by omega) (fun h_67 => ?_) (fun h_67 => ?_)
        · refine j_iconst (pc := 76) dX12_owed_76 ?_
          exact k77 (by omega) _ (by first | exact Or.inl ⟨rfl, by omega⟩ | exact Or.inr ⟨rfl, by omega⟩)
        · refine j_iconst (pc := 70) dX12_owed_70 ?_
          refine j_iload_n (pc := 71) dX12_owed_71 rfl ?_
          refine j_ishl (pc := 72) dX12_owed_72 ?_
          rw [jshl_n (by omega)]
          refine j_goto (pc := 73) 77 dX12_owed_73 (by decide) ?_
          exact k77 (by omega) _ (by first | exact Or.inl ⟨rfl, by omega⟩ | exact Or.inr ⟨rfl, by omega⟩)
    refine j_iload_n (pc := 21) dX12_owed_21 rfl ?_
    refine j_aload_n (pc := 22) dX12_owed_22 rfl ?_
    refine j_getR (pc := 23) f_X12_7 dX12_owed_23 rfl rfl (by decide) rfl ?_
    refine j_bipush (pc := 26) dX12_owed_26 (by decide) ?_
    refine j_iald_b (pc := 28) (21) dX12_owed_28 rfl (by decide) (by decide) (by omega) (by omega) ?_
    rw [hg]
    refine j_icmp_ge (pc := 29) 91 dX12_owed_29 (by decide) (by omega) (by omega) (fun h_29 => ?_) (fun h_29 => ?_)
    · refine j_iload_n (pc := 91) dX12_owed_91 rfl ?_
      exact j_reti dX12_owed_92 (q1 w hp2 (fun i => by rw [hb i]; exact ⟨fun h => ⟨by omega, h.2⟩, fun h => ⟨by omega, h.2⟩⟩)) rfl
    · refine j_iconst (pc := 32) dX12_owed_32 ?_
      refine j_istore4 (pc := 33) dX12_owed_33 (by decide) rfl ?_
      obtain ⟨c, hc, hc4⟩ := okSt_27 hok (show t < 5 by omega)
      refine k35 (by omega) c hc hc4 0 w (by omega) hw (fun i => ?_)
      rw [hb i]
      constructor
      · exact Or.inl
      · rintro (h | ⟨-, j, h2, -⟩)
        · exact h
        · omega
  refine j_iload_n (pc := 0) dX12_owed_0 rfl ?_
  refine j_i2l (pc := 1) dX12_owed_1 (by omega) ?_
  refine j_lconst0 (pc := 2) dX12_owed_2 ?_
  refine j_ldc2 (pc := 3) cl_X12_118 dX12_owed_3 ?_
  refine j_goI (pc := 6) (j_runS k_X12_75 m_X12_in (c_in X I p 0 2 hp (by omega) (by omega)) dX12_owed_6 (by decide) rfl rfl (Nat.le_of_ble_eq_true rfl)) (fun r1 I1 h1 => ?_)
  obtain ⟨rfl, rfl⟩ := h1
  refine j_if_ne (pc := 9) 17 dX12_owed_9 (by decide) (by omega) (fun h_9 => ?_) (fun h_9 => ?_)
  · refine j_iconst (pc := 17) dX12_owed_17 ?_
    refine j_istore_n2 (pc := 18) dX12_owed_18 (by decide) rfl ?_
    refine j_iconst (pc := 19) dX12_owed_19 ?_
    refine j_istore_n3 (pc := 20) dX12_owed_20 (by decide) rfl ?_
    exact k21 (by omega) 0 0 (by omega) (by omega) (fun i => by simp) _
  · refine j_aload_n (pc := 12) dX12_owed_12 rfl ?_
    refine j_goI (pc := 13) (j_runV k_X12_95 m_X12_bad (c_bad X I1) dX12_owed_13 rfl (by decide) rfl (by decide) (by decide) rfl rfl (Nat.le_of_ble_eq_true rfl)) (fun r9 I9 h9 => ?_)
    obtain ⟨rfl, rfl⟩ := h9
    exact j_reti dX12_owed_16 (q0 (by omega)) rfl
theorem c_mtook (X : jX) (I : jMI) (t : Int) (q : Int → jMI → Prop) (hT : -2147483648 ≤ t ∧ t < 2147483648) (hok : okSt (I 106)) (q0 : ¬ (0 ≤ t ∧ t < I 106 21) → q (-2) (mRef I 0)) (q1 : ∀ i : Nat, t = i → (i : Int) < I 106 21 → q (lastF (I 106) i) I) : C_X12_took X [jR 105, jI t] I q := by
  refine CG.of (by decide) [some (jR 105), some (jI t)] rfl (Nat.le_of_ble_eq_true rfl) ?_
  obtain ⟨g, hg, hg5⟩ := okSt_21 hok
  refine j_aload_n (pc := 0) dX12_took_0 rfl ?_
  refine j_iload_n (pc := 1) dX12_took_1 rfl ?_
  refine j_goI (pc := 2) (j_runV k_X12_115 m_X12_isThing (c_isThing X I t hT (by omega)) dX12_took_2 rfl (by decide) rfl (by decide) (by decide) rfl rfl (Nat.le_of_ble_eq_true rfl)) (fun r1 I1 h1 => ?_)
  obtain ⟨rfl, rfl⟩ := h1
  refine j_if_eq (pc := 5) 16 dX12_took_5 (by decide) (by omega) (fun h_5 => ?_) (fun h_5 => ?_)
  · refine j_aload_n (pc := 16) dX12_took_16 rfl ?_
    refine j_goI (pc := 17) (j_runV k_X12_95 m_X12_bad (c_bad X I1) dX12_took_17 rfl (by decide) rfl (by decide) (by decide) rfl rfl (Nat.le_of_ble_eq_true rfl)) (fun r9 I9 h9 => ?_)
    obtain ⟨rfl, rfl⟩ := h9
    exact j_reti dX12_took_20 (by first | exact q0 (by omega) | exact q1 _ rfl (by omega)) rfl
  · obtain ⟨i, rfl⟩ := Int.eq_ofNat_of_zero_le (show 0 ≤ t by omega)
    obtain ⟨c, hc, hc4⟩ := okSt_27 hok (show i < 5 by omega)
    refine j_aload_n (pc := 8) dX12_took_8 rfl ?_
    refine j_iload_n (pc := 9) dX12_took_9 rfl ?_
    refine j_goI (pc := 10) (j_runV k_X12_120 m_X12_lastOwner (c_mlast X I1 i c (by omega) hc hc4) dX12_took_10 rfl (by decide) rfl (by decide) (by decide) rfl rfl (Nat.le_of_ble_eq_true rfl)) (fun r2 I2 h2 => ?_)
    obtain ⟨rfl, rfl⟩ := h2
    refine j_goto (pc := 13) 20 dX12_took_13 (by decide) ?_
    exact j_reti dX12_took_20 (by first | exact q0 (by omega) | exact q1 _ rfl (by omega)) rfl
def isCn (f : Nat → Int) (w : Nat) : Prop := ∀ t, w.testBit t = true ↔ ((t : Int) < f 21 ∧ isL f (f (22 + t)).toNat 0 0 99)
set_option maxHeartbeats 4000000 in
theorem c_mcanNot (X : jX) (I : jMI) (q : Int → jMI → Prop) (hok : okSt (I 106)) (q1 : ∀ (w : Nat) (I' : jMI), isCn (I 106) w → mSc I I' → q w I') : C_X12_canNot X [jR 105] I q := by
  refine CG.of (by decide) [some (jR 105), none, none] rfl (Nat.le_of_ble_eq_true rfl) ?_
  obtain ⟨g, hg, hg5⟩ := okSt_21 hok
  have key : ∀ (t w : Nat) (J0 : jMI), t ≤ g → w < 2 ^ 5 → mSc I J0 → (∀ i, w.testBit i = true ↔ (i < t ∧ isL (I 106) (I 106 (22 + i)).toNat 0 0 99)) → S_X12_canNot X 4 [some (jR 105), some (jI w), some (jI t)] [] J0 q := by
    refine mu3 (fun t _ _ => 5 - t) _ (fun t w J0 ih ht hw hsc hb => ?_)
    have e6 : J0 106 = I 106 := hsc 106 (by omega)
    have k48 : t < g → ∀ (v : Int) (J1 : jMI), mSc I J1 → ((v = ((2 ^ t : Nat) : Int) ∧ isL (I 106) (I 106 (22 + t)).toNat 0 0 99) ∨ (v = 0 ∧ ¬ isL (I 106) (I 106 (22 + t)).toNat 0 0 99)) → S_X12_canNot X 48 [some (jR 105), some (jI w), some (jI t)] [jI v, jI w] J1 q := by
      intro htg v J1 hsc1 hv
      obtain ⟨w', e1, e2, e3⟩ := bor_step (n := 5) (s := t) (by omega) hw (by omega) (show v = ((2 ^ t : Nat) : Int) ∨ v = 0 by rcases hv with ⟨h, -⟩ | ⟨h, -⟩ <;> simp [h])
      have hp2t : (0 : Int) < ((2 ^ t : Nat) : Int) := by have := Nat.two_pow_pos t; omega
      refine j_ior (pc := 48) dX12_canNot_48 ?_
      rw [e1]
      refine j_istore_n1 (pc := 49) dX12_canNot_49 (by decide) rfl ?_
      refine j_iinc2 (pc := 50) dX12_canNot_50 (by decide) rfl ?_
      refine j_goto (pc := 53) 4 dX12_canNot_53 (by decide) ?_
      refine ih (t + 1) w' J1 (by omega) (by omega) e2 hsc1 ?_
      rcases e3 with ⟨e3, rfl⟩ | ⟨e3, rfl⟩
      · refine bt_set hb (fun i => ?_)
        have hx : isL (I 106) (I 106 (22 + t)).toNat 0 0 99 := by rcases hv with ⟨-, h⟩ | ⟨h, -⟩ <;> first | exact h | omega
        constructor
        · rintro ⟨h1, h2⟩
          by_cases hit : i = t
          · exact Or.inr hit
          · exact Or.inl ⟨by omega, h2⟩
        · rintro (⟨h1, h2⟩ | rfl)
          · exact ⟨by omega, h2⟩
          · exact ⟨by omega, hx⟩
      · intro i
        rw [hb i]
        have hx : ¬ isL (I 106) (I 106 (22 + t)).toNat 0 0 99 := by rcases hv with ⟨h, -⟩ | ⟨-, h⟩ <;> first | exact h | omega
        constructor
        · rintro ⟨h1, h2⟩; exact ⟨by omega, h2⟩
        · rintro ⟨h1, h2⟩
          by_cases hit : i = t
          · subst hit; exact absurd h2 hx
          · exact ⟨by omega, h2⟩
    refine j_iload_n (pc := 4) dX12_canNot_4 rfl ?_
    refine j_aload_n (pc := 5) dX12_canNot_5 rfl ?_
    refine j_getR (pc := 6) f_X12_7 dX12_canNot_6 rfl rfl (by decide) rfl ?_
    refine j_bipush (pc := 9) dX12_canNot_9 (by decide) ?_
    refine j_iald_b (pc := 11) (21) dX12_canNot_11 rfl (by decide) (by decide) (by omega) (by omega) ?_
    rw [e6, hg]
    refine j_icmp_ge (pc := 12) 56 dX12_canNot_12 (by decide) (by omega) (by omega) (fun h_12 => ?_) (fun h_12 => ?_)
    · refine j_iload_n (pc := 56) dX12_canNot_56 rfl ?_
      exact j_reti dX12_canNot_57 (q1 w J0 (fun i => by rw [hb i]; exact ⟨fun h => ⟨by omega, h.2⟩, fun h => ⟨by omega, h.2⟩⟩) hsc) rfl
    · obtain ⟨h, hh, hh8⟩ := okSt_22 hok (show t < 5 by omega)
      refine j_aload_n (pc := 15) dX12_canNot_15 rfl ?_
      refine j_aload_n (pc := 16) dX12_canNot_16 rfl ?_
      refine j_getR (pc := 17) f_X12_7 dX12_canNot_17 rfl rfl (by decide) rfl ?_
      refine j_bipush (pc := 20) dX12_canNot_20 (by decide) ?_
      refine j_iload_n (pc := 22) dX12_canNot_22 rfl ?_
      refine j_iadd (pc := 23) dX12_canNot_23 ?_
      refine j_iald_b (pc := 24) (22 + t) dX12_canNot_24 rfl (by decide) (by decide) (by omega) (by omega) ?_
      rw [e6, hh]
      refine j_iconst (pc := 25) dX12_canNot_25 ?_
      refine j_goV (pc := 26) (j_runV k_X12_241 m_X12_findWays (c_findWays X J0 h 0 hh8 (by omega) (by rw [e6]; exact hok)) dX12_canNot_26 rfl (by decide) rfl (by decide) (by decide) rfl rfl (Nat.le_of_ble_eq_true rfl)) (fun I1 h1 => ?_)
      obtain ⟨h1, h2⟩ := h1
      rw [e6] at h1
      have hl : isL (I 106) h 0 0 (I1 113 0) := h1 0 0 (by omega) (by omega) (by omega)
      have hlr := isL_rng hl
      have hsc1 : mSc I I1 := fun z hz => (h2 z (by omega) (by omega) (by omega)).trans (hsc z hz)
      have hht : (I 106 (22 + t)).toNat = h := by rw [hh]; rfl
      refine j_iload_n (pc := 29) dX12_canNot_29 rfl ?_
      refine j_aload_n (pc := 30) dX12_canNot_30 rfl ?_
      refine j_getR (pc := 31) f_X12_36 dX12_canNot_31 rfl rfl (by decide) rfl ?_
      refine j_iconst (pc := 34) dX12_canNot_34 ?_
      refine j_iald_b (pc := 35) (0) dX12_canNot_35 rfl (by decide) (by decide) (by omega) (by omega) ?_
      refine j_bipush (pc := 36) dX12_canNot_36 (by decide) ?_
      refine j_icmp_lt (pc := 38) 47 dX12_canNot_38 (by decide) (by omega) (by omega) (fun h_38 => ?_) (fun h_38 => ?_)
      · refine j_iconst (pc := 47) dX12_canNot_47 ?_
        refine k48 (by omega) _ I1 hsc1 ?_
        rw [hht]
        first
          | exact Or.inl ⟨rfl, by rw [show (99 : Int) = I1 113 0 by omega]; exact hl⟩
          | exact Or.inr ⟨rfl, fun h => by have := isL_uniq h hl; omega⟩
      · refine j_iconst (pc := 41) dX12_canNot_41 ?_
        refine j_iload_n (pc := 42) dX12_canNot_42 rfl ?_
        refine j_ishl (pc := 43) dX12_canNot_43 ?_
        rw [jshl_n (by omega)]
        refine j_goto (pc := 44) 48 dX12_canNot_44 (by decide) ?_
        refine k48 (by omega) _ I1 hsc1 ?_
        rw [hht]
        first
          | exact Or.inl ⟨rfl, by rw [show (99 : Int) = I1 113 0 by omega]; exact hl⟩
          | exact Or.inr ⟨rfl, fun h => by have := isL_uniq h hl; omega⟩
  refine j_iconst (pc := 0) dX12_canNot_0 ?_
  refine j_istore_n1 (pc := 1) dX12_canNot_1 (by decide) rfl ?_
  refine j_iconst (pc := 2) dX12_canNot_2 ?_
  refine j_istore_n2 (pc := 3) dX12_canNot_3 (by decide) rfl ?_
  exact key 0 0 I (by omega) (by omega) mSc.rf (fun i => by simp)
