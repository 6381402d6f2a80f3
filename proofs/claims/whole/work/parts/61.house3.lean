/-! ===== the class: a house asked, folded, copied ===== -/
theorem c_bitCount (X : jX) (I : jMI) (w : Nat) (hw : w < 32) : C_J6_bitCount_0f7a4 X [jI w] I (fun r I' => r = pop5 w ∧ I' = I) := by
  refine CG.ofJ (by decide +kernel) [some (jI w)] rfl (Nat.le_of_ble_eq_true rfl) ?_
  refine j_iload_n (pc := 0) dJ6_bitCount_0f7a4_0 rfl ?_
  refine j_iload_n (pc := 1) dJ6_bitCount_0f7a4_1 rfl ?_
  refine j_iconst (pc := 2) dJ6_bitCount_0f7a4_2 ?_
  refine j_iushr (pc := 3) dJ6_bitCount_0f7a4_3 ?_
  refine j_ldcw (pc := 4) cn_J6_265 dJ6_bitCount_0f7a4_4 ?_
  refine j_iand (pc := 7) dJ6_bitCount_0f7a4_7 ?_
  refine j_isub (pc := 8) dJ6_bitCount_0f7a4_8 ?_
  refine j_istore_n0 (pc := 9) dJ6_bitCount_0f7a4_9 (by decide) rfl ?_
  refine j_iload_n (pc := 10) dJ6_bitCount_0f7a4_10 rfl ?_
  refine j_ldcw (pc := 11) cn_J6_266 dJ6_bitCount_0f7a4_11 ?_
  refine j_iand (pc := 14) dJ6_bitCount_0f7a4_14 ?_
  refine j_iload_n (pc := 15) dJ6_bitCount_0f7a4_15 rfl ?_
  refine j_iconst (pc := 16) dJ6_bitCount_0f7a4_16 ?_
  refine j_iushr (pc := 17) dJ6_bitCount_0f7a4_17 ?_
  refine j_ldcw (pc := 18) cn_J6_266 dJ6_bitCount_0f7a4_18 ?_
  refine j_iand (pc := 21) dJ6_bitCount_0f7a4_21 ?_
  refine j_iadd (pc := 22) dJ6_bitCount_0f7a4_22 ?_
  refine j_istore_n0 (pc := 23) dJ6_bitCount_0f7a4_23 (by decide) rfl ?_
  refine j_iload_n (pc := 24) dJ6_bitCount_0f7a4_24 rfl ?_
  refine j_iload_n (pc := 25) dJ6_bitCount_0f7a4_25 rfl ?_
  refine j_iconst (pc := 26) dJ6_bitCount_0f7a4_26 ?_
  refine j_iushr (pc := 27) dJ6_bitCount_0f7a4_27 ?_
  refine j_iadd (pc := 28) dJ6_bitCount_0f7a4_28 ?_
  refine j_ldcw (pc := 29) cn_J6_267 dJ6_bitCount_0f7a4_29 ?_
  refine j_iand (pc := 32) dJ6_bitCount_0f7a4_32 ?_
  refine j_istore_n0 (pc := 33) dJ6_bitCount_0f7a4_33 (by decide) rfl ?_
  refine j_iload_n (pc := 34) dJ6_bitCount_0f7a4_34 rfl ?_
  refine j_iload_n (pc := 35) dJ6_bitCount_0f7a4_35 rfl ?_
  refine j_bipush (pc := 36) dJ6_bitCount_0f7a4_36 (by decide) ?_
  refine j_iushr (pc := 38) dJ6_bitCount_0f7a4_38 ?_
  refine j_iadd (pc := 39) dJ6_bitCount_0f7a4_39 ?_
  refine j_istore_n0 (pc := 40) dJ6_bitCount_0f7a4_40 (by decide) rfl ?_
  refine j_iload_n (pc := 41) dJ6_bitCount_0f7a4_41 rfl ?_
  refine j_iload_n (pc := 42) dJ6_bitCount_0f7a4_42 rfl ?_
  refine j_bipush (pc := 43) dJ6_bitCount_0f7a4_43 (by decide) ?_
  refine j_iushr (pc := 45) dJ6_bitCount_0f7a4_45 ?_
  refine j_iadd (pc := 46) dJ6_bitCount_0f7a4_46 ?_
  refine j_istore_n0 (pc := 47) dJ6_bitCount_0f7a4_47 (by decide) rfl ?_
  refine j_iload_n (pc := 48) dJ6_bitCount_0f7a4_48 rfl ?_
  refine j_bipush (pc := 49) dJ6_bitCount_0f7a4_49 (by decide) ?_
  refine j_iand (pc := 51) dJ6_bitCount_0f7a4_51 ?_
  refine j_reti dJ6_bitCount_0f7a4_52 (?_) rfl
  refine ⟨?_, rfl⟩
  revert hw
  revert w
  decide +kernel
theorem c_taken (X : jX) (I : jMI) (f : Nat → Int) (t : Nat) (p : Int) (hH : hR f I 2) (hok : okSt f) (ht : (t : Int) < f 21) (hp : 0 ≤ p ∧ p ≤ 2) : C_X2_wasTakenFrom X [jR 2, jI t, jI p] I (fun r I' => ((r = 1 ∧ owP f p t) ∨ (r = 0 ∧ ¬ owP f p t)) ∧ I' = I) := by
  refine CG.of (by decide) [some (jR 2), some (jI t), some (jI p), none] rfl (Nat.le_of_ble_eq_true rfl) ?_
  obtain ⟨T, hT, hT5⟩ := okSt_21 hok
  obtain ⟨c, hc, hc4⟩ := okSt_27 hok (show t < 5 by omega)
  obtain ⟨c1, c2, c3⟩ := hH.2.2.2.2.2 t ht
  have key : ∀ (i : Nat), i ≤ 4 → (∀ k : Nat, k < i → (k : Int) + 1 < c → f (32 + 4 * t + k) ≠ p) → S_X2_wasTakenFrom X 2 [some (jR 2), some (jI t), some (jI p), some (jI i)] [] I (fun r I' => ((r = 1 ∧ owP f p t) ∨ (r = 0 ∧ ¬ owP f p t)) ∧ I' = I) := by
    refine mu1 (fun i => 4 - i) _ (fun i ih hi hn => ?_)
    refine j_iload_n (pc := 2) dX2_wasTakenFrom_2 rfl ?_
    refine j_aload_n (pc := 3) dX2_wasTakenFrom_3 rfl ?_
    refine j_getR (pc := 4) f_X2_52 dX2_wasTakenFrom_4 rfl rfl (by decide) rfl ?_
    refine j_iload_n (pc := 7) dX2_wasTakenFrom_7 rfl ?_
    refine j_iald_b (pc := 8) (t) dX2_wasTakenFrom_8 rfl (by decide) (by decide) (by omega) (by omega) ?_
    rw [show I 16 t = (c : Int) from c2.trans hc]
    refine j_iconst (pc := 9) dX2_wasTakenFrom_9 ?_
    refine j_isub (pc := 10) dX2_wasTakenFrom_10 ?_
    refine j_icmp_ge (pc := 11) 36 dX2_wasTakenFrom_11 (by decide) (by omega) (by omega) (fun h_11 => ?_) (fun h_11 => ?_)
    · refine j_iconst (pc := 36) dX2_wasTakenFrom_36 ?_
      refine j_retz dX2_wasTakenFrom_37 (by omega) (?_) rfl
      refine ⟨Or.inr ⟨rfl, ?_⟩, rfl⟩
      rintro ⟨k, h1, h2⟩
      exact hn k (by omega) (by omega) h2
    · refine j_aload_n (pc := 14) dX2_wasTakenFrom_14 rfl ?_
      refine j_getR (pc := 15) f_X2_55 dX2_wasTakenFrom_15 rfl rfl (by decide) rfl ?_
      refine j_iload_n (pc := 18) dX2_wasTakenFrom_18 rfl ?_
      refine j_iconst (pc := 19) dX2_wasTakenFrom_19 ?_
      refine j_imul (pc := 20) dX2_wasTakenFrom_20 ?_
      refine j_iload_n (pc := 21) dX2_wasTakenFrom_21 rfl ?_
      refine j_iadd (pc := 22) dX2_wasTakenFrom_22 ?_
      refine j_iald_b (pc := 23) (4 * t + i) dX2_wasTakenFrom_23 rfl (by decide) (by decide) (by omega) (by omega) ?_
      rw [show I 17 (4 * t + i) = f (32 + 4 * t + i) from c3 i (by omega)]
      have hrr := okSt_any hok (k := 32 + 4 * t + i) (by omega)
      refine j_iload_n (pc := 24) dX2_wasTakenFrom_24 rfl ?_
      refine j_icmp_ne (pc := 25) 30 dX2_wasTakenFrom_25 (by decide) (by omega) (by omega) (fun h_25 => ?_) (fun h_25 => ?_)
      · refine j_iinc3 (pc := 30) dX2_wasTakenFrom_30 (by decide) rfl ?_
        refine j_goto (pc := 33) 2 dX2_wasTakenFrom_33 (by decide) ?_
        refine ih (i + 1) (by omega) (by omega) (fun k hk hkc => ?_)
        by_cases e : k = i
        · subst e; assumption
        · exact hn k (by omega) hkc
      · refine j_iconst (pc := 28) dX2_wasTakenFrom_28 ?_
        exact j_retz dX2_wasTakenFrom_29 (by omega) (⟨Or.inl ⟨rfl, i, by omega, by omega⟩, rfl⟩) rfl
  refine j_iconst (pc := 0) dX2_wasTakenFrom_0 ?_
  refine j_istore_n3 (pc := 1) dX2_wasTakenFrom_1 (by decide) rfl ?_
  exact key 0 (by omega) (fun k hk => by omega)
def ix8 (a b : Nat) : Nat := a * (15 - a) / 2 + b - a - 1
theorem ix8_next {a : Nat} (ha : a < 8) : ix8 a 8 = ix8 (a + 1) (a + 2) := by
  have : ∀ a : Fin 8, ix8 a 8 = ix8 (a + 1) (a + 2) := by decide
  exact this ⟨a, ha⟩
theorem ix8_s {a b : Nat} (ha : a < b) : ix8 a (b + 1) = ix8 a b + 1 := by unfold ix8; omega
theorem ix8_p {a b : Nat} (hab : a < b) : pairN a b = ix8 a b := by unfold pairN ix8; rw [if_pos hab]
theorem c_foldStairs (X : jX) (I : jMI) (f : Nat → Int) (h : Int) (hH : hR f I 2) (hok : okSt f) : C_X2_foldStairs X [jR 2, jL h] I (fun r I' => r = fo (fun j => f (71 + j)) h 28 ∧ I' = I) := by
  refine CG.of (by decide) [some (jR 2), some (jL h), none, none, none, none, none] rfl (Nat.le_of_ble_eq_true rfl) ?_
  have k5 : ∀ (a : Nat), a ≤ 8 → ∀ x6, S_X2_foldStairs X 5 [some (jR 2), some (jL h), none, some (jL (fo (fun j => f (71 + j)) h (if a = 8 then 28 else ix8 a (a + 1)))), none, some (jI a), x6] [] I (fun r I' => r = fo (fun j => f (71 + j)) h 28 ∧ I' = I) := by
    refine mu1 (fun a => 8 - a) _ (fun a ih ha x6 => ?_)
    have k18 : a < 8 → ∀ (b : Nat), a < b → b ≤ 8 → S_X2_foldStairs X 18 [some (jR 2), some (jL h), none, some (jL (fo (fun j => f (71 + j)) h (ix8 a b))), none, some (jI a), some (jI b)] [] I (fun r I' => r = fo (fun j => f (71 + j)) h 28 ∧ I' = I) := by
      intro ha8
      refine mu1 (fun b => 8 - b) _ (fun b ihb hab hb => ?_)
      refine j_iload (pc := 18) dX2_foldStairs_18 rfl ?_
      refine j_bipush (pc := 20) dX2_foldStairs_20 (by decide) ?_
      refine j_icmp_ge (pc := 22) 51 dX2_foldStairs_22 (by decide) (by omega) (by omega) (fun h_22 => ?_) (fun h_22 => ?_)
      · refine j_iinc5 (pc := 51) dX2_foldStairs_51 (by decide) rfl ?_
        refine j_goto (pc := 54) 5 dX2_foldStairs_54 (by decide) ?_
        obtain rfl : b = 8 := by omega
        have hy := ih (a + 1) (by omega) (by omega) (some (jI ((8 : Nat) : Int)))
        by_cases ha7 : a + 1 = 8
        · obtain rfl : a = 7 := by omega
          rw [if_pos rfl] at hy
          exact hy
        · rw [if_neg ha7, ← ix8_next ha8] at hy
          exact hy
      · refine j_ldc2 (pc := 25) cl_X2_94 dX2_foldStairs_25 ?_
        refine j_lload_n (pc := 28) dX2_foldStairs_28 rfl ?_
        refine j_lmul (pc := 29) dX2_foldStairs_29 ?_
        refine j_aload_n (pc := 30) dX2_foldStairs_30 rfl ?_
        refine j_getR (pc := 31) f_X2_33 dX2_foldStairs_31 rfl rfl (by decide) rfl ?_
        refine j_iload (pc := 34) dX2_foldStairs_34 rfl ?_
        refine j_iload (pc := 36) dX2_foldStairs_36 rfl ?_
        refine j_goI (pc := 38) (j_runSN k_X2_77 m_X11_pair (c_pair X I a b) dX2_foldStairs_38 (by decide) rfl rfl (Nat.le_of_ble_eq_true rfl)) (fun r1 I1 h1 => ?_)
        obtain ⟨rfl, rfl⟩ := h1
        refine j_iald_b (pc := 41) (8 * a + b) dX2_foldStairs_41 rfl (by decide) (by decide) (by omega) (by omega) ?_
        rw [show I1 10 (8 * a + b) = f (71 + ix8 a b) by rw [show I1 10 (8 * a + b) = cr f a b from hH.2.2.1 a b (by omega) (by omega)]; unfold cr; rw [if_neg (by omega), ix8_p hab]]
        have hrr := okSt_any hok (k := 71 + ix8 a b) (by have := pairN_lt (a := a) (b := b) (by omega) (by omega) (by omega); rw [ix8_p hab] at this; omega)
        refine j_i2l (pc := 42) dX2_foldStairs_42 (by omega) ?_
        refine j_ladd (pc := 43) dX2_foldStairs_43 ?_
        refine j_lstore_n3 (pc := 44) dX2_foldStairs_44 (by decide) rfl ?_
        refine j_iinc6 (pc := 45) dX2_foldStairs_45 (by decide) rfl ?_
        refine j_goto (pc := 48) 18 dX2_foldStairs_48 (by decide) ?_
        have hy := ihb (b + 1) (by omega) (by omega) (by omega)
        rw [ix8_s hab] at hy
        exact hy
    refine j_iload (pc := 5) dX2_foldStairs_5 rfl ?_
    refine j_bipush (pc := 7) dX2_foldStairs_7 (by decide) ?_
    refine j_icmp_ge (pc := 9) 57 dX2_foldStairs_9 (by decide) (by omega) (by omega) (fun h_9 => ?_) (fun h_9 => ?_)
    · refine j_lload_n (pc := 57) dX2_foldStairs_57 rfl ?_
      refine j_retl dX2_foldStairs_58 (?_) rfl
      obtain rfl : a = 8 := by omega
      exact ⟨rfl, rfl⟩
    · refine j_iload (pc := 12) dX2_foldStairs_12 rfl ?_
      refine j_iconst (pc := 14) dX2_foldStairs_14 ?_
      refine j_iadd (pc := 15) dX2_foldStairs_15 ?_
      refine j_istore6 (pc := 16) dX2_foldStairs_16 (by decide) rfl ?_
      rw [if_neg (by omega)]
      exact k18 (by omega) (a + 1) (by omega) (by omega)
  refine j_lload_n (pc := 0) dX2_foldStairs_0 rfl ?_
  refine j_lstore_n3 (pc := 1) dX2_foldStairs_1 (by decide) rfl ?_
  refine j_iconst (pc := 2) dX2_foldStairs_2 ?_
  refine j_istore5 (pc := 3) dX2_foldStairs_3 (by decide) rfl ?_
  exact k5 0 (by omega) _
theorem c_foldThings (X : jX) (I : jMI) (f : Nat → Int) (h : Int) (hH : hR f I 2) (hok : okSt f) : C_X2_foldThings X [jR 2, jL h] I (fun r I' => r = foT f h (f 21).toNat ∧ I' = I) := by
  refine CG.of (by decide) [some (jR 2), some (jL h), none, none, none, none, none] rfl (Nat.le_of_ble_eq_true rfl) ?_
  obtain ⟨T, hT, hT5⟩ := okSt_21 hok
  have k5 : ∀ (k : Nat), k ≤ T → ∀ x6, S_X2_foldThings X 5 [some (jR 2), some (jL h), none, some (jL (foT f h k)), none, some (jI k), x6] [] I (fun r I' => r = foT f h (f 21).toNat ∧ I' = I) := by
    refine mu1 (fun k => 5 - k) _ (fun k ih hk x6 => ?_)
    have k47 : k < T → ∀ (c : Nat), f (27 + k) = c → c ≤ 4 → ∀ (z : Nat), z ≤ c → S_X2_foldThings X 47 [some (jR 2), some (jL h), none, some (jL (fo (fun j => f (32 + 4 * k + j)) (31 * (31 * foT f h k + f (22 + k)) + f (27 + k)) z)), none, some (jI k), some (jI z)] [] I (fun r I' => r = foT f h (f 21).toNat ∧ I' = I) := by
      intro hkT c hc hc4
      obtain ⟨c1, c2, c3⟩ := hH.2.2.2.2.2 k (by omega)
      refine mu1 (fun z => 4 - z) _ (fun z ihz hz => ?_)
      refine j_iload (pc := 47) dX2_foldThings_47 rfl ?_
      refine j_aload_n (pc := 49) dX2_foldThings_49 rfl ?_
      refine j_getR (pc := 50) f_X2_52 dX2_foldThings_50 rfl rfl (by decide) rfl ?_
      refine j_iload (pc := 53) dX2_foldThings_53 rfl ?_
      refine j_iald_b (pc := 55) (k) dX2_foldThings_55 rfl (by decide) (by decide) (by omega) (by omega) ?_
      rw [show I 16 k = f (27 + k) from c2]
      refine j_icmp_ge (pc := 56) 85 dX2_foldThings_56 (by decide) (by omega) (by omega) (fun h_56 => ?_) (fun h_56 => ?_)
      · refine j_iinc5 (pc := 85) dX2_foldThings_85 (by decide) rfl ?_
        refine j_goto (pc := 88) 5 dX2_foldThings_88 (by decide) ?_
        obtain rfl : z = c := by omega
        have hy := ih (k + 1) (by omega) (by omega) (some (jI z))
        have e : foT f h (k + 1) = fo (fun j => f (32 + 4 * k + j)) (31 * (31 * foT f h k + f (22 + k)) + f (27 + k)) (f (27 + k)).toNat := rfl
        rw [show (f (27 + k)).toNat = z by rw [hc, Int.toNat_natCast]] at e
        rw [e] at hy
        exact hy
      · refine j_ldc2 (pc := 59) cl_X2_94 dX2_foldThings_59 ?_
        refine j_lload_n (pc := 62) dX2_foldThings_62 rfl ?_
        refine j_lmul (pc := 63) dX2_foldThings_63 ?_
        refine j_aload_n (pc := 64) dX2_foldThings_64 rfl ?_
        refine j_getR (pc := 65) f_X2_55 dX2_foldThings_65 rfl rfl (by decide) rfl ?_
        refine j_iload (pc := 68) dX2_foldThings_68 rfl ?_
        refine j_iconst (pc := 70) dX2_foldThings_70 ?_
        refine j_imul (pc := 71) dX2_foldThings_71 ?_
        refine j_iload (pc := 72) dX2_foldThings_72 rfl ?_
        refine j_iadd (pc := 74) dX2_foldThings_74 ?_
        refine j_iald_b (pc := 75) (4 * k + z) dX2_foldThings_75 rfl (by decide) (by decide) (by omega) (by omega) ?_
        rw [show I 17 (4 * k + z) = f (32 + 4 * k + z) from c3 z (by omega)]
        have hrr := okSt_any hok (k := 32 + 4 * k + z) (by omega)
        refine j_i2l (pc := 76) dX2_foldThings_76 (by omega) ?_
        refine j_ladd (pc := 77) dX2_foldThings_77 ?_
        refine j_lstore_n3 (pc := 78) dX2_foldThings_78 (by decide) rfl ?_
        refine j_iinc6 (pc := 79) dX2_foldThings_79 (by decide) rfl ?_
        refine j_goto (pc := 82) 47 dX2_foldThings_82 (by decide) ?_
        exact ihz (z + 1) (by omega) (by omega)
    refine j_iload (pc := 5) dX2_foldThings_5 rfl ?_
    refine j_aload_n (pc := 7) dX2_foldThings_7 rfl ?_
    refine j_getI (pc := 8) f_X2_65 dX2_foldThings_8 rfl rfl (by decide) ?_
    rw [show I 2 10 = (T : Int) from hH.2.1.trans hT]
    refine j_icmp_ge (pc := 11) 91 dX2_foldThings_11 (by decide) (by omega) (by omega) (fun h_11 => ?_) (fun h_11 => ?_)
    · refine j_lload_n (pc := 91) dX2_foldThings_91 rfl ?_
      refine j_retl dX2_foldThings_92 (?_) rfl
      obtain rfl : k = T := by omega
      rw [hT, Int.toNat_natCast]
      exact ⟨rfl, rfl⟩
    · refine j_ldc2 (pc := 14) cl_X2_94 dX2_foldThings_14 ?_
      refine j_lload_n (pc := 17) dX2_foldThings_17 rfl ?_
      refine j_lmul (pc := 18) dX2_foldThings_18 ?_
      refine j_aload_n (pc := 19) dX2_foldThings_19 rfl ?_
      refine j_getR (pc := 20) f_X2_49 dX2_foldThings_20 rfl rfl (by decide) rfl ?_
      refine j_iload (pc := 23) dX2_foldThings_23 rfl ?_
      refine j_iald_b (pc := 25) (k) dX2_foldThings_25 rfl (by decide) (by decide) (by omega) (by omega) ?_
      obtain ⟨c1, c2, c3⟩ := hH.2.2.2.2.2 k (by omega)
      rw [show I 15 k = f (22 + k) from c1]
      have hr1 := okSt_any hok (k := 22 + k) (by omega)
      refine j_i2l (pc := 26) dX2_foldThings_26 (by omega) ?_
      refine j_ladd (pc := 27) dX2_foldThings_27 ?_
      refine j_lstore_n3 (pc := 28) dX2_foldThings_28 (by decide) rfl ?_
      refine j_ldc2 (pc := 29) cl_X2_94 dX2_foldThings_29 ?_
      refine j_lload_n (pc := 32) dX2_foldThings_32 rfl ?_
      refine j_lmul (pc := 33) dX2_foldThings_33 ?_
      refine j_aload_n (pc := 34) dX2_foldThings_34 rfl ?_
      refine j_getR (pc := 35) f_X2_52 dX2_foldThings_35 rfl rfl (by decide) rfl ?_
      refine j_iload (pc := 38) dX2_foldThings_38 rfl ?_
      refine j_iald_b (pc := 40) (k) dX2_foldThings_40 rfl (by decide) (by decide) (by omega) (by omega) ?_
      rw [show I 16 k = f (27 + k) from c2]
      have hr2 := okSt_any hok (k := 27 + k) (by omega)
      refine j_i2l (pc := 41) dX2_foldThings_41 (by omega) ?_
      refine j_ladd (pc := 42) dX2_foldThings_42 ?_
      refine j_lstore_n3 (pc := 43) dX2_foldThings_43 (by decide) rfl ?_
      refine j_iconst (pc := 44) dX2_foldThings_44 ?_
      refine j_istore6 (pc := 45) dX2_foldThings_45 (by decide) rfl ?_
      obtain ⟨c, hc, hc4⟩ := okSt_27 hok (show k < 5 by omega)
      exact k47 (by omega) c hc hc4 0 (by omega)
  refine j_lload_n (pc := 0) dX2_foldThings_0 rfl ?_
  refine j_lstore_n3 (pc := 1) dX2_foldThings_1 (by decide) rfl ?_
  refine j_iconst (pc := 2) dX2_foldThings_2 ?_
  refine j_istore5 (pc := 3) dX2_foldThings_3 (by decide) rfl ?_
  exact k5 0 (by omega) _
/-- a house's rows as another's -/
def hCp (I I' : jMI) (S D : Nat) : Prop := (∀ i, i < 64 → I' (D + 8) i = I (S + 8) i) ∧ (∀ i, i < 64 → I' (D + 9) i = I (S + 9) i) ∧ (∀ i, i < 5 → I' (D + 10) i = I (S + 10) i ∧ I' (D + 11) i = I (S + 11) i ∧ I' (D + 12) i = I (S + 12) i ∧ I' (D + 13) i = I (S + 13) i ∧ I' (D + 14) i = I (S + 14) i) ∧ (∀ i, i < 20 → I' (D + 15) i = I (S + 15) i) ∧ I' D 9 = I S 9 ∧ I' D 10 = I S 10 ∧ (∀ z, z ≠ D → ¬ (D + 8 ≤ z ∧ z ≤ D + 15) → I' z = I z) ∧ ∀ j, j ≠ 9 → j ≠ 10 → I' D j = I D j
theorem hR_cp {f : Nat → Int} {I I' : jMI} {S D : Nat} (h : hR f I S) (hok : okSt f) (hc : hCp I I' S D) : hR f I' D := by
  obtain ⟨a1, a2, a3, a4, a5, a6⟩ := h
  obtain ⟨b1, b2, b3, b4, b5, b6, b7⟩ := hc
  obtain ⟨Z, hZ, hZ5⟩ := okSt_5 hok
  obtain ⟨T, hT, hT5⟩ := okSt_21 hok
  refine ⟨b5.trans a1, b6.trans a2, fun a b ha hb => (b1 _ (by omega)).trans (a3 a b ha hb), fun a b ha hb => by rw [b2 _ (by omega)]; exact a4 a b ha hb, fun s hs => ?_, fun t ht => ?_⟩
  · obtain ⟨c1, c2, c3, -, -⟩ := b3 s (by omega)
    obtain ⟨d1, d2, d3⟩ := a5 s hs
    exact ⟨c1.trans d1, c2.trans d2, c3.trans d3⟩
  · obtain ⟨-, -, -, c4, c5⟩ := b3 t (by omega)
    obtain ⟨d1, d2, d3⟩ := a6 t ht
    obtain ⟨c, hc, hc4⟩ := okSt_27 hok (show t < 5 by omega)
    exact ⟨c4.trans d1, c5.trans d2, fun k hk => (b4 _ (by omega)).trans (d3 k hk)⟩
theorem c_hCp_80_2 (X : jX) (I : jMI) : C_X2_copyFrom X [jR 2, jR 80] I (fun I' => hCp I I' 80 2) := by
  refine CG.of (by decide) [some (jR 2), some (jR 80)] rfl (Nat.le_of_ble_eq_true rfl) ?_
  refine j_aload_n (pc := 0) dX2_copyFrom_0 rfl ?_
  refine j_getR (pc := 1) f_X2_33 dX2_copyFrom_1 rfl rfl (by decide) rfl ?_
  refine j_iconst (pc := 4) dX2_copyFrom_4 ?_
  refine j_aload_n (pc := 5) dX2_copyFrom_5 rfl ?_
  refine j_getR (pc := 6) f_X2_33 dX2_copyFrom_6 rfl rfl (by decide) rfl ?_
  refine j_iconst (pc := 9) dX2_copyFrom_9 ?_
  refine j_bipush (pc := 10) dX2_copyFrom_10 (by decide) ?_
  refine j_acp (pc := 12) 64 k_acp_X2 dX2_copyFrom_12 rfl rfl (by decide) (by decide) (by decide) (by decide) (by decide) (by decide) ?_
  refine j_aload_n (pc := 15) dX2_copyFrom_15 rfl ?_
  refine j_getR (pc := 16) f_X2_37 dX2_copyFrom_16 rfl rfl (by decide) rfl ?_
  refine j_iconst (pc := 19) dX2_copyFrom_19 ?_
  refine j_aload_n (pc := 20) dX2_copyFrom_20 rfl ?_
  refine j_getR (pc := 21) f_X2_37 dX2_copyFrom_21 rfl rfl (by decide) rfl ?_
  refine j_iconst (pc := 24) dX2_copyFrom_24 ?_
  refine j_bipush (pc := 25) dX2_copyFrom_25 (by decide) ?_
  refine j_acp (pc := 27) 64 k_acp_X2 dX2_copyFrom_27 rfl rfl (by decide) (by decide) (by decide) (by decide) (by decide) (by decide) ?_
  refine j_aload_n (pc := 30) dX2_copyFrom_30 rfl ?_
  refine j_getR (pc := 31) f_X2_40 dX2_copyFrom_31 rfl rfl (by decide) rfl ?_
  refine j_iconst (pc := 34) dX2_copyFrom_34 ?_
  refine j_aload_n (pc := 35) dX2_copyFrom_35 rfl ?_
  refine j_getR (pc := 36) f_X2_40 dX2_copyFrom_36 rfl rfl (by decide) rfl ?_
  refine j_iconst (pc := 39) dX2_copyFrom_39 ?_
  refine j_iconst (pc := 40) dX2_copyFrom_40 ?_
  refine j_acp (pc := 41) 5 k_acp_X2 dX2_copyFrom_41 rfl rfl (by decide) (by decide) (by decide) (by decide) (by decide) (by decide) ?_
  refine j_aload_n (pc := 44) dX2_copyFrom_44 rfl ?_
  refine j_getR (pc := 45) f_X2_43 dX2_copyFrom_45 rfl rfl (by decide) rfl ?_
  refine j_iconst (pc := 48) dX2_copyFrom_48 ?_
  refine j_aload_n (pc := 49) dX2_copyFrom_49 rfl ?_
  refine j_getR (pc := 50) f_X2_43 dX2_copyFrom_50 rfl rfl (by decide) rfl ?_
  refine j_iconst (pc := 53) dX2_copyFrom_53 ?_
  refine j_iconst (pc := 54) dX2_copyFrom_54 ?_
  refine j_acp (pc := 55) 5 k_acp_X2 dX2_copyFrom_55 rfl rfl (by decide) (by decide) (by decide) (by decide) (by decide) (by decide) ?_
  refine j_aload_n (pc := 58) dX2_copyFrom_58 rfl ?_
  refine j_getR (pc := 59) f_X2_46 dX2_copyFrom_59 rfl rfl (by decide) rfl ?_
  refine j_iconst (pc := 62) dX2_copyFrom_62 ?_
  refine j_aload_n (pc := 63) dX2_copyFrom_63 rfl ?_
  refine j_getR (pc := 64) f_X2_46 dX2_copyFrom_64 rfl rfl (by decide) rfl ?_
  refine j_iconst (pc := 67) dX2_copyFrom_67 ?_
  refine j_iconst (pc := 68) dX2_copyFrom_68 ?_
  refine j_acp (pc := 69) 5 k_acp_X2 dX2_copyFrom_69 rfl rfl (by decide) (by decide) (by decide) (by decide) (by decide) (by decide) ?_
  refine j_aload_n (pc := 72) dX2_copyFrom_72 rfl ?_
  refine j_getR (pc := 73) f_X2_49 dX2_copyFrom_73 rfl rfl (by decide) rfl ?_
  refine j_iconst (pc := 76) dX2_copyFrom_76 ?_
  refine j_aload_n (pc := 77) dX2_copyFrom_77 rfl ?_
  refine j_getR (pc := 78) f_X2_49 dX2_copyFrom_78 rfl rfl (by decide) rfl ?_
  refine j_iconst (pc := 81) dX2_copyFrom_81 ?_
  refine j_iconst (pc := 82) dX2_copyFrom_82 ?_
  refine j_acp (pc := 83) 5 k_acp_X2 dX2_copyFrom_83 rfl rfl (by decide) (by decide) (by decide) (by decide) (by decide) (by decide) ?_
  refine j_aload_n (pc := 86) dX2_copyFrom_86 rfl ?_
  refine j_getR (pc := 87) f_X2_52 dX2_copyFrom_87 rfl rfl (by decide) rfl ?_
  refine j_iconst (pc := 90) dX2_copyFrom_90 ?_
  refine j_aload_n (pc := 91) dX2_copyFrom_91 rfl ?_
  refine j_getR (pc := 92) f_X2_52 dX2_copyFrom_92 rfl rfl (by decide) rfl ?_
  refine j_iconst (pc := 95) dX2_copyFrom_95 ?_
  refine j_iconst (pc := 96) dX2_copyFrom_96 ?_
  refine j_acp (pc := 97) 5 k_acp_X2 dX2_copyFrom_97 rfl rfl (by decide) (by decide) (by decide) (by decide) (by decide) (by decide) ?_
  refine j_aload_n (pc := 100) dX2_copyFrom_100 rfl ?_
  refine j_getR (pc := 101) f_X2_55 dX2_copyFrom_101 rfl rfl (by decide) rfl ?_
  refine j_iconst (pc := 104) dX2_copyFrom_104 ?_
  refine j_aload_n (pc := 105) dX2_copyFrom_105 rfl ?_
  refine j_getR (pc := 106) f_X2_55 dX2_copyFrom_106 rfl rfl (by decide) rfl ?_
  refine j_iconst (pc := 109) dX2_copyFrom_109 ?_
  refine j_bipush (pc := 110) dX2_copyFrom_110 (by decide) ?_
  refine j_acp (pc := 112) 20 k_acp_X2 dX2_copyFrom_112 rfl rfl (by decide) (by decide) (by decide) (by decide) (by decide) (by decide) ?_
  refine j_aload_n (pc := 115) dX2_copyFrom_115 rfl ?_
  refine j_aload_n (pc := 116) dX2_copyFrom_116 rfl ?_
  refine j_getI_c (pc := 117) f_X2_61 dX2_copyFrom_117 rfl rfl (by decide) (by decide) ?_
  refine j_putI_b (pc := 120) f_X2_61 dX2_copyFrom_120 rfl rfl rfl (by decide) ?_
  refine j_aload_n (pc := 123) dX2_copyFrom_123 rfl ?_
  refine j_aload_n (pc := 124) dX2_copyFrom_124 rfl ?_
  refine j_getI_c (pc := 125) f_X2_65 dX2_copyFrom_125 rfl rfl (by decide) (by decide) ?_
  refine j_putI_a (pc := 128) f_X2_65 dX2_copyFrom_128 rfl rfl rfl (by decide) ?_
  refine j_retv dX2_copyFrom_131 (?_) rfl
  refine ⟨fun i hi => ?_, fun i hi => ?_, fun i hi => ⟨?_, ?_, ?_, ?_, ?_⟩, fun i hi => ?_, ?_, ?_, fun z z1 z2 => ?_, fun j j1 j2 => ?_⟩
  all_goals first
    | (repeat' first | rw [jSf_s] | rw [jSf_n (by decide)]
       first
         | (rw [acp_lt (by omega)]; done)
         | (rw [acp_lt (by omega)]; repeat' first | rw [jSf_s] | rw [jSf_n (by decide)])
         | (rw [jU_n (by omega), jU_s]; done)
         | (rw [jU_s]; repeat' first | rw [jSf_s] | rw [jSf_n (by decide)])
         | (rw [jU_n j2, jU_n j1]))
    | (repeat' rw [jSf_n (by omega)])
theorem c_hCp_2_28 (X : jX) (I : jMI) : C_X2_copyFrom X [jR 28, jR 2] I (fun I' => hCp I I' 2 28) := by
  refine CG.of (by decide) [some (jR 28), some (jR 2)] rfl (Nat.le_of_ble_eq_true rfl) ?_
  refine j_aload_n (pc := 0) dX2_copyFrom_0 rfl ?_
  refine j_getR (pc := 1) f_X2_33 dX2_copyFrom_1 rfl rfl (by decide) rfl ?_
  refine j_iconst (pc := 4) dX2_copyFrom_4 ?_
  refine j_aload_n (pc := 5) dX2_copyFrom_5 rfl ?_
  refine j_getR (pc := 6) f_X2_33 dX2_copyFrom_6 rfl rfl (by decide) rfl ?_
  refine j_iconst (pc := 9) dX2_copyFrom_9 ?_
  refine j_bipush (pc := 10) dX2_copyFrom_10 (by decide) ?_
  refine j_acp (pc := 12) 64 k_acp_X2 dX2_copyFrom_12 rfl rfl (by decide) (by decide) (by decide) (by decide) (by decide) (by decide) ?_
  refine j_aload_n (pc := 15) dX2_copyFrom_15 rfl ?_
  refine j_getR (pc := 16) f_X2_37 dX2_copyFrom_16 rfl rfl (by decide) rfl ?_
  refine j_iconst (pc := 19) dX2_copyFrom_19 ?_
  refine j_aload_n (pc := 20) dX2_copyFrom_20 rfl ?_
  refine j_getR (pc := 21) f_X2_37 dX2_copyFrom_21 rfl rfl (by decide) rfl ?_
  refine j_iconst (pc := 24) dX2_copyFrom_24 ?_
  refine j_bipush (pc := 25) dX2_copyFrom_25 (by decide) ?_
  refine j_acp (pc := 27) 64 k_acp_X2 dX2_copyFrom_27 rfl rfl (by decide) (by decide) (by decide) (by decide) (by decide) (by decide) ?_
  refine j_aload_n (pc := 30) dX2_copyFrom_30 rfl ?_
  refine j_getR (pc := 31) f_X2_40 dX2_copyFrom_31 rfl rfl (by decide) rfl ?_
  refine j_iconst (pc := 34) dX2_copyFrom_34 ?_
  refine j_aload_n (pc := 35) dX2_copyFrom_35 rfl ?_
  refine j_getR (pc := 36) f_X2_40 dX2_copyFrom_36 rfl rfl (by decide) rfl ?_
  refine j_iconst (pc := 39) dX2_copyFrom_39 ?_
  refine j_iconst (pc := 40) dX2_copyFrom_40 ?_
  refine j_acp (pc := 41) 5 k_acp_X2 dX2_copyFrom_41 rfl rfl (by decide) (by decide) (by decide) (by decide) (by decide) (by decide) ?_
  refine j_aload_n (pc := 44) dX2_copyFrom_44 rfl ?_
  refine j_getR (pc := 45) f_X2_43 dX2_copyFrom_45 rfl rfl (by decide) rfl ?_
  refine j_iconst (pc := 48) dX2_copyFrom_48 ?_
  refine j_aload_n (pc := 49) dX2_copyFrom_49 rfl ?_
  refine j_getR (pc := 50) f_X2_43 dX2_copyFrom_50 rfl rfl (by decide) rfl ?_
  refine j_iconst (pc := 53) dX2_copyFrom_53 ?_
  refine j_iconst (pc := 54) dX2_copyFrom_54 ?_
  refine j_acp (pc := 55) 5 k_acp_X2 dX2_copyFrom_55 rfl rfl (by decide) (by decide) (by decide) (by decide) (by decide) (by decide) ?_
  refine j_aload_n (pc := 58) dX2_copyFrom_58 rfl ?_
  refine j_getR (pc := 59) f_X2_46 dX2_copyFrom_59 rfl rfl (by decide) rfl ?_
  refine j_iconst (pc := 62) dX2_copyFrom_62 ?_
  refine j_aload_n (pc := 63) dX2_copyFrom_63 rfl ?_
  refine j_getR (pc := 64) f_X2_46 dX2_copyFrom_64 rfl rfl (by decide) rfl ?_
  refine j_iconst (pc := 67) dX2_copyFrom_67 ?_
  refine j_iconst (pc := 68) dX2_copyFrom_68 ?_
  refine j_acp (pc := 69) 5 k_acp_X2 dX2_copyFrom_69 rfl rfl (by decide) (by decide) (by decide) (by decide) (by decide) (by decide) ?_
  refine j_aload_n (pc := 72) dX2_copyFrom_72 rfl ?_
  refine j_getR (pc := 73) f_X2_49 dX2_copyFrom_73 rfl rfl (by decide) rfl ?_
  refine j_iconst (pc := 76) dX2_copyFrom_76 ?_
  refine j_aload_n (pc := 77) dX2_copyFrom_77 rfl ?_
  refine j_getR (pc := 78) f_X2_49 dX2_copyFrom_78 rfl rfl (by decide) rfl ?_
  refine j_iconst (pc := 81) dX2_copyFrom_81 ?_
  refine j_iconst (pc := 82) dX2_copyFrom_82 ?_
  refine j_acp (pc := 83) 5 k_acp_X2 dX2_copyFrom_83 rfl rfl (by decide) (by decide) (by decide) (by decide) (by decide) (by decide) ?_
  refine j_aload_n (pc := 86) dX2_copyFrom_86 rfl ?_
  refine j_getR (pc := 87) f_X2_52 dX2_copyFrom_87 rfl rfl (by decide) rfl ?_
  refine j_iconst (pc := 90) dX2_copyFrom_90 ?_
  refine j_aload_n (pc := 91) dX2_copyFrom_91 rfl ?_
  refine j_getR (pc := 92) f_X2_52 dX2_copyFrom_92 rfl rfl (by decide) rfl ?_
  refine j_iconst (pc := 95) dX2_copyFrom_95 ?_
  refine j_iconst (pc := 96) dX2_copyFrom_96 ?_
  refine j_acp (pc := 97) 5 k_acp_X2 dX2_copyFrom_97 rfl rfl (by decide) (by decide) (by decide) (by decide) (by decide) (by decide) ?_
  refine j_aload_n (pc := 100) dX2_copyFrom_100 rfl ?_
  refine j_getR (pc := 101) f_X2_55 dX2_copyFrom_101 rfl rfl (by decide) rfl ?_
  refine j_iconst (pc := 104) dX2_copyFrom_104 ?_
  refine j_aload_n (pc := 105) dX2_copyFrom_105 rfl ?_
  refine j_getR (pc := 106) f_X2_55 dX2_copyFrom_106 rfl rfl (by decide) rfl ?_
  refine j_iconst (pc := 109) dX2_copyFrom_109 ?_
  refine j_bipush (pc := 110) dX2_copyFrom_110 (by decide) ?_
  refine j_acp (pc := 112) 20 k_acp_X2 dX2_copyFrom_112 rfl rfl (by decide) (by decide) (by decide) (by decide) (by decide) (by decide) ?_
  refine j_aload_n (pc := 115) dX2_copyFrom_115 rfl ?_
  refine j_aload_n (pc := 116) dX2_copyFrom_116 rfl ?_
  refine j_getI_c (pc := 117) f_X2_61 dX2_copyFrom_117 rfl rfl (by decide) (by decide) ?_
  refine j_putI_b (pc := 120) f_X2_61 dX2_copyFrom_120 rfl rfl rfl (by decide) ?_
  refine j_aload_n (pc := 123) dX2_copyFrom_123 rfl ?_
  refine j_aload_n (pc := 124) dX2_copyFrom_124 rfl ?_
  refine j_getI_c (pc := 125) f_X2_65 dX2_copyFrom_125 rfl rfl (by decide) (by decide) ?_
  refine j_putI_a (pc := 128) f_X2_65 dX2_copyFrom_128 rfl rfl rfl (by decide) ?_
  refine j_retv dX2_copyFrom_131 (?_) rfl
  refine ⟨fun i hi => ?_, fun i hi => ?_, fun i hi => ⟨?_, ?_, ?_, ?_, ?_⟩, fun i hi => ?_, ?_, ?_, fun z z1 z2 => ?_, fun j j1 j2 => ?_⟩
  all_goals first
    | (repeat' first | rw [jSf_s] | rw [jSf_n (by decide)]
       first
         | (rw [acp_lt (by omega)]; done)
         | (rw [acp_lt (by omega)]; repeat' first | rw [jSf_s] | rw [jSf_n (by decide)])
         | (rw [jU_n (by omega), jU_s]; done)
         | (rw [jU_s]; repeat' first | rw [jSf_s] | rw [jSf_n (by decide)])
         | (rw [jU_n j2, jU_n j1]))
    | (repeat' rw [jSf_n (by omega)])
theorem c_hCp_2_53 (X : jX) (I : jMI) : C_X2_copyFrom X [jR 53, jR 2] I (fun I' => hCp I I' 2 53) := by
  refine CG.of (by decide) [some (jR 53), some (jR 2)] rfl (Nat.le_of_ble_eq_true rfl) ?_
  refine j_aload_n (pc := 0) dX2_copyFrom_0 rfl ?_
  refine j_getR (pc := 1) f_X2_33 dX2_copyFrom_1 rfl rfl (by decide) rfl ?_
  refine j_iconst (pc := 4) dX2_copyFrom_4 ?_
  refine j_aload_n (pc := 5) dX2_copyFrom_5 rfl ?_
  refine j_getR (pc := 6) f_X2_33 dX2_copyFrom_6 rfl rfl (by decide) rfl ?_
  refine j_iconst (pc := 9) dX2_copyFrom_9 ?_
  refine j_bipush (pc := 10) dX2_copyFrom_10 (by decide) ?_
  refine j_acp (pc := 12) 64 k_acp_X2 dX2_copyFrom_12 rfl rfl (by decide) (by decide) (by decide) (by decide) (by decide) (by decide) ?_
  refine j_aload_n (pc := 15) dX2_copyFrom_15 rfl ?_
  refine j_getR (pc := 16) f_X2_37 dX2_copyFrom_16 rfl rfl (by decide) rfl ?_
  refine j_iconst (pc := 19) dX2_copyFrom_19 ?_
  refine j_aload_n (pc := 20) dX2_copyFrom_20 rfl ?_
  refine j_getR (pc := 21) f_X2_37 dX2_copyFrom_21 rfl rfl (by decide) rfl ?_
  refine j_iconst (pc := 24) dX2_copyFrom_24 ?_
  refine j_bipush (pc := 25) dX2_copyFrom_25 (by decide) ?_
  refine j_acp (pc := 27) 64 k_acp_X2 dX2_copyFrom_27 rfl rfl (by decide) (by decide) (by decide) (by decide) (by decide) (by decide) ?_
  refine j_aload_n (pc := 30) dX2_copyFrom_30 rfl ?_
  refine j_getR (pc := 31) f_X2_40 dX2_copyFrom_31 rfl rfl (by decide) rfl ?_
  refine j_iconst (pc := 34) dX2_copyFrom_34 ?_
  refine j_aload_n (pc := 35) dX2_copyFrom_35 rfl ?_
  refine j_getR (pc := 36) f_X2_40 dX2_copyFrom_36 rfl rfl (by decide) rfl ?_
  refine j_iconst (pc := 39) dX2_copyFrom_39 ?_
  refine j_iconst (pc := 40) dX2_copyFrom_40 ?_
  refine j_acp (pc := 41) 5 k_acp_X2 dX2_copyFrom_41 rfl rfl (by decide) (by decide) (by decide) (by decide) (by decide) (by decide) ?_
  refine j_aload_n (pc := 44) dX2_copyFrom_44 rfl ?_
  refine j_getR (pc := 45) f_X2_43 dX2_copyFrom_45 rfl rfl (by decide) rfl ?_
  refine j_iconst (pc := 48) dX2_copyFrom_48 ?_
  refine j_aload_n (pc := 49) dX2_copyFrom_49 rfl ?_
  refine j_getR (pc := 50) f_X2_43 dX2_copyFrom_50 rfl rfl (by decide) rfl ?_
  refine j_iconst (pc := 53) dX2_copyFrom_53 ?_
  refine j_iconst (pc := 54) dX2_copyFrom_54 ?_
  refine j_acp (pc := 55) 5 k_acp_X2 dX2_copyFrom_55 rfl rfl (by decide) (by decide) (by decide) (by decide) (by decide) (by decide) ?_
  refine j_aload_n (pc := 58) dX2_copyFrom_58 rfl ?_
  refine j_getR (pc := 59) f_X2_46 dX2_copyFrom_59 rfl rfl (by decide) rfl ?_
  refine j_iconst (pc := 62) dX2_copyFrom_62 ?_
  refine j_aload_n (pc := 63) dX2_copyFrom_63 rfl ?_
  refine j_getR (pc := 64) f_X2_46 dX2_copyFrom_64 rfl rfl (by decide) rfl ?_
  refine j_iconst (pc := 67) dX2_copyFrom_67 ?_
  refine j_iconst (pc := 68) dX2_copyFrom_68 ?_
  refine j_acp (pc := 69) 5 k_acp_X2 dX2_copyFrom_69 rfl rfl (by decide) (by decide) (by decide) (by decide) (by decide) (by decide) ?_
  refine j_aload_n (pc := 72) dX2_copyFrom_72 rfl ?_
  refine j_getR (pc := 73) f_X2_49 dX2_copyFrom_73 rfl rfl (by decide) rfl ?_
  refine j_iconst (pc := 76) dX2_copyFrom_76 ?_
  refine j_aload_n (pc := 77) dX2_copyFrom_77 rfl ?_
  refine j_getR (pc := 78) f_X2_49 dX2_copyFrom_78 rfl rfl (by decide) rfl ?_
  refine j_iconst (pc := 81) dX2_copyFrom_81 ?_
  refine j_iconst (pc := 82) dX2_copyFrom_82 ?_
  refine j_acp (pc := 83) 5 k_acp_X2 dX2_copyFrom_83 rfl rfl (by decide) (by decide) (by decide) (by decide) (by decide) (by decide) ?_
  refine j_aload_n (pc := 86) dX2_copyFrom_86 rfl ?_
  refine j_getR (pc := 87) f_X2_52 dX2_copyFrom_87 rfl rfl (by decide) rfl ?_
  refine j_iconst (pc := 90) dX2_copyFrom_90 ?_
  refine j_aload_n (pc := 91) dX2_copyFrom_91 rfl ?_
  refine j_getR (pc := 92) f_X2_52 dX2_copyFrom_92 rfl rfl (by decide) rfl ?_
  refine j_iconst (pc := 95) dX2_copyFrom_95 ?_
  refine j_iconst (pc := 96) dX2_copyFrom_96 ?_
  refine j_acp (pc := 97) 5 k_acp_X2 dX2_copyFrom_97 rfl rfl (by decide) (by decide) (by decide) (by decide) (by decide) (by decide) ?_
  refine j_aload_n (pc := 100) dX2_copyFrom_100 rfl ?_
  refine j_getR (pc := 101) f_X2_55 dX2_copyFrom_101 rfl rfl (by decide) rfl ?_
  refine j_iconst (pc := 104) dX2_copyFrom_104 ?_
  refine j_aload_n (pc := 105) dX2_copyFrom_105 rfl ?_
  refine j_getR (pc := 106) f_X2_55 dX2_copyFrom_106 rfl rfl (by decide) rfl ?_
  refine j_iconst (pc := 109) dX2_copyFrom_109 ?_
  refine j_bipush (pc := 110) dX2_copyFrom_110 (by decide) ?_
  refine j_acp (pc := 112) 20 k_acp_X2 dX2_copyFrom_112 rfl rfl (by decide) (by decide) (by decide) (by decide) (by decide) (by decide) ?_
  refine j_aload_n (pc := 115) dX2_copyFrom_115 rfl ?_
  refine j_aload_n (pc := 116) dX2_copyFrom_116 rfl ?_
  refine j_getI_c (pc := 117) f_X2_61 dX2_copyFrom_117 rfl rfl (by decide) (by decide) ?_
  refine j_putI_b (pc := 120) f_X2_61 dX2_copyFrom_120 rfl rfl rfl (by decide) ?_
  refine j_aload_n (pc := 123) dX2_copyFrom_123 rfl ?_
  refine j_aload_n (pc := 124) dX2_copyFrom_124 rfl ?_
  refine j_getI_c (pc := 125) f_X2_65 dX2_copyFrom_125 rfl rfl (by decide) (by decide) ?_
  refine j_putI_a (pc := 128) f_X2_65 dX2_copyFrom_128 rfl rfl rfl (by decide) ?_
  refine j_retv dX2_copyFrom_131 (?_) rfl
  refine ⟨fun i hi => ?_, fun i hi => ?_, fun i hi => ⟨?_, ?_, ?_, ?_, ?_⟩, fun i hi => ?_, ?_, ?_, fun z z1 z2 => ?_, fun j j1 j2 => ?_⟩
  all_goals first
    | (repeat' first | rw [jSf_s] | rw [jSf_n (by decide)]
       first
         | (rw [acp_lt (by omega)]; done)
         | (rw [acp_lt (by omega)]; repeat' first | rw [jSf_s] | rw [jSf_n (by decide)])
         | (rw [jU_n (by omega), jU_s]; done)
         | (rw [jU_s]; repeat' first | rw [jSf_s] | rw [jSf_n (by decide)])
         | (rw [jU_n j2, jU_n j1]))
    | (repeat' rw [jSf_n (by omega)])
theorem c_hCp_28_2 (X : jX) (I : jMI) : C_X2_copyFrom X [jR 2, jR 28] I (fun I' => hCp I I' 28 2) := by
  refine CG.of (by decide) [some (jR 2), some (jR 28)] rfl (Nat.le_of_ble_eq_true rfl) ?_
  refine j_aload_n (pc := 0) dX2_copyFrom_0 rfl ?_
  refine j_getR (pc := 1) f_X2_33 dX2_copyFrom_1 rfl rfl (by decide) rfl ?_
  refine j_iconst (pc := 4) dX2_copyFrom_4 ?_
  refine j_aload_n (pc := 5) dX2_copyFrom_5 rfl ?_
  refine j_getR (pc := 6) f_X2_33 dX2_copyFrom_6 rfl rfl (by decide) rfl ?_
  refine j_iconst (pc := 9) dX2_copyFrom_9 ?_
  refine j_bipush (pc := 10) dX2_copyFrom_10 (by decide) ?_
  refine j_acp (pc := 12) 64 k_acp_X2 dX2_copyFrom_12 rfl rfl (by decide) (by decide) (by decide) (by decide) (by decide) (by decide) ?_
  refine j_aload_n (pc := 15) dX2_copyFrom_15 rfl ?_
  refine j_getR (pc := 16) f_X2_37 dX2_copyFrom_16 rfl rfl (by decide) rfl ?_
  refine j_iconst (pc := 19) dX2_copyFrom_19 ?_
  refine j_aload_n (pc := 20) dX2_copyFrom_20 rfl ?_
  refine j_getR (pc := 21) f_X2_37 dX2_copyFrom_21 rfl rfl (by decide) rfl ?_
  refine j_iconst (pc := 24) dX2_copyFrom_24 ?_
  refine j_bipush (pc := 25) dX2_copyFrom_25 (by decide) ?_
  refine j_acp (pc := 27) 64 k_acp_X2 dX2_copyFrom_27 rfl rfl (by decide) (by decide) (by decide) (by decide) (by decide) (by decide) ?_
  refine j_aload_n (pc := 30) dX2_copyFrom_30 rfl ?_
  refine j_getR (pc := 31) f_X2_40 dX2_copyFrom_31 rfl rfl (by decide) rfl ?_
  refine j_iconst (pc := 34) dX2_copyFrom_34 ?_
  refine j_aload_n (pc := 35) dX2_copyFrom_35 rfl ?_
  refine j_getR (pc := 36) f_X2_40 dX2_copyFrom_36 rfl rfl (by decide) rfl ?_
  refine j_iconst (pc := 39) dX2_copyFrom_39 ?_
  refine j_iconst (pc := 40) dX2_copyFrom_40 ?_
  refine j_acp (pc := 41) 5 k_acp_X2 dX2_copyFrom_41 rfl rfl (by decide) (by decide) (by decide) (by decide) (by decide) (by decide) ?_
  refine j_aload_n (pc := 44) dX2_copyFrom_44 rfl ?_
  refine j_getR (pc := 45) f_X2_43 dX2_copyFrom_45 rfl rfl (by decide) rfl ?_
  refine j_iconst (pc := 48) dX2_copyFrom_48 ?_
  refine j_aload_n (pc := 49) dX2_copyFrom_49 rfl ?_
  refine j_getR (pc := 50) f_X2_43 dX2_copyFrom_50 rfl rfl (by decide) rfl ?_
  refine j_iconst (pc := 53) dX2_copyFrom_53 ?_
  refine j_iconst (pc := 54) dX2_copyFrom_54 ?_
  refine j_acp (pc := 55) 5 k_acp_X2 dX2_copyFrom_55 rfl rfl (by decide) (by decide) (by decide) (by decide) (by decide) (by decide) ?_
  refine j_aload_n (pc := 58) dX2_copyFrom_58 rfl ?_
  refine j_getR (pc := 59) f_X2_46 dX2_copyFrom_59 rfl rfl (by decide) rfl ?_
  refine j_iconst (pc := 62) dX2_copyFrom_62 ?_
  refine j_aload_n (pc := 63) dX2_copyFrom_63 rfl ?_
  refine j_getR (pc := 64) f_X2_46 dX2_copyFrom_64 rfl rfl (by decide) rfl ?_
  refine j_iconst (pc := 67) dX2_copyFrom_67 ?_
  refine j_iconst (pc := 68) dX2_copyFrom_68 ?_
  refine j_acp (pc := 69) 5 k_acp_X2 dX2_copyFrom_69 rfl rfl (by decide) (by decide) (by decide) (by decide) (by decide) (by decide) ?_
  refine j_aload_n (pc := 72) dX2_copyFrom_72 rfl ?_
  refine j_getR (pc := 73) f_X2_49 dX2_copyFrom_73 rfl rfl (by decide) rfl ?_
  refine j_iconst (pc := 76) dX2_copyFrom_76 ?_
  refine j_aload_n (pc := 77) dX2_copyFrom_77 rfl ?_
  refine j_getR (pc := 78) f_X2_49 dX2_copyFrom_78 rfl rfl (by decide) rfl ?_
  refine j_iconst (pc := 81) dX2_copyFrom_81 ?_
  refine j_iconst (pc := 82) dX2_copyFrom_82 ?_
  refine j_acp (pc := 83) 5 k_acp_X2 dX2_copyFrom_83 rfl rfl (by decide) (by decide) (by decide) (by decide) (by decide) (by decide) ?_
  refine j_aload_n (pc := 86) dX2_copyFrom_86 rfl ?_
  refine j_getR (pc := 87) f_X2_52 dX2_copyFrom_87 rfl rfl (by decide) rfl ?_
  refine j_iconst (pc := 90) dX2_copyFrom_90 ?_
  refine j_aload_n (pc := 91) dX2_copyFrom_91 rfl ?_
  refine j_getR (pc := 92) f_X2_52 dX2_copyFrom_92 rfl rfl (by decide) rfl ?_
  refine j_iconst (pc := 95) dX2_copyFrom_95 ?_
  refine j_iconst (pc := 96) dX2_copyFrom_96 ?_
  refine j_acp (pc := 97) 5 k_acp_X2 dX2_copyFrom_97 rfl rfl (by decide) (by decide) (by decide) (by decide) (by decide) (by decide) ?_
  refine j_aload_n (pc := 100) dX2_copyFrom_100 rfl ?_
  refine j_getR (pc := 101) f_X2_55 dX2_copyFrom_101 rfl rfl (by decide) rfl ?_
  refine j_iconst (pc := 104) dX2_copyFrom_104 ?_
  refine j_aload_n (pc := 105) dX2_copyFrom_105 rfl ?_
  refine j_getR (pc := 106) f_X2_55 dX2_copyFrom_106 rfl rfl (by decide) rfl ?_
  refine j_iconst (pc := 109) dX2_copyFrom_109 ?_
  refine j_bipush (pc := 110) dX2_copyFrom_110 (by decide) ?_
  refine j_acp (pc := 112) 20 k_acp_X2 dX2_copyFrom_112 rfl rfl (by decide) (by decide) (by decide) (by decide) (by decide) (by decide) ?_
  refine j_aload_n (pc := 115) dX2_copyFrom_115 rfl ?_
  refine j_aload_n (pc := 116) dX2_copyFrom_116 rfl ?_
  refine j_getI_c (pc := 117) f_X2_61 dX2_copyFrom_117 rfl rfl (by decide) (by decide) ?_
  refine j_putI_b (pc := 120) f_X2_61 dX2_copyFrom_120 rfl rfl rfl (by decide) ?_
  refine j_aload_n (pc := 123) dX2_copyFrom_123 rfl ?_
  refine j_aload_n (pc := 124) dX2_copyFrom_124 rfl ?_
  refine j_getI_c (pc := 125) f_X2_65 dX2_copyFrom_125 rfl rfl (by decide) (by decide) ?_
  refine j_putI_a (pc := 128) f_X2_65 dX2_copyFrom_128 rfl rfl rfl (by decide) ?_
  refine j_retv dX2_copyFrom_131 (?_) rfl
  refine ⟨fun i hi => ?_, fun i hi => ?_, fun i hi => ⟨?_, ?_, ?_, ?_, ?_⟩, fun i hi => ?_, ?_, ?_, fun z z1 z2 => ?_, fun j j1 j2 => ?_⟩
  all_goals first
    | (repeat' first | rw [jSf_s] | rw [jSf_n (by decide)]
       first
         | (rw [acp_lt (by omega)]; done)
         | (rw [acp_lt (by omega)]; repeat' first | rw [jSf_s] | rw [jSf_n (by decide)])
         | (rw [jU_n (by omega), jU_s]; done)
         | (rw [jU_s]; repeat' first | rw [jSf_s] | rw [jSf_n (by decide)])
         | (rw [jU_n j2, jU_n j1]))
    | (repeat' rw [jSf_n (by omega)])
theorem c_hCp_53_2 (X : jX) (I : jMI) : C_X2_copyFrom X [jR 2, jR 53] I (fun I' => hCp I I' 53 2) := by
  refine CG.of (by decide) [some (jR 2), some (jR 53)] rfl (Nat.le_of_ble_eq_true rfl) ?_
  refine j_aload_n (pc := 0) dX2_copyFrom_0 rfl ?_
  refine j_getR (pc := 1) f_X2_33 dX2_copyFrom_1 rfl rfl (by decide) rfl ?_
  refine j_iconst (pc := 4) dX2_copyFrom_4 ?_
  refine j_aload_n (pc := 5) dX2_copyFrom_5 rfl ?_
  refine j_getR (pc := 6) f_X2_33 dX2_copyFrom_6 rfl rfl (by decide) rfl ?_
  refine j_iconst (pc := 9) dX2_copyFrom_9 ?_
  refine j_bipush (pc := 10) dX2_copyFrom_10 (by decide) ?_
  refine j_acp (pc := 12) 64 k_acp_X2 dX2_copyFrom_12 rfl rfl (by decide) (by decide) (by decide) (by decide) (by decide) (by decide) ?_
  refine j_aload_n (pc := 15) dX2_copyFrom_15 rfl ?_
  refine j_getR (pc := 16) f_X2_37 dX2_copyFrom_16 rfl rfl (by decide) rfl ?_
  refine j_iconst (pc := 19) dX2_copyFrom_19 ?_
  refine j_aload_n (pc := 20) dX2_copyFrom_20 rfl ?_
  refine j_getR (pc := 21) f_X2_37 dX2_copyFrom_21 rfl rfl (by decide) rfl ?_
  refine j_iconst (pc := 24) dX2_copyFrom_24 ?_
  refine j_bipush (pc := 25) dX2_copyFrom_25 (by decide) ?_
  refine j_acp (pc := 27) 64 k_acp_X2 dX2_copyFrom_27 rfl rfl (by decide) (by decide) (by decide) (by decide) (by decide) (by decide) ?_
  refine j_aload_n (pc := 30) dX2_copyFrom_30 rfl ?_
  refine j_getR (pc := 31) f_X2_40 dX2_copyFrom_31 rfl rfl (by decide) rfl ?_
  refine j_iconst (pc := 34) dX2_copyFrom_34 ?_
  refine j_aload_n (pc := 35) dX2_copyFrom_35 rfl ?_
  refine j_getR (pc := 36) f_X2_40 dX2_copyFrom_36 rfl rfl (by decide) rfl ?_
  refine j_iconst (pc := 39) dX2_copyFrom_39 ?_
  refine j_iconst (pc := 40) dX2_copyFrom_40 ?_
  refine j_acp (pc := 41) 5 k_acp_X2 dX2_copyFrom_41 rfl rfl (by decide) (by decide) (by decide) (by decide) (by decide) (by decide) ?_
  refine j_aload_n (pc := 44) dX2_copyFrom_44 rfl ?_
  refine j_getR (pc := 45) f_X2_43 dX2_copyFrom_45 rfl rfl (by decide) rfl ?_
  refine j_iconst (pc := 48) dX2_copyFrom_48 ?_
  refine j_aload_n (pc := 49) dX2_copyFrom_49 rfl ?_
  refine j_getR (pc := 50) f_X2_43 dX2_copyFrom_50 rfl rfl (by decide) rfl ?_
  refine j_iconst (pc := 53) dX2_copyFrom_53 ?_
  refine j_iconst (pc := 54) dX2_copyFrom_54 ?_
  refine j_acp (pc := 55) 5 k_acp_X2 dX2_copyFrom_55 rfl rfl (by decide) (by decide) (by decide) (by decide) (by decide) (by decide) ?_
  refine j_aload_n (pc := 58) dX2_copyFrom_58 rfl ?_
  refine j_getR (pc := 59) f_X2_46 dX2_copyFrom_59 rfl rfl (by decide) rfl ?_
  refine j_iconst (pc := 62) dX2_copyFrom_62 ?_
  refine j_aload_n (pc := 63) dX2_copyFrom_63 rfl ?_
  refine j_getR (pc := 64) f_X2_46 dX2_copyFrom_64 rfl rfl (by decide) rfl ?_
  refine j_iconst (pc := 67) dX2_copyFrom_67 ?_
  refine j_iconst (pc := 68) dX2_copyFrom_68 ?_
  refine j_acp (pc := 69) 5 k_acp_X2 dX2_copyFrom_69 rfl rfl (by decide) (by decide) (by decide) (by decide) (by decide) (by decide) ?_
  refine j_aload_n (pc := 72) dX2_copyFrom_72 rfl ?_
  refine j_getR (pc := 73) f_X2_49 dX2_copyFrom_73 rfl rfl (by decide) rfl ?_
  refine j_iconst (pc := 76) dX2_copyFrom_76 ?_
  refine j_aload_n (pc := 77) dX2_copyFrom_77 rfl ?_
  refine j_getR (pc := 78) f_X2_49 dX2_copyFrom_78 rfl rfl (by decide) rfl ?_
  refine j_iconst (pc := 81) dX2_copyFrom_81 ?_
  refine j_iconst (pc := 82) dX2_copyFrom_82 ?_
  refine j_acp (pc := 83) 5 k_acp_X2 dX2_copyFrom_83 rfl rfl (by decide) (by decide) (by decide) (by decide) (by decide) (by decide) ?_
  refine j_aload_n (pc := 86) dX2_copyFrom_86 rfl ?_
  refine j_getR (pc := 87) f_X2_52 dX2_copyFrom_87 rfl rfl (by decide) rfl ?_
  refine j_iconst (pc := 90) dX2_copyFrom_90 ?_
  refine j_aload_n (pc := 91) dX2_copyFrom_91 rfl ?_
  refine j_getR (pc := 92) f_X2_52 dX2_copyFrom_92 rfl rfl (by decide) rfl ?_
  refine j_iconst (pc := 95) dX2_copyFrom_95 ?_
  refine j_iconst (pc := 96) dX2_copyFrom_96 ?_
  refine j_acp (pc := 97) 5 k_acp_X2 dX2_copyFrom_97 rfl rfl (by decide) (by decide) (by decide) (by decide) (by decide) (by decide) ?_
  refine j_aload_n (pc := 100) dX2_copyFrom_100 rfl ?_
  refine j_getR (pc := 101) f_X2_55 dX2_copyFrom_101 rfl rfl (by decide) rfl ?_
  refine j_iconst (pc := 104) dX2_copyFrom_104 ?_
  refine j_aload_n (pc := 105) dX2_copyFrom_105 rfl ?_
  refine j_getR (pc := 106) f_X2_55 dX2_copyFrom_106 rfl rfl (by decide) rfl ?_
  refine j_iconst (pc := 109) dX2_copyFrom_109 ?_
  refine j_bipush (pc := 110) dX2_copyFrom_110 (by decide) ?_
  refine j_acp (pc := 112) 20 k_acp_X2 dX2_copyFrom_112 rfl rfl (by decide) (by decide) (by decide) (by decide) (by decide) (by decide) ?_
  refine j_aload_n (pc := 115) dX2_copyFrom_115 rfl ?_
  refine j_aload_n (pc := 116) dX2_copyFrom_116 rfl ?_
  refine j_getI_c (pc := 117) f_X2_61 dX2_copyFrom_117 rfl rfl (by decide) (by decide) ?_
  refine j_putI_b (pc := 120) f_X2_61 dX2_copyFrom_120 rfl rfl rfl (by decide) ?_
  refine j_aload_n (pc := 123) dX2_copyFrom_123 rfl ?_
  refine j_aload_n (pc := 124) dX2_copyFrom_124 rfl ?_
  refine j_getI_c (pc := 125) f_X2_65 dX2_copyFrom_125 rfl rfl (by decide) (by decide) ?_
  refine j_putI_a (pc := 128) f_X2_65 dX2_copyFrom_128 rfl rfl rfl (by decide) ?_
  refine j_retv dX2_copyFrom_131 (?_) rfl
  refine ⟨fun i hi => ?_, fun i hi => ?_, fun i hi => ⟨?_, ?_, ?_, ?_, ?_⟩, fun i hi => ?_, ?_, ?_, fun z z1 z2 => ?_, fun j j1 j2 => ?_⟩
  all_goals first
    | (repeat' first | rw [jSf_s] | rw [jSf_n (by decide)]
       first
         | (rw [acp_lt (by omega)]; done)
         | (rw [acp_lt (by omega)]; repeat' first | rw [jSf_s] | rw [jSf_n (by decide)])
         | (rw [jU_n (by omega), jU_s]; done)
         | (rw [jU_s]; repeat' first | rw [jSf_s] | rw [jSf_n (by decide)])
         | (rw [jU_n j2, jU_n j1]))
    | (repeat' rw [jSf_n (by omega)])
