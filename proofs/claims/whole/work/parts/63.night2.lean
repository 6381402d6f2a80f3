/-! ===== the class: a night goes on ===== -/
theorem nR_up {f f' ah : Nat → Int} {u : Nat} {I I' : jMI} (h : nR f ah u I 1) (hok : okSt f) (hf : ∀ k, 5 ≤ k → f' k = f k) (hz : ∀ z, z ≠ 1 → z ≠ 18 → z ≠ 19 → I' z = I z) (h9 : I' 1 9 = f' 0) (h10 : I' 1 10 = f' 1) (h11 : I' 1 11 = (u : Int)) (h12 : I' 1 12 = I 1 12) (h18 : ∀ p, p < 3 → I' 18 p = f' (2 + p)) : nR f' ah u I' 1 := by
  obtain ⟨n1, n2, n3, n4, n5, n6, n7, n8⟩ := h
  refine ⟨hR_cg (hR_fr n1 (fun z hz' => hz z (by omega) (by omega) (by omega))) hok (fun k hk => (hf k (by omega)).symm), h9, h10, h11, by rw [hf 52 (by omega), h12]; exact n5, h18, ?_, fun i hi => ?_⟩
  · rw [hz 20 (by omega) (by omega) (by omega), hz 21 (by omega) (by omega) (by omega), hz 22 (by omega) (by omega) (by omega)]; exact n7
  · rw [hz 23 (by omega) (by omega) (by omega), hz 24 (by omega) (by omega) (by omega), hz 25 (by omega) (by omega) (by omega), hf (53 + 3 * i) (by omega), hf (54 + 3 * i) (by omega), hf (55 + 3 * i) (by omega)]
    rw [hf 52 (by omega)] at hi
    exact n8 i hi
theorem c_nGo (X : jX) (I : jMI) (f ah : Nat → Int) (u i r : Nat) (c : Int) (h : nR f ah u I 1) (hok : okSt f) (hu : u ≤ 8) (hi : i < 3) (hr : r < 8) (hc : 0 ≤ c ∧ c ≤ 9) : C_X4_go X [jR 1, jI i, jI r, jI c] I (fun v I' => ∃ w aw : Nat, v = w ∧ f 1 = aw ∧ isW f c r (f 0) w ∧ nR (jU (mGo f i r w aw) 0 (min59 (f 0 + 1))) (noteA ah f u) (noteB u + 1) I' 1 ∧ ∀ z, z ≠ 1 → z ≠ 18 → z ≠ 20 → z ≠ 21 → z ≠ 22 → I' z = I z) := by
  refine CG.of (by decide) [some (jR 1), some (jI i), some (jI r), some (jI c), none] rfl (Nat.le_of_ble_eq_true rfl) ?_
  have h0 := okSt_0 hok
  obtain ⟨aw, haw, haw32⟩ := okSt_1 hok
  refine j_aload_n (pc := 0) dX4_go_0 rfl ?_
  refine j_goV (pc := 1) (j_runV k_X4_66 m_X4_remember (c_nRem X I f ah u h hok hu) dX4_go_1 rfl (by decide) rfl (by decide) (by decide) rfl rfl (Nat.le_of_ble_eq_true rfl)) (fun I1 h1 => ?_)
  obtain ⟨h1, hz1⟩ := h1
  refine j_aload_n (pc := 4) dX4_go_4 rfl ?_
  refine j_getR (pc := 5) f_X4_12 dX4_go_5 rfl rfl (by decide) rfl ?_
  refine j_iload_n (pc := 8) dX4_go_8 rfl ?_
  refine j_iload_n (pc := 9) dX4_go_9 rfl ?_
  refine j_aload_n (pc := 10) dX4_go_10 rfl ?_
  refine j_getI (pc := 11) f_X4_43 dX4_go_11 rfl rfl (by decide) ?_
  rw [show I1 1 9 = f 0 from h1.2.1]
  refine j_goI (pc := 14) (j_runV k_X4_69 m_X2_wakers (c_wakers X I1 f c r (f 0) h1.1 hok (by omega) hr h0) dX4_go_14 rfl (by decide) rfl (by decide) (by decide) rfl rfl (Nat.le_of_ble_eq_true rfl)) (fun r2 I2 h2 => ?_)
  obtain ⟨w, rfl, hw, rfl⟩ := h2
  refine j_istore4 (pc := 17) dX4_go_17 (by decide) rfl ?_
  refine j_aload_n (pc := 19) dX4_go_19 rfl ?_
  refine j_getR (pc := 20) f_X4_18 dX4_go_20 rfl rfl (by decide) rfl ?_
  refine j_iload_n (pc := 23) dX4_go_23 rfl ?_
  refine j_iload_n (pc := 24) dX4_go_24 rfl ?_
  refine j_iast_b (pc := 25) (i) dX4_go_25 rfl (by decide) (by decide) (by omega) (by omega) ?_
  refine j_aload_n (pc := 26) dX4_go_26 rfl ?_
  refine j_dupR (pc := 27) dX4_go_27 ?_
  refine j_getI_c (pc := 28) f_X4_47 dX4_go_28 rfl rfl (by decide) (by decide) ?_
  rw [show I2 1 10 = (aw : Int) from h1.2.2.1.trans haw]
  refine j_iload (pc := 31) dX4_go_31 rfl ?_
  refine j_ior (pc := 33) dX4_go_33 ?_
  rw [jbor_n (by omega) (by have := hw.1; omega)]
  refine j_putI_b (pc := 34) f_X4_47 dX4_go_34 rfl rfl rfl (by decide) ?_
  refine j_aload_n (pc := 37) dX4_go_37 rfl ?_
  refine j_aload_n (pc := 38) dX4_go_38 rfl ?_
  refine j_getI_a (pc := 39) f_X4_43 dX4_go_39 rfl rfl (by decide) ?_
  rw [jU_n (by omega), jSf_n (by decide), show I2 1 9 = f 0 from h1.2.1]
  refine j_iconst (pc := 42) dX4_go_42 ?_
  refine j_iadd (pc := 43) dX4_go_43 ?_
  refine j_bipush (pc := 44) dX4_go_44 (by decide) ?_
  refine j_goI (pc := 46) (j_runS k_X4_73 m_J9_min_7cf53 (c_min X (jSf (jSf I2 18 (jU (I2 18) i r)) 1 (jU ((jSf I2 18 (jU (I2 18) i r)) 1) 10 ((aw ||| w : Nat) : Int))) (f 0 + 1) 59 (by omega) (by omega)) dX4_go_46 (by decide) rfl rfl (Nat.le_of_ble_eq_true rfl)) (fun r3 I3 h3 => ?_)
  obtain ⟨h3, rfl⟩ := h3
  refine j_putI_a (pc := 49) f_X4_43 dX4_go_49 rfl rfl rfl (by decide) ?_
  refine j_iload (pc := 52) dX4_go_52 rfl ?_
  refine j_reti dX4_go_54 (?_) rfl
  have hmn : r3 = min59 (f 0 + 1) := by rw [h3]; unfold min59; split <;> split <;> omega
  refine ⟨w, aw, rfl, haw, hw, nR_up h1 hok (fun k hk => ?_) (fun z z1 z2 z3 => ?_) ?_ ?_ ?_ ?_ (fun p hp => ?_), fun z z1 z2 z3 z4 z5 => ?_⟩
  · unfold mGo; rw [jU_n (by omega), jU_n (by omega), jU_n (by omega)]
  · rw [jSf_n z1, jSf_n z2]
  · rw [jSf_s, jU_s, jU_s, hmn]
  · rw [jSf_s, jU_n (by omega), jU_s, jU_n (by omega)]; unfold mGo; rw [jU_s]
  · rw [jSf_s, jU_n (by omega), jU_n (by omega), jSf_n (by decide)]; exact h1.2.2.2.1
  · rw [jSf_s, jU_n (by omega), jU_n (by omega), jSf_n (by decide)]
  · have e2 : jU (mGo f i r w aw) 0 (min59 (f 0 + 1)) (2 + p) = jU f (2 + i) r (2 + p) := by unfold mGo; rw [jU_n (by omega), jU_n (by omega)]
    rw [jSf_n (by decide), jSf_s, e2]
    by_cases e : p = i
    · subst e; rw [jU_s, jU_s]
    · rw [jU_n e, jU_n (by omega)]; exact h1.2.2.2.2.2.1 p hp
  · rw [jSf_n z1, jSf_n z2]; exact hz1 z z1 z3 z4 z5
def bkF (f ah : Nat → Int) (u : Nat) : Nat → Int := fun j => if j < 5 then ah (5 * u + j) else f j
theorem bkF_lt {f ah : Nat → Int} {u j : Nat} (h : j < 5) : bkF f ah u j = ah (5 * u + j) := by unfold bkF; rw [if_pos h]
theorem bkF_ge {f ah : Nat → Int} {u j : Nat} (h : 5 ≤ j) : bkF f ah u j = f j := by unfold bkF; rw [if_neg (by omega)]
theorem c_nBack (X : jX) (I : jMI) (f ah : Nat → Int) (u : Nat) (h : nR f ah (u + 1) I 1) (hok : okSt f) (hu : u < 8) (hah : okAh ah (u + 1)) : C_X4_goBack X [jR 1] I (fun v I' => v = ah (5 * u) ∧ nR (bkF f ah u) ah u I' 1 ∧ ∀ z, z ≠ 1 → z ≠ 18 → I' z = I z) := by
  refine CG.of (by decide) [some (jR 1), none, none] rfl (Nat.le_of_ble_eq_true rfl) ?_
  obtain ⟨n1, n2, n3, n4, n5, n6, n7, n8⟩ := id h
  obtain ⟨g1, g2, g3⟩ := n7 u (by omega)
  obtain ⟨b1, b2, b3, b4, b5⟩ := hah u (by omega)
  have hr : nR f ah u I 1 → True := fun _ => trivial
  have fin : ∀ g : Nat → Int, (∀ p, p < 3 → g p = ah (5 * u + 2 + p)) → nR (bkF f ah u) ah u (jSf (jSf I 1 (jU (jU (jU (I 1) 11 u) 9 (ah (5 * u))) 10 (ah (5 * u + 1)))) 18 g) 1 := by
    intro g hg
    refine ⟨hR_cg (f := f) (hR_fr n1 (fun z hz' => by rw [jSf_n (by omega), jSf_n (by omega)])) hok (fun k hk => by rw [bkF_ge (by omega)]), ?_, ?_, ?_, ?_, fun p hp => ?_, fun i hi => ?_, fun i hi => ?_⟩
    · rw [jSf_n (by decide), jSf_s, jU_n (by omega), jU_s, bkF_lt (by omega)]; rfl
    · rw [jSf_n (by decide), jSf_s, jU_s, bkF_lt (by omega)]
    · rw [jSf_n (by decide), jSf_s, jU_n (by omega), jU_n (by omega), jU_s]
    · rw [jSf_n (by decide), jSf_s, jU_n (by omega), jU_n (by omega), jU_n (by omega), bkF_ge (by omega)]; exact n5
    · rw [jSf_s, bkF_lt (by omega), hg p hp, show 5 * u + 2 + p = 5 * u + (2 + p) by omega]
    · rw [jSf_n (by decide), jSf_n (by decide), jSf_n (by decide), jSf_n (by decide), jSf_n (by decide), jSf_n (by decide)]
      exact n7 i (by omega)
    · rw [bkF_ge (by omega)] at hi
      rw [jSf_n (by decide), jSf_n (by decide), jSf_n (by decide), jSf_n (by decide), jSf_n (by decide), jSf_n (by decide), bkF_ge (by omega), bkF_ge (by omega), bkF_ge (by omega)]
      exact n8 i hi
  have key : ∀ (p : Nat) (w : Int) (g : Nat → Int), p ≤ 3 → w = (if p = 3 then 64 * ah (5 * u + 2) + 8 * ah (5 * u + 3) + ah (5 * u + 4) else if p = 2 then 8 * ah (5 * u + 2) + ah (5 * u + 3) else if p = 1 then ah (5 * u + 2) else 0) → (∀ q, p ≤ q → q < 3 → g q = ah (5 * u + 2 + q)) → S_X4_goBack X 48 [some (jR 1), some (jI w), some (jI ((p : Int) - 1))] [] (jSf (jSf I 1 (jU (jU (jU (I 1) 11 u) 9 (ah (5 * u))) 10 (ah (5 * u + 1)))) 18 g) (fun v I' => v = ah (5 * u) ∧ nR (bkF f ah u) ah u I' 1 ∧ ∀ z, z ≠ 1 → z ≠ 18 → I' z = I z) := by
    refine mu3 (fun p _ _ => p) _ (fun p w g ih hp hw hg => ?_)
    have hwr : 0 ≤ w ∧ w ≤ 511 := by rw [hw]; repeat' split
                                     all_goals omega
    refine j_iload_n (pc := 48) dX4_goBack_48 rfl ?_
    refine j_if_lt (pc := 49) 73 dX4_goBack_49 (by decide) (by omega) (fun h_49 => ?_) (fun h_49 => ?_)
    · refine j_aload_n (pc := 73) dX4_goBack_73 rfl ?_
      refine j_getI_c (pc := 74) f_X4_43 dX4_goBack_74 rfl rfl (by decide) (by decide) ?_
      rw [jSf_s, jU_n (by omega), jU_s]
      refine j_reti dX4_goBack_77 (?_) rfl
      obtain rfl : p = 0 := by omega
      exact ⟨rfl, fin g (fun q hq => hg q (by omega) hq), fun z z1 z2 => by rw [jSf_n z2, jSf_n z1]⟩
    · refine j_aload_n (pc := 52) dX4_goBack_52 rfl ?_
      refine j_getR (pc := 53) f_X4_18 dX4_goBack_53 rfl rfl (by decide) rfl ?_
      refine j_iload_n (pc := 56) dX4_goBack_56 rfl ?_
      refine j_iload_n (pc := 57) dX4_goBack_57 rfl ?_
      refine j_bipush (pc := 58) dX4_goBack_58 (by decide) ?_
      refine j_irem (pc := 60) dX4_goBack_60 (by omega) (by omega) ?_
      refine j_iast_a (pc := 61) (p - 1) dX4_goBack_61 rfl (by decide) (by decide) (by omega) (by omega) ?_
      refine j_iload_n (pc := 62) dX4_goBack_62 rfl ?_
      refine j_bipush (pc := 63) dX4_goBack_63 (by decide) ?_
      refine j_idiv (pc := 65) dX4_goBack_65 (by omega) (by omega) ?_
      refine j_istore_n1 (pc := 66) dX4_goBack_66 (by decide) rfl ?_
      refine j_iinc2 (pc := 67) dX4_goBack_67 (by decide) rfl ?_
      refine j_goto (pc := 70) 48 dX4_goBack_70 (by decide) ?_
      have e : ((p : Int) - 1 - 1) = ((p - 1 : Nat) : Int) - 1 := by omega
      rw [show ((p : Int) - 1 + -1) = ((p - 1 : Nat) : Int) - 1 by omega]
      refine ih (p - 1) _ _ (by omega) (by omega) ?_ (fun q hq1 hq2 => ?_)
      · rcases (show p = 1 ∨ p = 2 ∨ p = 3 by omega) with rfl | rfl | rfl
        · rw [if_neg (by omega), if_neg (by omega), if_pos rfl] at hw
          rw [if_neg (by omega), if_neg (by omega), if_neg (by omega)]; omega
        · rw [if_neg (by omega), if_pos rfl] at hw
          rw [if_neg (by omega), if_neg (by omega), if_pos rfl]; omega
        · rw [if_pos rfl] at hw
          rw [if_neg (by omega), if_pos rfl]; omega
      · by_cases e : q = p - 1
        · subst e
          rw [jU_s]
          rcases (show p = 1 ∨ p = 2 ∨ p = 3 by omega) with rfl | rfl | rfl
          · rw [if_neg (by omega), if_neg (by omega), if_pos rfl] at hw
            show w % 8 = ah (5 * u + 2)
            omega
          · rw [if_neg (by omega), if_pos rfl] at hw
            show w % 8 = ah (5 * u + 3)
            omega
          · rw [if_pos rfl] at hw
            show w % 8 = ah (5 * u + 4)
            omega
        · rw [jU_n e]; exact hg q (by omega) hq2
  have eu : I 1 11 = (u : Int) + 1 := by rw [show I 1 11 = ((u + 1 : Nat) : Int) from n4]; omega
  refine j_aload_n (pc := 0) dX4_goBack_0 rfl ?_
  refine j_dupR (pc := 1) dX4_goBack_1 ?_
  refine j_getI (pc := 2) f_X4_50 dX4_goBack_2 rfl rfl (by decide) ?_
  rw [eu]
  refine j_iconst (pc := 5) dX4_goBack_5 ?_
  refine j_isub (pc := 6) dX4_goBack_6 ?_
  rw [show (u : Int) + 1 - 1 = (u : Int) by omega]
  refine j_putI_b (pc := 7) f_X4_50 dX4_goBack_7 rfl rfl rfl (by decide) ?_
  refine j_aload_n (pc := 10) dX4_goBack_10 rfl ?_
  refine j_aload_n (pc := 11) dX4_goBack_11 rfl ?_
  refine j_getR (pc := 12) f_X4_25 dX4_goBack_12 rfl rfl (by decide) rfl ?_
  refine j_aload_n (pc := 15) dX4_goBack_15 rfl ?_
  refine j_getI_a (pc := 16) f_X4_50 dX4_goBack_16 rfl rfl (by decide) ?_
  rw [jU_s]
  refine j_iald_c (pc := 19) (u) dX4_goBack_19 rfl (by decide) (by decide) (by omega) (by omega) (by decide) ?_
  rw [show I 20 u = ah (5 * u) from g1]
  refine j_putI_a (pc := 20) f_X4_43 dX4_goBack_20 rfl rfl rfl (by decide) ?_
  refine j_aload_n (pc := 23) dX4_goBack_23 rfl ?_
  refine j_aload_n (pc := 24) dX4_goBack_24 rfl ?_
  refine j_getR (pc := 25) f_X4_28 dX4_goBack_25 rfl rfl (by decide) rfl ?_
  refine j_aload_n (pc := 28) dX4_goBack_28 rfl ?_
  refine j_getI_a (pc := 29) f_X4_50 dX4_goBack_29 rfl rfl (by decide) ?_
  rw [jU_n (by omega), jU_s]
  refine j_iald_c (pc := 32) (u) dX4_goBack_32 rfl (by decide) (by decide) (by omega) (by omega) (by decide) ?_
  rw [show I 21 u = ah (5 * u + 1) from g2]
  refine j_putI_a (pc := 33) f_X4_47 dX4_goBack_33 rfl rfl rfl (by decide) ?_
  refine j_aload_n (pc := 36) dX4_goBack_36 rfl ?_
  refine j_getR (pc := 37) f_X4_31 dX4_goBack_37 rfl rfl (by decide) rfl ?_
  refine j_aload_n (pc := 40) dX4_goBack_40 rfl ?_
  refine j_getI_a (pc := 41) f_X4_50 dX4_goBack_41 rfl rfl (by decide) ?_
  rw [jU_n (by omega), jU_n (by omega), jU_s]
  refine j_iald_c (pc := 44) (u) dX4_goBack_44 rfl (by decide) (by decide) (by omega) (by omega) (by decide) ?_
  rw [show I 22 u = 64 * ah (5 * u + 2) + 8 * ah (5 * u + 3) + ah (5 * u + 4) from g3]
  refine j_istore_n1 (pc := 45) dX4_goBack_45 (by decide) rfl ?_
  refine j_iconst (pc := 46) dX4_goBack_46 ?_
  refine j_istore_n2 (pc := 47) dX4_goBack_47 (by decide) rfl ?_
  have hy := key 3 _ (I 18) (by omega) (by rw [if_pos rfl]) (fun q h1 h2 => by omega)
  rw [show I 18 = (jSf I 1 (jU (jU (jU (I 1) 11 u) 9 (ah (5 * u))) 10 (ah (5 * u + 1)))) 18 from (jSf_n (by decide)).symm, jSf_i] at hy
  exact hy
theorem c_nHear (X : jX) (I : jMI) (f ah : Nat → Int) (u h : Nat) (s m i : Int) (hN : nR f ah u I 1) (hok : okSt f) (hh : f 52 = h) (hh6 : h < 6) : C_X4_addHeard X [jR 1, jI s, jI m, jI i] I (fun v I' => v = h + 1 ∧ nR (mHear f h s m i) ah u I' 1 ∧ ∀ z, z ≠ 1 → z ≠ 23 → z ≠ 24 → z ≠ 25 → I' z = I z) := by
  refine CG.of (by decide) [some (jR 1), some (jI s), some (jI m), some (jI i)] rfl (Nat.le_of_ble_eq_true rfl) ?_
  obtain ⟨n1, n2, n3, n4, n5, n6, n7, n8⟩ := hN
  have e12 : I 1 12 = (h : Int) := n5.trans hh
  have hm : ∀ j, j ≠ 52 → j ≠ 53 + 3 * h → j ≠ 54 + 3 * h → j ≠ 55 + 3 * h → mHear f h s m i j = f j := by
    intro j j1 j2 j3 j4; unfold mHear; rw [jU_n j1, jU_n j4, jU_n j3, jU_n j2]
  refine j_aload_n (pc := 0) dX4_addHeard_0 rfl ?_
  refine j_getR (pc := 1) f_X4_34 dX4_addHeard_1 rfl rfl (by decide) rfl ?_
  refine j_aload_n (pc := 4) dX4_addHeard_4 rfl ?_
  refine j_getI (pc := 5) f_X4_53 dX4_addHeard_5 rfl rfl (by decide) ?_
  rw [e12]
  refine j_iload_n (pc := 8) dX4_addHeard_8 rfl ?_
  refine j_iast_b (pc := 9) (h) dX4_addHeard_9 rfl (by decide) (by decide) (by omega) (by omega) ?_
  refine j_aload_n (pc := 10) dX4_addHeard_10 rfl ?_
  refine j_getR (pc := 11) f_X4_37 dX4_addHeard_11 rfl rfl (by decide) rfl ?_
  refine j_aload_n (pc := 14) dX4_addHeard_14 rfl ?_
  refine j_getI_c (pc := 15) f_X4_53 dX4_addHeard_15 rfl rfl (by decide) (by decide) ?_
  rw [e12]
  refine j_iload_n (pc := 18) dX4_addHeard_18 rfl ?_
  refine j_iast_b (pc := 19) (h) dX4_addHeard_19 rfl (by decide) (by decide) (by omega) (by omega) ?_
  refine j_aload_n (pc := 20) dX4_addHeard_20 rfl ?_
  refine j_getR (pc := 21) f_X4_40 dX4_addHeard_21 rfl rfl (by decide) rfl ?_
  refine j_aload_n (pc := 24) dX4_addHeard_24 rfl ?_
  refine j_getI_c (pc := 25) f_X4_53 dX4_addHeard_25 rfl rfl (by decide) (by decide) ?_
  rw [jSf_n (by decide), e12]
  refine j_iload_n (pc := 28) dX4_addHeard_28 rfl ?_
  refine j_iast_b (pc := 29) (h) dX4_addHeard_29 rfl (by decide) (by decide) (by omega) (by omega) ?_
  refine j_aload_n (pc := 30) dX4_addHeard_30 rfl ?_
  refine j_dupR (pc := 31) dX4_addHeard_31 ?_
  refine j_getI_c (pc := 32) f_X4_53 dX4_addHeard_32 rfl rfl (by decide) (by decide) ?_
  rw [jSf_n (by decide), jSf_n (by decide), e12]
  refine j_iconst (pc := 35) dX4_addHeard_35 ?_
  refine j_iadd (pc := 36) dX4_addHeard_36 ?_
  refine j_putI_b (pc := 37) f_X4_53 dX4_addHeard_37 rfl rfl rfl (by decide) ?_
  refine j_aload_n (pc := 40) dX4_addHeard_40 rfl ?_
  refine j_getI_a (pc := 41) f_X4_53 dX4_addHeard_41 rfl rfl (by decide) ?_
  rw [jU_s]
  refine j_reti dX4_addHeard_44 (?_) rfl
  refine ⟨rfl, ⟨hR_cg (f := f) (hR_fr n1 (fun z hz' => by rw [jSf_n (by omega), jSf_n (by omega), jSf_n (by omega), jSf_n (by omega)])) hok (fun k hk => (hm k (by omega) (by omega) (by omega) (by omega)).symm), ?_, ?_, ?_, ?_, fun p hp => ?_, fun z hz => ?_, fun z hz => ?_⟩, fun z z0 z1 z2 z3 => ?_⟩
  · rw [jSf_s, jU_n (by omega), jSf_n (by decide), jSf_n (by decide), jSf_n (by decide), hm 0 (by omega) (by omega) (by omega) (by omega)]; exact n2
  · rw [jSf_s, jU_n (by omega), jSf_n (by decide), jSf_n (by decide), jSf_n (by decide), hm 1 (by omega) (by omega) (by omega) (by omega)]; exact n3
  · rw [jSf_s, jU_n (by omega), jSf_n (by decide), jSf_n (by decide), jSf_n (by decide)]; exact n4
  · rw [jSf_s, jU_s]; unfold mHear; rw [jU_s]
  · rw [jSf_n (by decide), jSf_n (by decide), jSf_n (by decide), jSf_n (by decide), hm (2 + p) (by omega) (by omega) (by omega) (by omega)]; exact n6 p hp
  · repeat rw [jSf_n (by decide)]
    exact n7 z hz
  · have e52 : mHear f h s m i 52 = (h : Int) + 1 := by unfold mHear; rw [jU_s]
    rw [e52] at hz
    have i22 : ∀ q, (jSf (jSf (jSf (jSf I 23 (jU (I 23) h s)) 24 (jU (jSf I 23 (jU (I 23) h s) 24) h m)) 25 (jU (jSf (jSf I 23 (jU (I 23) h s)) 24 (jU (jSf I 23 (jU (I 23) h s) 24) h m) 25) h i)) 1 q) 23 = jU (I 23) h s := fun q => by rw [jSf_n (by decide), jSf_n (by decide), jSf_n (by decide), jSf_s]
    have i23 : ∀ q, (jSf (jSf (jSf (jSf I 23 (jU (I 23) h s)) 24 (jU (jSf I 23 (jU (I 23) h s) 24) h m)) 25 (jU (jSf (jSf I 23 (jU (I 23) h s)) 24 (jU (jSf I 23 (jU (I 23) h s) 24) h m) 25) h i)) 1 q) 24 = jU (I 24) h m := fun q => by rw [jSf_n (by decide), jSf_n (by decide), jSf_s, jSf_n (by decide)]
    have i24 : ∀ q, (jSf (jSf (jSf (jSf I 23 (jU (I 23) h s)) 24 (jU (jSf I 23 (jU (I 23) h s) 24) h m)) 25 (jU (jSf (jSf I 23 (jU (I 23) h s)) 24 (jU (jSf I 23 (jU (I 23) h s) 24) h m) 25) h i)) 1 q) 25 = jU (I 25) h i := fun q => by rw [jSf_n (by decide), jSf_s, jSf_n (by decide), jSf_n (by decide)]
    rw [i22, i23, i24]
    by_cases e : z = h
    · subst e
      rw [jU_s, jU_s, jU_s]
      unfold mHear
      rw [jU_n (by omega), jU_n (by omega), jU_n (by omega), jU_s, jU_n (by omega), jU_n (by omega), jU_s, jU_n (by omega), jU_s]
      exact ⟨rfl, rfl, rfl⟩
    · rw [jU_n e, jU_n e, jU_n e, hm (53 + 3 * z) (by omega) (by omega) (by omega) (by omega), hm (54 + 3 * z) (by omega) (by omega) (by omega) (by omega), hm (55 + 3 * z) (by omega) (by omega) (by omega) (by omega)]
      exact n8 z (by omega)
  · rw [jSf_n z0, jSf_n z3, jSf_n z2, jSf_n z1]
