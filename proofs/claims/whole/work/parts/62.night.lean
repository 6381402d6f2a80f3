/-! ===== the class: a night ===== -/
/-- a night of the class tells what the reference's rows tell -/
def nR (f ah : Nat → Int) (u : Nat) (I : jMI) (N : Nat) : Prop := hR f I (N + 1) ∧ I N 9 = f 0 ∧ I N 10 = f 1 ∧ I N 11 = (u : Int) ∧ I N 12 = f 52 ∧ (∀ p, p < 3 → I (N + 17) p = f (2 + p)) ∧ (∀ i, i < u → I (N + 19) i = ah (5 * i) ∧ I (N + 20) i = ah (5 * i + 1) ∧ I (N + 21) i = 64 * ah (5 * i + 2) + 8 * ah (5 * i + 3) + ah (5 * i + 4)) ∧ (∀ i : Nat, (i : Int) < f 52 → I (N + 22) i = f (53 + 3 * i) ∧ I (N + 23) i = f (54 + 3 * i) ∧ I (N + 24) i = f (55 + 3 * i))
def okAh (ah : Nat → Int) (u : Nat) : Prop := ∀ i, i < u → (0 ≤ ah (5 * i) ∧ ah (5 * i) ≤ 59) ∧ (0 ≤ ah (5 * i + 1) ∧ ah (5 * i + 1) ≤ 31) ∧ (0 ≤ ah (5 * i + 2) ∧ ah (5 * i + 2) ≤ 7) ∧ (0 ≤ ah (5 * i + 3) ∧ ah (5 * i + 3) ≤ 7) ∧ (0 ≤ ah (5 * i + 4) ∧ ah (5 * i + 4) ≤ 7)
theorem nR_fr {f ah : Nat → Int} {u : Nat} {I I' : jMI} {N : Nat} (h : nR f ah u I N) (hf : ∀ z, z = N ∨ z = N + 1 ∨ (N + 9 ≤ z ∧ z ≤ N + 17) ∨ (N + 19 ≤ z ∧ z ≤ N + 24) → I' z = I z) : nR f ah u I' N := by
  obtain ⟨h1, h2⟩ := h
  refine ⟨hR_fr h1 (fun z hz => hf z (by omega)), ?_⟩
  rw [hf N (by omega), hf (N + 17) (by omega), hf (N + 19) (by omega), hf (N + 20) (by omega), hf (N + 21) (by omega), hf (N + 22) (by omega), hf (N + 23) (by omega), hf (N + 24) (by omega)]
  exact h2
theorem c_nBegin (X : jX) (I : jMI) : C_X4_begin X [jR 1] I (fun I' => (∀ z, z ≠ 1 → z ≠ 18 → I' z = I z) ∧ I' 1 9 = 0 ∧ I' 1 10 = 0 ∧ I' 1 11 = 0 ∧ I' 1 12 = 0 ∧ ∀ p, p < 3 → I' 18 p = 0) := by
  refine CG.of (by decide) [some (jR 1), none] rfl (Nat.le_of_ble_eq_true rfl) ?_
  have key : ∀ (i : Nat) (g : Nat → Int), i ≤ 3 → (∀ j, j < i → g j = 0) → S_X4_begin X 22 [some (jR 1), some (jI i)] [] (jSf (jSf I 1 (jU (jU (jU (jU (I 1) 9 0) 10 0) 11 0) 12 0)) 18 g) (fun I' => (∀ z, z ≠ 1 → z ≠ 18 → I' z = I z) ∧ I' 1 9 = 0 ∧ I' 1 10 = 0 ∧ I' 1 11 = 0 ∧ I' 1 12 = 0 ∧ ∀ p, p < 3 → I' 18 p = 0) := by
    refine mu2 (fun i _ => 3 - i) _ (fun i g ih hi hg => ?_)
    refine j_iload_n (pc := 22) dX4_begin_22 rfl ?_
    refine j_iconst (pc := 23) dX4_begin_23 ?_
    refine j_icmp_ge (pc := 24) 40 dX4_begin_24 (by decide) (by omega) (by omega) (fun h_24 => ?_) (fun h_24 => ?_)
    · refine j_retv dX4_begin_40 (?_) rfl
      rw [jSf_s, jSf_n (by decide), jSf_s]
      refine ⟨fun z z1 z2 => by rw [jSf_n z2, jSf_n z1], ?_, ?_, ?_, ?_, fun p hp => hg p (by omega)⟩
      · rw [jU_n (by omega), jU_n (by omega), jU_n (by omega), jU_s]
      · rw [jU_n (by omega), jU_n (by omega), jU_s]
      · rw [jU_n (by omega), jU_s]
      · rw [jU_s]
    · refine j_aload_n (pc := 27) dX4_begin_27 rfl ?_
      refine j_getR (pc := 28) f_X4_18 dX4_begin_28 rfl rfl (by decide) rfl ?_
      refine j_iload_n (pc := 31) dX4_begin_31 rfl ?_
      refine j_iconst (pc := 32) dX4_begin_32 ?_
      refine j_iast_a (pc := 33) (i) dX4_begin_33 rfl (by decide) (by decide) (by omega) (by omega) ?_
      refine j_iinc1 (pc := 34) dX4_begin_34 (by decide) rfl ?_
      refine j_goto (pc := 37) 22 dX4_begin_37 (by decide) ?_
      refine ih (i + 1) _ (by omega) (by omega) (fun j hj => ?_)
      by_cases e : j = i
      · subst e; rw [jU_s]
      · rw [jU_n e]; exact hg j (by omega)
  refine j_aload_n (pc := 0) dX4_begin_0 rfl ?_
  refine j_iconst (pc := 1) dX4_begin_1 ?_
  refine j_putI_b (pc := 2) f_X4_43 dX4_begin_2 rfl rfl rfl (by decide) ?_
  refine j_aload_n (pc := 5) dX4_begin_5 rfl ?_
  refine j_iconst (pc := 6) dX4_begin_6 ?_
  refine j_putI_a (pc := 7) f_X4_47 dX4_begin_7 rfl rfl rfl (by decide) ?_
  refine j_aload_n (pc := 10) dX4_begin_10 rfl ?_
  refine j_iconst (pc := 11) dX4_begin_11 ?_
  refine j_putI_a (pc := 12) f_X4_50 dX4_begin_12 rfl rfl rfl (by decide) ?_
  refine j_aload_n (pc := 15) dX4_begin_15 rfl ?_
  refine j_iconst (pc := 16) dX4_begin_16 ?_
  refine j_putI_a (pc := 17) f_X4_53 dX4_begin_17 rfl rfl rfl (by decide) ?_
  refine j_iconst (pc := 20) dX4_begin_20 ?_
  refine j_istore_n1 (pc := 21) dX4_begin_21 (by decide) rfl ?_
  have hy := key 0 (I 18) (by omega) (fun j hj => by omega)
  rw [show I 18 = (jSf I 1 (jU (jU (jU (jU (I 1) 9 0) 10 0) 11 0) 12 0)) 18 from (jSf_n (by decide)).symm, jSf_i] at hy
  exact hy
theorem c_nDrop (X : jX) (I : jMI) : C_X4_dropOldest X [jR 1] I (fun I' => (∀ z, z ≠ 1 → z ≠ 20 → z ≠ 21 → z ≠ 22 → I' z = I z) ∧ (∀ j, j ≠ 11 → I' 1 j = I 1 j) ∧ I' 1 11 = 7 ∧ ∀ i, i < 7 → I' 20 i = I 20 (i + 1) ∧ I' 21 i = I 21 (i + 1) ∧ I' 22 i = I 22 (i + 1)) := by
  refine CG.of (by decide) [some (jR 1), none] rfl (Nat.le_of_ble_eq_true rfl) ?_
  have key : ∀ (k : Nat) (J0 : jMI), 1 ≤ k → k ≤ 8 → (∀ z, z ≠ 20 → z ≠ 21 → z ≠ 22 → J0 z = I z) → (∀ i, i < 8 → J0 20 i = (if i + 1 < k then I 20 (i + 1) else I 20 i) ∧ J0 21 i = (if i + 1 < k then I 21 (i + 1) else I 21 i) ∧ J0 22 i = (if i + 1 < k then I 22 (i + 1) else I 22 i)) → S_X4_dropOldest X 2 [some (jR 1), some (jI k)] [] J0 (fun I' => (∀ z, z ≠ 1 → z ≠ 20 → z ≠ 21 → z ≠ 22 → I' z = I z) ∧ (∀ j, j ≠ 11 → I' 1 j = I 1 j) ∧ I' 1 11 = 7 ∧ ∀ i, i < 7 → I' 20 i = I 20 (i + 1) ∧ I' 21 i = I 21 (i + 1) ∧ I' 22 i = I 22 (i + 1)) := by
    refine mu2 (fun k _ => 8 - k) _ (fun k J0 ih hk1 hk hz hi => ?_)
    refine j_iload_n (pc := 2) dX4_dropOldest_2 rfl ?_
    refine j_bipush (pc := 3) dX4_dropOldest_3 (by decide) ?_
    refine j_icmp_ge (pc := 5) 56 dX4_dropOldest_5 (by decide) (by omega) (by omega) (fun h_5 => ?_) (fun h_5 => ?_)
    · refine j_aload_n (pc := 56) dX4_dropOldest_56 rfl ?_
      refine j_bipush (pc := 57) dX4_dropOldest_57 (by decide) ?_
      refine j_putI_b (pc := 59) f_X4_50 dX4_dropOldest_59 rfl rfl rfl (by decide) ?_
      refine j_retv dX4_dropOldest_62 (?_) rfl
      obtain rfl : k = 8 := by omega
      rw [jSf_s, hz 1 (by omega) (by omega) (by omega)]
      refine ⟨fun z z0 z1 z2 z3 => by rw [jSf_n z0]; exact hz z z1 z2 z3, fun j hj => jU_n hj, jU_s, fun i hi7 => ?_⟩
      obtain ⟨b1, b2, b3⟩ := hi i (by omega)
      rw [if_pos (by omega)] at b1 b2 b3
      rw [jSf_n (by decide), jSf_n (by decide), jSf_n (by decide)]
      exact ⟨b1, b2, b3⟩
    · refine j_aload_n (pc := 8) dX4_dropOldest_8 rfl ?_
      refine j_getR (pc := 9) f_X4_25 dX4_dropOldest_9 rfl rfl (by decide) rfl ?_
      refine j_iload_n (pc := 12) dX4_dropOldest_12 rfl ?_
      refine j_iconst (pc := 13) dX4_dropOldest_13 ?_
      refine j_isub (pc := 14) dX4_dropOldest_14 ?_
      refine j_aload_n (pc := 15) dX4_dropOldest_15 rfl ?_
      refine j_getR (pc := 16) f_X4_25 dX4_dropOldest_16 rfl rfl (by decide) rfl ?_
      refine j_iload_n (pc := 19) dX4_dropOldest_19 rfl ?_
      refine j_iald_b (pc := 20) (k) dX4_dropOldest_20 rfl (by decide) (by decide) (by omega) (by omega) ?_
      refine j_iast_b (pc := 21) (k - 1) dX4_dropOldest_21 rfl (by decide) (by decide) (by omega) (by omega) ?_
      refine j_aload_n (pc := 22) dX4_dropOldest_22 rfl ?_
      refine j_getR (pc := 23) f_X4_28 dX4_dropOldest_23 rfl rfl (by decide) rfl ?_
      refine j_iload_n (pc := 26) dX4_dropOldest_26 rfl ?_
      refine j_iconst (pc := 27) dX4_dropOldest_27 ?_
      refine j_isub (pc := 28) dX4_dropOldest_28 ?_
      refine j_aload_n (pc := 29) dX4_dropOldest_29 rfl ?_
      refine j_getR (pc := 30) f_X4_28 dX4_dropOldest_30 rfl rfl (by decide) rfl ?_
      refine j_iload_n (pc := 33) dX4_dropOldest_33 rfl ?_
      refine j_iald_c (pc := 34) (k) dX4_dropOldest_34 rfl (by decide) (by decide) (by omega) (by omega) (by decide) ?_
      refine j_iast_b (pc := 35) (k - 1) dX4_dropOldest_35 rfl (by decide) (by decide) (by omega) (by omega) ?_
      refine j_aload_n (pc := 36) dX4_dropOldest_36 rfl ?_
      refine j_getR (pc := 37) f_X4_31 dX4_dropOldest_37 rfl rfl (by decide) rfl ?_
      refine j_iload_n (pc := 40) dX4_dropOldest_40 rfl ?_
      refine j_iconst (pc := 41) dX4_dropOldest_41 ?_
      refine j_isub (pc := 42) dX4_dropOldest_42 ?_
      refine j_aload_n (pc := 43) dX4_dropOldest_43 rfl ?_
      refine j_getR (pc := 44) f_X4_31 dX4_dropOldest_44 rfl rfl (by decide) rfl ?_
      refine j_iload_n (pc := 47) dX4_dropOldest_47 rfl ?_
      refine j_iald_c (pc := 48) (k) dX4_dropOldest_48 rfl (by decide) (by decide) (by omega) (by omega) (by decide) ?_
      rw [jSf_n (by decide)]
      refine j_iast_b (pc := 49) (k - 1) dX4_dropOldest_49 rfl (by decide) (by decide) (by omega) (by omega) ?_
      refine j_iinc1 (pc := 50) dX4_dropOldest_50 (by decide) rfl ?_
      refine j_goto (pc := 53) 2 dX4_dropOldest_53 (by decide) ?_
      obtain ⟨a1, a2, a3⟩ := hi k (by omega)
      rw [if_neg (by omega)] at a1 a2 a3
      refine ih (k + 1) _ (by omega) (by omega) (by omega) (fun z z1 z2 z3 => ?_) (fun i hi8 => ?_)
      · rw [jSf_n z3, jSf_n z2, jSf_n z1]; exact hz z z1 z2 z3
      · obtain ⟨b1, b2, b3⟩ := hi i hi8
        rw [jSf_n (k := 22) (k' := 20) (by decide), jSf_n (k := 21) (k' := 20) (by decide), jSf_n (k := 22) (k' := 21) (by decide), jSf_s, jSf_s, jSf_s, jSf_n (by decide), jSf_n (by decide)]
        by_cases e : i = k - 1
        · subst e
          rw [jU_s, jU_s, jU_s, if_pos (by omega), if_pos (by omega), if_pos (by omega), show k - 1 + 1 = k by omega]
          refine ⟨a1, a2, ?_⟩
          first | exact a3 | (rw [jSf_n (by decide)]; exact a3)
        · rw [jU_n e, jU_n e, jU_n e]
          by_cases hik : i + 1 < k
          · rw [if_pos hik] at b1 b2 b3
            rw [if_pos (by omega), if_pos (by omega), if_pos (by omega)]
            exact ⟨b1, b2, b3⟩
          · rw [if_neg hik] at b1 b2 b3
            rw [if_neg (by omega), if_neg (by omega), if_neg (by omega)]
            exact ⟨b1, b2, b3⟩
  refine j_iconst (pc := 0) dX4_dropOldest_0 ?_
  refine j_istore_n1 (pc := 1) dX4_dropOldest_1 (by decide) rfl ?_
  exact key 1 I (by omega) (by omega) (fun z _ _ _ => rfl) (fun i hi => by rw [if_neg (by omega), if_neg (by omega), if_neg (by omega)]; exact ⟨rfl, rfl, rfl⟩)
set_option maxHeartbeats 2000000 in
theorem c_nRem (X : jX) (I : jMI) (f ah : Nat → Int) (u : Nat) (h : nR f ah u I 1) (hok : okSt f) (hu : u ≤ 8) : C_X4_remember X [jR 1] I (fun I' => nR f (noteA ah f u) (noteB u + 1) I' 1 ∧ (∀ z, z ≠ 1 → z ≠ 20 → z ≠ 21 → z ≠ 22 → I' z = I z)) := by
  refine CG.of (by decide) [some (jR 1), none, none] rfl (Nat.le_of_ble_eq_true rfl) ?_
  obtain ⟨n1, n2, n3, n4, n5, n6, n7, n8⟩ := h
  obtain ⟨a, ha, ha8⟩ := okSt_2 hok (p := 0) (by omega)
  obtain ⟨b, hb, hb8⟩ := okSt_2 hok (p := 1) (by omega)
  obtain ⟨c, hc, hc8⟩ := okSt_2 hok (p := 2) (by omega)
  have z0 : f (2 + 0) = f 2 := rfl
  have z1 : f (2 + 1) = f 3 := rfl
  have z2 : f (2 + 2) = f 4 := rfl
  have fin : ∀ (J0 : jMI) (v : Nat), v = noteB u → (∀ z, z ≠ 1 → z ≠ 20 → z ≠ 21 → z ≠ 22 → J0 z = I z) → (∀ j, j ≠ 11 → J0 1 j = I 1 j) → J0 1 11 = (v : Int) + 1 → (∀ i, i < v → J0 20 i = noteA ah f u (5 * i) ∧ J0 21 i = noteA ah f u (5 * i + 1) ∧ J0 22 i = 64 * noteA ah f u (5 * i + 2) + 8 * noteA ah f u (5 * i + 3) + noteA ah f u (5 * i + 4)) → J0 20 v = f 0 → J0 21 v = f 1 → J0 22 v = 64 * f 2 + 8 * f 3 + f 4 → nR f (noteA ah f u) (noteB u + 1) J0 1 ∧ (∀ z, z ≠ 1 → z ≠ 20 → z ≠ 21 → z ≠ 22 → J0 z = I z) := by
    intro J0 v hv hz h1 h11 hrow e0 e1 e2
    subst hv
    refine ⟨⟨hR_fr n1 (fun z hz' => hz z (by omega) (by omega) (by omega) (by omega)), ?_, ?_, by rw [h11]; omega, ?_, ?_, fun i hi => ?_, ?_⟩, hz⟩
    · rw [h1 9 (by omega)]; exact n2
    · rw [h1 10 (by omega)]; exact n3
    · rw [h1 12 (by omega)]; exact n5
    · rw [hz 18 (by omega) (by omega) (by omega) (by omega)]; exact n6
    · by_cases e : i = noteB u
      · subst e
        have en : ∀ q, q < 5 → noteA ah f u (5 * noteB u + q) = f q := by
          intro q hq; unfold noteA; rw [if_pos (by omega), show 5 * noteB u + q - 5 * noteB u = q by omega]
        have en0 := en 0 (by omega)
        rw [Nat.add_zero] at en0
        rw [en0, en 1 (by omega), en 2 (by omega), en 3 (by omega), en 4 (by omega)]
        exact ⟨e0, e1, e2⟩
      · exact hrow i (by omega)
    · rw [hz 23 (by omega) (by omega) (by omega) (by omega), hz 24 (by omega) (by omega) (by omega) (by omega), hz 25 (by omega) (by omega) (by omega) (by omega)]; exact n8
  have k66 : ∀ (J0 : jMI) (v : Nat) (x2 : Option jV), v = noteB u → (∀ z, z ≠ 1 → z ≠ 20 → z ≠ 21 → z ≠ 22 → J0 z = I z) → (∀ j, j ≠ 11 → J0 1 j = I 1 j) → J0 1 11 = (v : Int) → (∀ i, i < v → J0 20 i = noteA ah f u (5 * i) ∧ J0 21 i = noteA ah f u (5 * i + 1) ∧ J0 22 i = 64 * noteA ah f u (5 * i + 2) + 8 * noteA ah f u (5 * i + 3) + noteA ah f u (5 * i + 4)) → J0 20 v = f 0 → J0 21 v = f 1 → S_X4_remember X 66 [some (jR 1), some (jI (64 * f 2 + 8 * f 3 + f 4)), x2] [] J0 (fun I' => nR f (noteA ah f u) (noteB u + 1) I' 1 ∧ (∀ z, z ≠ 1 → z ≠ 20 → z ≠ 21 → z ≠ 22 → I' z = I z)) := by
    intro J0 v x2 hv hz h1 h11 hrow e0 e1
    have hv7 : v ≤ 7 := by rw [hv]; unfold noteB; split <;> omega
    refine j_aload_n (pc := 66) dX4_remember_66 rfl ?_
    refine j_getR (pc := 67) f_X4_31 dX4_remember_67 rfl rfl (by decide) rfl ?_
    refine j_aload_n (pc := 70) dX4_remember_70 rfl ?_
    refine j_getI (pc := 71) f_X4_50 dX4_remember_71 rfl rfl (by decide) ?_
    rw [h11]
    refine j_iload_n (pc := 74) dX4_remember_74 rfl ?_
    refine j_iast_b (pc := 75) (v) dX4_remember_75 rfl (by decide) (by decide) (by omega) (by omega) ?_
    refine j_aload_n (pc := 76) dX4_remember_76 rfl ?_
    refine j_dupR (pc := 77) dX4_remember_77 ?_
    refine j_getI_c (pc := 78) f_X4_50 dX4_remember_78 rfl rfl (by decide) (by decide) ?_
    rw [h11]
    refine j_iconst (pc := 81) dX4_remember_81 ?_
    refine j_iadd (pc := 82) dX4_remember_82 ?_
    refine j_putI_b (pc := 83) f_X4_50 dX4_remember_83 rfl rfl rfl (by decide) ?_
    refine j_retv dX4_remember_86 (?_) rfl
    refine fin _ v hv (fun z z0 z1 z2 z3 => ?_) (fun j hj => ?_) ?_ (fun i hi => ?_) ?_ ?_ ?_
    · rw [jSf_n z0, jSf_n z3]; exact hz z z0 z1 z2 z3
    · rw [jSf_s, jU_n hj, jSf_n (by decide)]; exact h1 j hj
    · rw [jSf_s, jU_s]
    · obtain ⟨r1, r2, r3⟩ := hrow i hi
      rw [jSf_n (by decide), jSf_n (by decide), jSf_n (by decide), jSf_n (by decide), jSf_n (by decide), jSf_s, jU_n (by omega)]
      exact ⟨r1, r2, r3⟩
    · rw [jSf_n (by decide), jSf_n (by decide)]; exact e0
    · rw [jSf_n (by decide), jSf_n (by decide)]; exact e1
    · rw [jSf_n (by decide), jSf_s, jU_s]
  have k13 : ∀ (J0 : jMI) (v : Nat), v = noteB u → (∀ z, z ≠ 1 → z ≠ 20 → z ≠ 21 → z ≠ 22 → J0 z = I z) → (∀ j, j ≠ 11 → J0 1 j = I 1 j) → J0 1 11 = (v : Int) → (∀ i, i < v → J0 20 i = noteA ah f u (5 * i) ∧ J0 21 i = noteA ah f u (5 * i + 1) ∧ J0 22 i = 64 * noteA ah f u (5 * i + 2) + 8 * noteA ah f u (5 * i + 3) + noteA ah f u (5 * i + 4)) → S_X4_remember X 13 [some (jR 1), none, none] [] J0 (fun I' => nR f (noteA ah f u) (noteB u + 1) I' 1 ∧ (∀ z, z ≠ 1 → z ≠ 20 → z ≠ 21 → z ≠ 22 → I' z = I z)) := by
    intro J0 v hv hz h1 h11 hrow
    have hv7 : v ≤ 7 := by rw [hv]; unfold noteB; split <;> omega
    have key : ∀ (q : Nat) (w : Int), q ≤ 3 → w = (if q = 0 then 0 else if q = 1 then f 2 else if q = 2 then 8 * f 2 + f 3 else 64 * f 2 + 8 * f 3 + f 4) → S_X4_remember X 43 [some (jR 1), some (jI w), some (jI q)] [] (jSf (jSf J0 20 (jU (J0 20) v (f 0))) 21 (jU (J0 21) v (f 1))) (fun I' => nR f (noteA ah f u) (noteB u + 1) I' 1 ∧ (∀ z, z ≠ 1 → z ≠ 20 → z ≠ 21 → z ≠ 22 → I' z = I z)) := by
      refine mu2 (fun q _ => 3 - q) _ (fun q w ih hq hw => ?_)
      refine j_iload_n (pc := 43) dX4_remember_43 rfl ?_
      refine j_iconst (pc := 44) dX4_remember_44 ?_
      refine j_icmp_ge (pc := 45) 66 dX4_remember_45 (by decide) (by omega) (by omega) (fun h_45 => ?_) (fun h_45 => ?_)
      · obtain rfl : q = 3 := by omega
        rw [if_neg (by omega), if_neg (by omega), if_neg (by omega)] at hw
        subst hw
        refine k66 _ v _ hv (fun z z0 z1 z2 z3 => ?_) (fun j hj => ?_) ?_ (fun i hi => ?_) ?_ ?_
        · rw [jSf_n z2, jSf_n z1]; exact hz z z0 z1 z2 z3
        · rw [jSf_n (by decide), jSf_n (by decide)]; exact h1 j hj
        · rw [jSf_n (by decide), jSf_n (by decide)]; exact h11
        · obtain ⟨r1, r2, r3⟩ := hrow i hi
          rw [jSf_n (by decide), jSf_s, jU_n (by omega), jSf_s, jU_n (by omega), jSf_n (by decide), jSf_n (by decide)]
          exact ⟨r1, r2, r3⟩
        · rw [jSf_n (by decide), jSf_s, jU_s]
        · rw [jSf_s, jU_s]
      · refine j_iload_n (pc := 48) dX4_remember_48 rfl ?_
        refine j_bipush (pc := 49) dX4_remember_49 (by decide) ?_
        refine j_imul (pc := 51) dX4_remember_51 ?_
        refine j_aload_n (pc := 52) dX4_remember_52 rfl ?_
        refine j_getR (pc := 53) f_X4_18 dX4_remember_53 rfl rfl (by decide) rfl ?_
        refine j_iload_n (pc := 56) dX4_remember_56 rfl ?_
        refine j_iald_c (pc := 57) (q) dX4_remember_57 rfl (by decide) (by decide) (by omega) (by omega) (by decide) ?_
        rw [jSf_n (by decide), hz 18 (by omega) (by omega) (by omega) (by omega), show I 18 q = f (2 + q) from n6 q (by omega)]
        refine j_iadd (pc := 58) dX4_remember_58 ?_
        refine j_istore_n1 (pc := 59) dX4_remember_59 (by decide) rfl ?_
        refine j_iinc2 (pc := 60) dX4_remember_60 (by decide) rfl ?_
        refine j_goto (pc := 63) 43 dX4_remember_63 (by decide) ?_
        refine ih (q + 1) _ (by omega) (by omega) ?_
        rcases (show q = 0 ∨ q = 1 ∨ q = 2 by omega) with rfl | rfl | rfl
        · rw [if_pos rfl] at hw
          rw [if_neg (by omega), if_pos rfl, hw]; omega
        · rw [if_neg (by omega), if_pos rfl] at hw
          rw [if_neg (by omega), if_neg (by omega), if_pos rfl, hw]; omega
        · rw [if_neg (by omega), if_neg (by omega), if_pos rfl] at hw
          rw [if_neg (by omega), if_neg (by omega), if_neg (by omega), hw]; omega
    refine j_aload_n (pc := 13) dX4_remember_13 rfl ?_
    refine j_getR (pc := 14) f_X4_25 dX4_remember_14 rfl rfl (by decide) rfl ?_
    refine j_aload_n (pc := 17) dX4_remember_17 rfl ?_
    refine j_getI (pc := 18) f_X4_50 dX4_remember_18 rfl rfl (by decide) ?_
    rw [h11]
    refine j_aload_n (pc := 21) dX4_remember_21 rfl ?_
    refine j_getI (pc := 22) f_X4_43 dX4_remember_22 rfl rfl (by decide) ?_
    rw [h1 9 (by omega), show I 1 9 = f 0 from n2]
    refine j_iast_b (pc := 25) (v) dX4_remember_25 rfl (by decide) (by decide) (by omega) (by omega) ?_
    refine j_aload_n (pc := 26) dX4_remember_26 rfl ?_
    refine j_getR (pc := 27) f_X4_28 dX4_remember_27 rfl rfl (by decide) rfl ?_
    refine j_aload_n (pc := 30) dX4_remember_30 rfl ?_
    refine j_getI_c (pc := 31) f_X4_50 dX4_remember_31 rfl rfl (by decide) (by decide) ?_
    rw [h11]
    refine j_aload_n (pc := 34) dX4_remember_34 rfl ?_
    refine j_getI_c (pc := 35) f_X4_47 dX4_remember_35 rfl rfl (by decide) (by decide) ?_
    rw [h1 10 (by omega), show I 1 10 = f 1 from n3]
    refine j_iast_b (pc := 38) (v) dX4_remember_38 rfl (by decide) (by decide) (by omega) (by omega) ?_
    rw [jSf_n (by decide)]
    refine j_iconst (pc := 39) dX4_remember_39 ?_
    refine j_istore_n1 (pc := 40) dX4_remember_40 (by decide) rfl ?_
    refine j_iconst (pc := 41) dX4_remember_41 ?_
    refine j_istore_n2 (pc := 42) dX4_remember_42 (by decide) rfl ?_
    exact key 0 0 (by omega) (by rw [if_pos rfl])
  refine j_aload_n (pc := 0) dX4_remember_0 rfl ?_
  refine j_getI (pc := 1) f_X4_50 dX4_remember_1 rfl rfl (by decide) ?_
  rw [show I 1 11 = (u : Int) from n4]
  refine j_bipush (pc := 4) dX4_remember_4 (by decide) ?_
  refine j_icmp_ne (pc := 6) 13 dX4_remember_6 (by decide) (by omega) (by omega) (fun h_6 => ?_) (fun h_6 => ?_)
  · first
      | (obtain rfl : u = 8 := by omega
         refine k13 I1 7 rfl d1 d2 d3 (fun i hi => ?_)
         obtain ⟨e1, e2, e3⟩ := d4 i hi
         obtain ⟨g1, g2, g3⟩ := n7 (i + 1) (by omega)
         have en : ∀ q, q < 5 → noteA ah f 8 (5 * i + q) = ah (5 * (i + 1) + q) := by
           intro q hq; unfold noteA noteB; rw [if_pos rfl, if_neg (by omega), if_pos (by omega), show 5 * i + q + 5 = 5 * (i + 1) + q by omega]
         have en0 := en 0 (by omega)
         rw [Nat.add_zero, Nat.add_zero] at en0
         rw [en0, en 1 (by omega), en 2 (by omega), en 3 (by omega), en 4 (by omega)]
         exact ⟨e1.trans g1, e2.trans g2, e3.trans g3⟩)
      | (have hu8 : u ≠ 8 := by omega
         have hnb : noteB u = u := by unfold noteB; rw [if_neg hu8]
         refine k13 I u hnb.symm (fun z _ _ _ _ => rfl) (fun j _ => rfl) n4 (fun i hi => ?_)
         obtain ⟨g1, g2, g3⟩ := n7 i hi
         have en : ∀ q, q < 5 → noteA ah f u (5 * i + q) = ah (5 * i + q) := by
           intro q hq; unfold noteA; rw [hnb, if_neg (by omega), if_neg (by omega)]
         have en0 := en 0 (by omega)
         rw [Nat.add_zero] at en0
         rw [en0, en 1 (by omega), en 2 (by omega), en 3 (by omega), en 4 (by omega)]
         exact ⟨g1, g2, g3⟩)
  · refine j_aload_n (pc := 9) dX4_remember_9 rfl ?_
    refine j_goV (pc := 10) (j_runV k_X4_79 m_X4_dropOldest (c_nDrop X I) dX4_remember_10 rfl (by decide) rfl (by decide) (by decide) rfl rfl (Nat.le_of_ble_eq_true rfl)) (fun I1 h1 => ?_)
    obtain ⟨d1, d2, d3, d4⟩ := h1
    first
      | (obtain rfl : u = 8 := by omega
         refine k13 I1 7 rfl d1 d2 d3 (fun i hi => ?_)
         obtain ⟨e1, e2, e3⟩ := d4 i hi
         obtain ⟨g1, g2, g3⟩ := n7 (i + 1) (by omega)
         have en : ∀ q, q < 5 → noteA ah f 8 (5 * i + q) = ah (5 * (i + 1) + q) := by
           intro q hq; unfold noteA noteB; rw [if_pos rfl, if_neg (by omega), if_pos (by omega), show 5 * i + q + 5 = 5 * (i + 1) + q by omega]
         have en0 := en 0 (by omega)
         rw [Nat.add_zero, Nat.add_zero] at en0
         rw [en0, en 1 (by omega), en 2 (by omega), en 3 (by omega), en 4 (by omega)]
         exact ⟨e1.trans g1, e2.trans g2, e3.trans g3⟩)
      | (have hu8 : u ≠ 8 := by omega
         have hnb : noteB u = u := by unfold noteB; rw [if_neg hu8]
         refine k13 I u hnb.symm (fun z _ _ _ _ => rfl) (fun j _ => rfl) n4 (fun i hi => ?_)
         obtain ⟨g1, g2, g3⟩ := n7 i hi
         have en : ∀ q, q < 5 → noteA ah f u (5 * i + q) = ah (5 * i + q) := by
           intro q hq; unfold noteA; rw [hnb, if_neg (by omega), if_neg (by omega)]
         have en0 := en 0 (by omega)
         rw [Nat.add_zero] at en0
         rw [en0, en 1 (by omega), en 2 (by omega), en 3 (by omega), en 4 (by omega)]
         exact ⟨g1, g2, g3⟩)
