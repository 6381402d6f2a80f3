/-! ===== one call of both: the house is told ===== -/
theorem by128 : ∀ c : Fin 128, ji2b ((c : Nat) : Int) = ((c : Nat) : Int) ∧ narrow .byte (.int (Int32.ofInt ((c : Nat) : Int))) = .int (Int32.ofInt ((c : Nat) : Int)) := by decide +kernel
theorem c_append (X : jX) (I : jMI) (n c : Nat) (hn : I 78 1 = (n : Nat)) (hn5 : n < 150) (hc : c < 128) : C_X8_append X [jR 78, jI c] I (fun v I' => v = (n : Int) + 1 ∧ I' = jSf (jSf I 79 (jU (I 79) n c)) 78 (jU (I 78) 1 ((n : Int) + 1))) := by
  refine CG.of (by decide) [some (jR 78), some (jI c)] rfl (Nat.le_of_ble_eq_true rfl) ?_
  obtain ⟨b1, b2⟩ := by128 ⟨c, hc⟩
  simp only at b1 b2
  refine j_aload_n (pc := 0) dX8_append_0 rfl ?_
  refine j_getR (pc := 1) f_X8_9 dX8_append_1 rfl rfl (by decide) rfl ?_
  refine j_aload_n (pc := 4) dX8_append_4 rfl ?_
  refine j_getI (pc := 5) f_X8_15 dX8_append_5 rfl rfl (by decide) ?_
  rw [hn]
  refine j_iload_n (pc := 8) dX8_append_8 rfl ?_
  refine j_i2b (pc := 9) dX8_append_9 ?_
  rw [b1]
  refine j_bast_b (pc := 10) (n) dX8_append_10 rfl (by decide) (by decide) (b2) (by omega) (by omega) ?_
  refine j_aload_n (pc := 11) dX8_append_11 rfl ?_
  refine j_dupR (pc := 12) dX8_append_12 ?_
  refine j_getI_c (pc := 13) f_X8_15 dX8_append_13 rfl rfl (by decide) (by decide) ?_
  rw [hn]
  refine j_iconst (pc := 16) dX8_append_16 ?_
  refine j_iadd (pc := 17) dX8_append_17 ?_
  refine j_putI_b (pc := 18) f_X8_15 dX8_append_18 rfl rfl rfl (by decide) ?_
  refine j_aload_n (pc := 21) dX8_append_21 rfl ?_
  refine j_getI_a (pc := 22) f_X8_15 dX8_append_22 rfl rfl (by decide) ?_
  exact j_reti dX8_append_25 (⟨by rw [jU_s], rfl⟩) rfl
theorem nR_h {f f' ah : Nat → Int} {u : Nat} {I I' : jMI} {N : Nat} (h : nR f ah u I N) (hok : okSt f) (hH : hR f' I' (N + 1)) (hf : ∀ k, (k < 5 ∨ (52 ≤ k ∧ k < 71)) → f' k = f k) (hz : ∀ z, z = N ∨ z = N + 17 ∨ (N + 19 ≤ z ∧ z ≤ N + 24) → I' z = I z) : nR f' ah u I' N := by
  obtain ⟨n1, n2, n3, n4, n5, n6, n7, n8⟩ := h
  obtain ⟨H, hH52, hH6⟩ := okSt_52 hok
  refine ⟨hH, by rw [hz N (by omega), hf 0 (by omega)]; exact n2, by rw [hz N (by omega), hf 1 (by omega)]; exact n3, by rw [hz N (by omega)]; exact n4, by rw [hz N (by omega), hf 52 (by omega)]; exact n5, fun p hp => by rw [hz (N + 17) (by omega), hf (2 + p) (by omega)]; exact n6 p hp, fun i hi => ?_, fun i hi => ?_⟩
  · rw [hz (N + 19) (by omega), hz (N + 20) (by omega), hz (N + 21) (by omega)]; exact n7 i hi
  · rw [hf 52 (by omega)] at hi
    rw [hz (N + 22) (by omega), hz (N + 23) (by omega), hz (N + 24) (by omega), hf (53 + 3 * i) (by omega), hf (54 + 3 * i) (by omega), hf (55 + 3 * i) (by omega)]; exact n8 i hi
theorem nOK_h {f f' ah : Nat → Int} {u : Nat} (h : nOK f ah u) (hok : okSt f') (h1 : f' 1 = f 1) (h5 : f 5 ≤ f' 5) : nOK f' ah u := by
  obtain ⟨-, h2, h3, h4, h6⟩ := h
  refine ⟨hok, h2, h3, fun s hs => ?_, fun i hi s hs => ?_⟩
  · rw [h1] at hs; have := h4 s hs; omega
  · have := h6 i hi s hs; omega
theorem nOK_0 {f ah : Nat → Int} (hok : okSt f) (h1 : awB f (f 1)) : nOK f ah 0 := ⟨hok, by omega, fun i hi => by omega, h1, fun i hi => by omega⟩
theorem awB_0 {f : Nat → Int} : awB f 0 := fun s hs => by simp at hs
/-- a night that begins -/
theorem nR_0 {f ah : Nat → Int} {I : jMI} (hH : hR f I 2) (h0 : ∀ k, (k < 5 ∨ (52 ≤ k ∧ k < 71)) → f k = 0) (a9 : I 1 9 = 0) (a10 : I 1 10 = 0) (a11 : I 1 11 = 0) (a12 : I 1 12 = 0) (a18 : ∀ p, p < 3 → I 18 p = 0) : nR f ah 0 I 1 :=
  ⟨hH, by rw [h0 0 (by omega)]; exact a9, by rw [h0 1 (by omega)]; exact a10, a11, by rw [h0 52 (by omega)]; exact a12, fun p hp => by rw [h0 (2 + p) (by omega)]; exact a18 p hp, fun i hi => by omega, fun i hi => by rw [h0 52 (by omega)] at hi; omega⟩
theorem c_empty2 (X : jX) (I : jMI) : C_X2_empty X [jR 2] I (emQ I 2) := g_empty2 X RF 124 I rfl (by omega)
theorem st0_k (g : Nat → Int) (k : Nat) (h : k < 5 ∨ (52 ≤ k ∧ k < 71)) : st0 g k = 0 := by unfold st0; rw [if_pos (by omega)]
/-- both anew, with this house -/
theorem Inv_new {I I1 I2 : jMI} (hI : Inv I) (h1 : ∀ z, z = 0 ∨ (27 ≤ z ∧ z ≤ 77) ∨ z = 79 ∨ 104 < z → I1 z = I z) (h78 : I1 78 1 = I 78 1) (hz : ∀ z, (z < 105 ∨ z = 107 ∨ z = 108 ∨ 119 < z) → I2 z = I1 z) (h16 : I2 105 16 = 0) (a1 : I2 105 1 = I1 105 1) (a2 : I2 105 2 = I1 105 2) (a5 : I2 105 5 = I1 105 5) (hok : okSt (I2 106)) (h0 : ∀ k, (k < 5 ∨ (52 ≤ k ∧ k < 71)) → I2 106 k = 0) (hH : hR (I2 106) I1 2)
    (b9 : I1 1 9 = 0) (b10 : I1 1 10 = 0) (b11 : I1 1 11 = 0) (b12 : I1 1 12 = 0) (b18 : ∀ p, p < 3 → I1 18 p = 0) : Inv I2 := by
  have e105 := h1 105 (by omega)
  refine Inv_n hI (u := 0) h16 (nOK_0 hok (by rw [h0 1 (by omega)]; exact awB_0)) (nR_0 (hR_fr hH (fun z hzz => hz z (by omega))) h0 ?_ ?_ ?_ ?_ ?_) (fun z hzz => (hz z (by omega)).trans (h1 z (by omega))) ?_ ?_ ?_ ?_
  · rw [hz 1 (by omega)]; exact b9
  · rw [hz 1 (by omega)]; exact b10
  · rw [hz 1 (by omega)]; exact b11
  · rw [hz 1 (by omega)]; exact b12
  · rw [hz 18 (by omega)]; exact b18
  · rw [hz 78 (by omega)]; exact h78
  · rw [a1, e105]
  · rw [a2, e105]
  · rw [a5, e105]
set_option maxHeartbeats 1000000 in
theorem o_house (X : jX) (I : jMI) (hI : Inv I) : C_X11_house X [jR 0] I (fun v I1 => C_X12_house X [jR 105] I1 (fun v' I2 => v' = v ∧ Inv I2)) := by
  refine CG.of (by decide) [some (jR 0), none] rfl (Nat.le_of_ble_eq_true rfl) ?_
  have hH := hI.hR
  refine j_aload_n (pc := 0) dX11_house_0 rfl ?_
  refine j_getR (pc := 1) f_X11_10 dX11_house_1 rfl rfl (by decide) rfl ?_
  refine j_getR (pc := 4) f_X11_63 dX11_house_4 rfl rfl (by decide) rfl ?_
  refine j_getI (pc := 7) f_X11_66 dX11_house_7 rfl rfl (by decide) ?_
  rw [hH.1]
  refine j_istore_n1 (pc := 10) dX11_house_10 (by decide) rfl ?_
  refine j_aload_n (pc := 11) dX11_house_11 rfl ?_
  refine j_getR (pc := 12) f_X11_10 dX11_house_12 rfl rfl (by decide) rfl ?_
  refine j_getR (pc := 15) f_X11_63 dX11_house_15 rfl rfl (by decide) rfl ?_
  refine j_goV (pc := 18) (j_runV k_X11_70 m_X2_empty (c_empty2 X I) dX11_house_18 rfl (by decide) rfl (by decide) (by decide) rfl rfl (Nat.le_of_ble_eq_true rfl)) (fun I1 h1 => ?_)
  obtain ⟨m1, m2, m3⟩ := h1
  refine j_aload_n (pc := 21) dX11_house_21 rfl ?_
  refine j_getR (pc := 22) f_X11_10 dX11_house_22 rfl rfl (by decide) rfl ?_
  refine j_goV (pc := 25) (j_runV k_X11_73 m_X4_begin (c_nBegin X I1) dX11_house_25 rfl (by decide) rfl (by decide) (by decide) rfl rfl (Nat.le_of_ble_eq_true rfl)) (fun I2 h2 => ?_)
  obtain ⟨z2, b9, b10, b11, b12, b18⟩ := h2
  refine j_iload_n (pc := 28) dX11_house_28 rfl ?_
  refine j_reti dX11_house_29 (?_) rfl
  have e6 : I2 106 = I 106 := (z2 106 (by omega) (by omega)).trans (m1 106 (by omega) (by omega) (by omega))
  refine c_mhouse X _ _ ⟨by rw [e6], ?_⟩
  have x6 : mAnew I2 106 = st0 (I2 106) := by unfold mAnew; rw [jSf_n (by omega), jSf_s]
  have x5 : mAnew I2 105 = jU (I2 105) 16 0 := by unfold mAnew; rw [jSf_s]
  have xz : ∀ z, z ≠ 106 → z ≠ 105 → mAnew I2 z = I2 z := by
    intro z q1 q2
    unfold mAnew
    rw [jSf_n q2, jSf_n q1]
  refine Inv_new hI (I1 := I2) (fun z hz => (z2 z (by omega) (by omega)).trans (m1 z (by omega) (by omega) (by omega))) (by rw [z2 78 (by omega) (by omega), m1 78 (by omega) (by omega) (by omega)]) (fun z hz => xz z (by omega) (by omega)) (by rw [x5, jU_s]) (by rw [x5, jU_n (by omega)]) (by rw [x5, jU_n (by omega)]) (by rw [x5, jU_n (by omega)]) (by rw [x6]; exact okSt_st0 _) (fun k hk => by rw [x6]; exact st0_k _ k hk) ?_ b9 b10 b11 b12 b18
  rw [x6]
  exact hR_fr (m3 _ (isE_st0 _)) (fun z hz => z2 z (by omega) (by omega))
theorem c_mstair2 (X : jX) (I : jMI) (a b c : Int) (q : Int → jMI → Prop) (ha : -2147483648 ≤ a ∧ a < 2147483648) (hb : -2147483648 ≤ b ∧ b < 2147483648) (hc : -2147483648 ≤ c ∧ c < 2147483648) (q0 : ¬ ((0 ≤ a ∧ a ≤ 7) ∧ (0 ≤ b ∧ b ≤ 7) ∧ a ≠ b ∧ (0 ≤ c ∧ c ≤ 9)) → q (-10) (mRef I 0)) (q1 : ∀ i j : Nat, a = i → b = j → i < 8 → j < 8 → i ≠ j → (0 ≤ c ∧ c ≤ 9) → q (cr (I 106) i j) (jSf I 106 (jU (I 106) (71 + pairN i j) c))) : C_X12_stair X [jR 105, jI a, jI b, jI c] I q := by
  refine CG.of (by decide) [some (jR 105), some (jI a), some (jI b), some (jI c), none] rfl (Nat.le_of_ble_eq_true rfl) ?_
  have kbad : ¬ ((0 ≤ a ∧ a ≤ 7) ∧ (0 ≤ b ∧ b ≤ 7) ∧ a ≠ b ∧ (0 ≤ c ∧ c ≤ 9)) → S_X12_stair X 31 [some (jR 105), some (jI a), some (jI b), some (jI c), none] [] I q := by
    intro hz
    refine j_aload_n (pc := 31) dX12_stair_31 rfl ?_
    refine j_goI (pc := 32) (j_runV k_X12_95 m_X12_bad (c_bad X I) dX12_stair_32 rfl (by decide) rfl (by decide) (by decide) rfl rfl (Nat.le_of_ble_eq_true rfl)) (fun r9 I9 h9 => ?_)
    obtain ⟨rfl, rfl⟩ := h9
    refine j_pop (pc := 35) dX12_stair_35 ?_
    refine j_bipush (pc := 36) dX12_stair_36 (by decide) ?_
    exact j_reti dX12_stair_38 (q0 hz) rfl
  refine j_iload_n (pc := 0) dX12_stair_0 rfl ?_
  refine j_goI (pc := 1) (j_runS k_X12_89 m_X12_isRoom (c_mRoom X I a ha) dX12_stair_1 (by decide) rfl rfl (Nat.le_of_ble_eq_true rfl)) (fun r1 I1 h1 => ?_)
  obtain ⟨rfl, rfl⟩ := h1
  refine j_if_eq (pc := 4) 31 dX12_stair_4 (by decide) (by omega) (fun h_4 => ?_) (fun h_4 => ?_)
  · exact kbad (by omega)
  · refine j_iload_n (pc := 7) dX12_stair_7 rfl ?_
    refine j_goI (pc := 8) (j_runS k_X12_89 m_X12_isRoom (c_mRoom X I1 b hb) dX12_stair_8 (by decide) rfl rfl (Nat.le_of_ble_eq_true rfl)) (fun r2 I2 h2 => ?_)
    obtain ⟨rfl, rfl⟩ := h2
    refine j_if_eq (pc := 11) 31 dX12_stair_11 (by decide) (by omega) (fun h_11 => ?_) (fun h_11 => ?_)
    · exact kbad (by omega)
    · refine j_iload_n (pc := 14) dX12_stair_14 rfl ?_
      refine j_iload_n (pc := 15) dX12_stair_15 rfl ?_
      refine j_icmp_eq (pc := 16) 31 dX12_stair_16 (by decide) (by omega) (by omega) (fun h_16 => ?_) (fun h_16 => ?_)
      · exact kbad (by omega)
      · refine j_iload_n (pc := 19) dX12_stair_19 rfl ?_
        refine j_i2l (pc := 20) dX12_stair_20 (by omega) ?_
        refine j_lconst0 (pc := 21) dX12_stair_21 ?_
        refine j_ldc2 (pc := 22) cl_X12_93 dX12_stair_22 ?_
        refine j_goI (pc := 25) (j_runS k_X12_75 m_X12_in (c_in X I2 c 0 9 hc (by omega) (by omega)) dX12_stair_25 (by decide) rfl rfl (Nat.le_of_ble_eq_true rfl)) (fun r3 I3 h3 => ?_)
        obtain ⟨rfl, rfl⟩ := h3
        refine j_if_ne (pc := 28) 39 dX12_stair_28 (by decide) (by omega) (fun h_28 => ?_) (fun h_28 => ?_)
        · obtain ⟨i, rfl⟩ := Int.eq_ofNat_of_zero_le (show 0 ≤ a by omega)
          obtain ⟨j, rfl⟩ := Int.eq_ofNat_of_zero_le (show 0 ≤ b by omega)
          have hp := pairN_lt (a := i) (b := j) (by omega) (by omega) (by omega)
          refine j_aload_n (pc := 39) dX12_stair_39 rfl ?_
          refine j_iload_n (pc := 40) dX12_stair_40 rfl ?_
          refine j_iload_n (pc := 41) dX12_stair_41 rfl ?_
          refine j_goI (pc := 42) (j_runV k_X12_99 m_X12_creakOf (c_creakOf X I3 i j (by omega) (by omega)) dX12_stair_42 rfl (by decide) rfl (by decide) (by decide) rfl rfl (Nat.le_of_ble_eq_true rfl)) (fun r4 I4 h4 => ?_)
          obtain ⟨rfl, rfl⟩ := h4
          refine j_istore4 (pc := 45) dX12_stair_45 (by decide) rfl ?_
          refine j_aload_n (pc := 47) dX12_stair_47 rfl ?_
          refine j_getR (pc := 48) f_X12_7 dX12_stair_48 rfl rfl (by decide) rfl ?_
          refine j_bipush (pc := 51) dX12_stair_51 (by decide) ?_
          refine j_iload_n (pc := 53) dX12_stair_53 rfl ?_
          refine j_iload_n (pc := 54) dX12_stair_54 rfl ?_
          refine j_goI (pc := 55) (j_runS k_X12_85 m_X12_pairOf (c_pairOf X I4 i j (by omega) (by omega)) dX12_stair_55 (by decide) rfl rfl (Nat.le_of_ble_eq_true rfl)) (fun r5 I5 h5 => ?_)
          obtain ⟨rfl, rfl⟩ := h5
          rw [pairI_n (by omega) (by omega) (by omega)]
          refine j_iadd (pc := 58) dX12_stair_58 ?_
          refine j_iload_n (pc := 59) dX12_stair_59 rfl ?_
          refine j_iast_b (pc := 60) (71 + pairN i j) dX12_stair_60 rfl (by decide) (by decide) (by omega) (by omega) ?_
          refine j_iload (pc := 61) dX12_stair_61 rfl ?_
          exact j_reti dX12_stair_63 (q1 i j rfl rfl (by omega) (by omega) (by omega) (by omega)) rfl
        · exact kbad (by omega)
/-- the house is changed, the night goes on -/
theorem Inv_h {I I1 I2 : jMI} (hI : Inv I) (f' : Nat → Int) (h1 : ∀ z, z ≠ 2 → (z < 10 ∨ 17 < z) → I1 z = I z) (hH : hR f' I1 2) (e2 : I2 = jSf I1 106 f') (hok : okSt f') (hf : ∀ k, (k < 5 ∨ (52 ≤ k ∧ k < 71)) → f' k = I 106 k) (h5 : I 106 5 ≤ f' 5) : Inv I2 := by
  obtain ⟨u, u1, u2, u3⟩ := hI.1
  have hz : ∀ z, z ≠ 2 → (z < 10 ∨ 17 < z) → z ≠ 106 → I2 z = I z := fun z q1 q2 q3 => by rw [e2, jSf_n q3]; exact h1 z q1 q2
  have x6 : I2 106 = f' := by rw [e2, jSf_s]
  have x11 : I2 111 = I 111 := hz 111 (by omega) (by omega) (by omega)
  have x105 := hz 105 (by omega) (by omega) (by omega)
  refine Inv_n hI (u := u) (by rw [x105]; exact u1) (by rw [x6, x11]; exact nOK_h u2 hok (hf 1 (by omega)) h5) ?_ (fun z q => hz z (by omega) (by omega) (by omega)) (by rw [hz 78 (by omega) (by omega) (by omega)]) (by rw [x105]) (by rw [x105]) (by rw [x105])
  rw [x6, x11]
  refine nR_h u3 u2.1 (hR_fr hH (fun z q => by rw [e2, jSf_n (by omega)])) hf (fun z q => hz z (by omega) (by omega) (by omega))
set_option maxHeartbeats 1000000 in
theorem o_stair (X : jX) (I : jMI) (a b c : Int) (hI : Inv I) (ha : -2147483648 ≤ a ∧ a < 2147483648) (hb : -2147483648 ≤ b ∧ b < 2147483648) (hc : -2147483648 ≤ c ∧ c < 2147483648) : C_X11_stair X [jR 0, jI a, jI b, jI c] I (fun v I1 => C_X12_stair X [jR 105, jI a, jI b, jI c] I1 (fun v' I2 => v' = v ∧ Inv I2)) := by
  refine CG.of (by decide) [some (jR 0), some (jI a), some (jI b), some (jI c)] rfl (Nat.le_of_ble_eq_true rfl) ?_
  refine j_iload_n (pc := 0) dX11_stair_0 rfl ?_
  refine j_goI (pc := 1) (j_runS k_X11_76 m_X11_isRoom (c_xroom X I a ha) dX11_stair_1 (by decide) rfl rfl (Nat.le_of_ble_eq_true rfl)) (fun r1 I1 h1 => ?_)
  obtain ⟨h1, rfl⟩ := h1
  refine j_if_eq (pc := 4) 28 dX11_stair_4 (by decide) (by omega) (fun h_4 => ?_) (fun h_4 => ?_)
  · refine j_aload_n (pc := 28) dX11_stair_28 rfl ?_
    refine j_bipush (pc := 29) dX11_stair_29 (by decide) ?_
    refine j_goI (pc := 31) (j_runV k_X11_84 m_X11_refuseBad (c_xbad X _ (-10)) dX11_stair_31 rfl (by decide) rfl (by decide) (by decide) rfl rfl (Nat.le_of_ble_eq_true rfl)) (fun r4 I4 h4 => ?_)
    obtain ⟨rfl, rfl⟩ := h4
    refine j_reti dX11_stair_34 (?_) rfl
    exact c_mstair2 X _ a b c _ ha hb hc (fun _ => ⟨rfl, Inv_ref hI (by omega)⟩) (fun i j e1 e2 _ _ _ _ => by omega)
  · refine j_iload_n (pc := 7) dX11_stair_7 rfl ?_
    refine j_goI (pc := 8) (j_runS k_X11_76 m_X11_isRoom (c_xroom X I1 b hb) dX11_stair_8 (by decide) rfl rfl (Nat.le_of_ble_eq_true rfl)) (fun r2 I2 h2 => ?_)
    obtain ⟨h2, rfl⟩ := h2
    refine j_if_eq (pc := 11) 28 dX11_stair_11 (by decide) (by omega) (fun h_11 => ?_) (fun h_11 => ?_)
    · refine j_aload_n (pc := 28) dX11_stair_28 rfl ?_
      refine j_bipush (pc := 29) dX11_stair_29 (by decide) ?_
      refine j_goI (pc := 31) (j_runV k_X11_84 m_X11_refuseBad (c_xbad X _ (-10)) dX11_stair_31 rfl (by decide) rfl (by decide) (by decide) rfl rfl (Nat.le_of_ble_eq_true rfl)) (fun r4 I4 h4 => ?_)
      obtain ⟨rfl, rfl⟩ := h4
      refine j_reti dX11_stair_34 (?_) rfl
      exact c_mstair2 X _ a b c _ ha hb hc (fun _ => ⟨rfl, Inv_ref hI (by omega)⟩) (fun i j e1 e2 _ _ _ _ => by omega)
    · refine j_iload_n (pc := 14) dX11_stair_14 rfl ?_
      refine j_iload_n (pc := 15) dX11_stair_15 rfl ?_
      refine j_icmp_eq (pc := 16) 28 dX11_stair_16 (by decide) (by omega) (by omega) (fun h_16 => ?_) (fun h_16 => ?_)
      · refine j_aload_n (pc := 28) dX11_stair_28 rfl ?_
        refine j_bipush (pc := 29) dX11_stair_29 (by decide) ?_
        refine j_goI (pc := 31) (j_runV k_X11_84 m_X11_refuseBad (c_xbad X _ (-10)) dX11_stair_31 rfl (by decide) rfl (by decide) (by decide) rfl rfl (Nat.le_of_ble_eq_true rfl)) (fun r4 I4 h4 => ?_)
        obtain ⟨rfl, rfl⟩ := h4
        refine j_reti dX11_stair_34 (?_) rfl
        exact c_mstair2 X _ a b c _ ha hb hc (fun _ => ⟨rfl, Inv_ref hI (by omega)⟩) (fun i j e1 e2 _ _ _ _ => by omega)
      · refine j_iload_n (pc := 19) dX11_stair_19 rfl ?_
        refine j_bipush (pc := 20) dX11_stair_20 (by decide) ?_
        refine j_goI (pc := 22) (j_runS k_X11_80 m_X11_within (c_xin X I2 c 9 hc (by omega)) dX11_stair_22 (by decide) rfl rfl (Nat.le_of_ble_eq_true rfl)) (fun r3 I3 h3 => ?_)
        obtain ⟨h3, rfl⟩ := h3
        refine j_if_ne (pc := 25) 35 dX11_stair_25 (by decide) (by omega) (fun h_25 => ?_) (fun h_25 => ?_)
        · obtain ⟨i, rfl⟩ := Int.eq_ofNat_of_zero_le (show 0 ≤ a by omega)
          obtain ⟨j, rfl⟩ := Int.eq_ofNat_of_zero_le (show 0 ≤ b by omega)
          refine j_aload_n (pc := 35) dX11_stair_35 rfl ?_
          refine j_getR (pc := 36) f_X11_10 dX11_stair_36 rfl rfl (by decide) rfl ?_
          refine j_getR (pc := 39) f_X11_63 dX11_stair_39 rfl rfl (by decide) rfl ?_
          refine j_iload_n (pc := 42) dX11_stair_42 rfl ?_
          refine j_iload_n (pc := 43) dX11_stair_43 rfl ?_
          refine j_iload_n (pc := 44) dX11_stair_44 rfl ?_
          refine j_goI (pc := 45) (j_runV k_X11_88 m_X2_addStair (c_hSt2 X I3 (I3 106) i j c hI.hR hI.ok (by omega) (by omega) (by omega) (by omega)) dX11_stair_45 rfl (by decide) rfl (by decide) (by decide) rfl rfl (Nat.le_of_ble_eq_true rfl)) (fun r5 I5 h5 => ?_)
          obtain ⟨e5, hH5, z5⟩ := h5
          refine j_reti dX11_stair_48 (?_) rfl
          have e6 : I5 106 = I3 106 := z5 106 (by omega) (by omega)
          refine c_mstair2 X _ i j c _ ha hb hc (fun h => by omega) (fun i' j' q1 q2 q3 q4 q5 q6 => ?_)
          obtain rfl : i = i' := by omega
          obtain rfl : j = j' := by omega
          rw [e6]
          have hp := pairN_lt q3 q4 q5
          exact ⟨e5.symm, Inv_h hI _ (fun z q7 q8 => z5 z (by omega) (by omega)) hH5 rfl (okSt_cr hI.ok q3 q4 q5 q6) (fun k hk => jU_n (by omega)) (by rw [jU_n (by omega)]; exact Int.le_refl _)⟩
        · refine j_aload_n (pc := 28) dX11_stair_28 rfl ?_
          refine j_bipush (pc := 29) dX11_stair_29 (by decide) ?_
          refine j_goI (pc := 31) (j_runV k_X11_84 m_X11_refuseBad (c_xbad X _ (-10)) dX11_stair_31 rfl (by decide) rfl (by decide) (by decide) rfl rfl (Nat.le_of_ble_eq_true rfl)) (fun r4 I4 h4 => ?_)
          obtain ⟨rfl, rfl⟩ := h4
          refine j_reti dX11_stair_34 (?_) rfl
          exact c_mstair2 X _ a b c _ ha hb hc (fun _ => ⟨rfl, Inv_ref hI (by omega)⟩) (fun i j e1 e2 _ _ _ _ => by omega)
