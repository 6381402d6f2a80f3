/-! ===== one call of both: of, way, part, status, count, digest ===== -/
set_option maxHeartbeats 1000000 in
theorem o_of (X : jX) (I : jMI) (s w : Int) (hI : Inv I) (hs : -2147483648 ≤ s ∧ s < 2147483648) (hw : -2147483648 ≤ w ∧ w < 2147483648) : C_X11_of X [jR 0, jI s, jI w] I (fun v I1 => C_X12_of X [jR 105, jI s, jI w] I1 (fun v' I2 => v' = v ∧ Inv I2)) := by
  refine CG.of (by decide) [some (jR 0), some (jI s), some (jI w)] rfl (Nat.le_of_ble_eq_true rfl) ?_
  have hok := hI.ok
  have hH := hI.hR
  obtain ⟨S, hS, hS5⟩ := okSt_5 hok
  obtain ⟨u, u1, u2, u3⟩ := hI.1
  obtain ⟨aw, haw, haw32⟩ := okSt_1 hok
  have h10 : I 1 10 = (aw : Int) := u3.2.2.1.trans haw
  have h2 : I 2 9 = (S : Int) := hH.1.trans hS
  refine j_aload_n (pc := 0) dX11_of_0 rfl ?_
  refine j_iload_n (pc := 1) dX11_of_1 rfl ?_
  refine j_goI (pc := 2) (j_runV k_X11_168 m_X11_isSleeper (c_xsl X I s S hs h2 (by omega)) dX11_of_2 rfl (by decide) rfl (by decide) (by decide) rfl rfl (Nat.le_of_ble_eq_true rfl)) (fun r1 I1 h1 => ?_)
  obtain ⟨h1, rfl⟩ := h1
  refine j_if_ne (pc := 5) 15 dX11_of_5 (by decide) (by omega) (fun h_5 => ?_) (fun h_5 => ?_)
  · obtain ⟨i, rfl⟩ := Int.eq_ofNat_of_zero_le (show 0 ≤ s by omega)
    obtain ⟨k1, k2, k3⟩ := hH.2.2.2.2.1 i (by omega)
    have g1 : I1 12 i = I1 106 (6 + i) := k1
    have g2 : I1 13 i = I1 106 (11 + i) := k2
    have g3 : I1 14 i = I1 106 (16 + i) := k3
    refine j_iload_n (pc := 15) dX11_of_15 rfl ?_
    refine j_tsw (pc := 16) dX11_of_16 (by omega) ?_ ?_
    · intro hsw
      refine j_pcto 99 (by decide) ?_
      refine j_aload_n (pc := 99) dX11_of_99 rfl ?_
      refine j_bipush (pc := 100) dX11_of_100 (by decide) ?_
      refine j_goI (pc := 102) (j_runV k_X11_84 m_X11_refuseBad (c_xbad X _ (-2)) dX11_of_102 rfl (by decide) rfl (by decide) (by decide) rfl rfl (Nat.le_of_ble_eq_true rfl)) (fun r5 I5 h5 => ?_)
      obtain ⟨rfl, rfl⟩ := h5
      refine j_reti dX11_of_105 (?_) rfl
      exact c_mof X _ i w _ hs hw (ok_ref hI 0) (fun _ => ⟨rfl, Inv_ref hI (by omega)⟩) (fun i aw e1 h3 _ _ _ => by omega)
    · intro hsw1 hsw2
      rcases (show w = 0 ∨ w = 1 ∨ w = 2 ∨ w = 3 by omega) with hsw | hsw | hsw | hsw
      · refine j_swt (32) 48 rfl (by rw [hsw]; rfl) (by decide) ?_
        refine j_aload_n (pc := 48) dX11_of_48 rfl ?_
        refine j_getR (pc := 49) f_X11_10 dX11_of_49 rfl rfl (by decide) rfl ?_
        refine j_getR (pc := 52) f_X11_63 dX11_of_52 rfl rfl (by decide) rfl ?_
        refine j_getR (pc := 55) f_X11_171 dX11_of_55 rfl rfl (by decide) rfl ?_
        refine j_iload_n (pc := 58) dX11_of_58 rfl ?_
        refine j_iald_b (pc := 59) (i) dX11_of_59 rfl (by decide) (by decide) (by omega) (by omega) ?_
        refine j_reti dX11_of_60 (?_) rfl
        refine c_mof X _ i w _ hs hw hok (fun h => by omega) (fun i' aw' e1 h3 h4 h5 h6 => ⟨?_, hI⟩)
        obtain rfl : i = i' := by omega
        rw [if_pos hsw, g1]
      · refine j_swt (45) 61 rfl (by rw [hsw]; rfl) (by decide) ?_
        refine j_aload_n (pc := 61) dX11_of_61 rfl ?_
        refine j_getR (pc := 62) f_X11_10 dX11_of_62 rfl rfl (by decide) rfl ?_
        refine j_getR (pc := 65) f_X11_63 dX11_of_65 rfl rfl (by decide) rfl ?_
        refine j_getR (pc := 68) f_X11_174 dX11_of_68 rfl rfl (by decide) rfl ?_
        refine j_iload_n (pc := 71) dX11_of_71 rfl ?_
        refine j_iald_b (pc := 72) (i) dX11_of_72 rfl (by decide) (by decide) (by omega) (by omega) ?_
        refine j_reti dX11_of_73 (?_) rfl
        refine c_mof X _ i w _ hs hw hok (fun h => by omega) (fun i' aw' e1 h3 h4 h5 h6 => ⟨?_, hI⟩)
        obtain rfl : i = i' := by omega
        rw [if_neg (by omega), if_pos hsw, g2]
      · refine j_swt (58) 74 rfl (by rw [hsw]; rfl) (by decide) ?_
        refine j_aload_n (pc := 74) dX11_of_74 rfl ?_
        refine j_getR (pc := 75) f_X11_10 dX11_of_75 rfl rfl (by decide) rfl ?_
        refine j_getR (pc := 78) f_X11_63 dX11_of_78 rfl rfl (by decide) rfl ?_
        refine j_getR (pc := 81) f_X11_177 dX11_of_81 rfl rfl (by decide) rfl ?_
        refine j_iload_n (pc := 84) dX11_of_84 rfl ?_
        refine j_iald_b (pc := 85) (i) dX11_of_85 rfl (by decide) (by decide) (by omega) (by omega) ?_
        refine j_reti dX11_of_86 (?_) rfl
        refine c_mof X _ i w _ hs hw hok (fun h => by omega) (fun i' aw' e1 h3 h4 h5 h6 => ⟨?_, hI⟩)
        obtain rfl : i = i' := by omega
        rw [if_neg (by omega), if_neg (by omega), if_pos hsw, g3]
      · refine j_swt (71) 87 rfl (by rw [hsw]; rfl) (by decide) ?_
        refine j_aload_n (pc := 87) dX11_of_87 rfl ?_
        refine j_getR (pc := 88) f_X11_10 dX11_of_88 rfl rfl (by decide) rfl ?_
        refine j_getI (pc := 91) f_X11_180 dX11_of_91 rfl rfl (by decide) ?_
        rw [h10]
        refine j_iload_n (pc := 94) dX11_of_94 rfl ?_
        refine j_goI (pc := 95) (j_runS k_X11_183 m_X11_bit (c_bit X I1 aw i) dX11_of_95 (by decide) rfl rfl (Nat.le_of_ble_eq_true rfl)) (fun r4 I4 h4 => ?_)
        obtain ⟨e4, rfl⟩ := h4
        rw [jbit (by omega) (by omega)] at e4
        refine j_reti dX11_of_98 (?_) rfl
        refine c_mof X _ i w _ hs hw hok (fun h => by omega) (fun i' aw' e1 h3 h4 h5 h6 => ⟨?_, hI⟩)
        obtain rfl : i = i' := by omega
        obtain rfl : aw = aw' := by omega
        rw [if_neg (by omega), if_neg (by omega), if_neg (by omega), e4]
  · refine j_aload_n (pc := 8) dX11_of_8 rfl ?_
    refine j_bipush (pc := 9) dX11_of_9 (by decide) ?_
    refine j_goI (pc := 11) (j_runV k_X11_84 m_X11_refuseBad (c_xbad X _ (-2)) dX11_of_11 rfl (by decide) rfl (by decide) (by decide) rfl rfl (Nat.le_of_ble_eq_true rfl)) (fun r3 I3 h3 => ?_)
    obtain ⟨rfl, rfl⟩ := h3
    refine j_reti dX11_of_14 (?_) rfl
    have e21 : cRef I1 0 106 = I1 106 := by unfold cRef; rw [jSf_n (by omega)]
    exact c_mof X _ s w _ hs hw (ok_ref hI 0) (fun _ => ⟨rfl, Inv_ref hI (by omega)⟩) (fun i aw e1 h3 _ _ _ => by rw [e21] at h3; omega)
theorem c_first0 (X : jX) (I : jMI) (a b c : Int) : C_X1_firstRoom X [jR 96, jR 2, jI a, jI b, jI c, jI 0] I (fun r I' => r = b ∧ I' = I) := by
  refine CG.of (by decide) [some (jR 96), some (jR 2), some (jI a), some (jI b), some (jI c), some (jI 0), none, none] rfl (Nat.le_of_ble_eq_true rfl) ?_
  refine j_iload (pc := 0) dX1_firstRoom_0 rfl ?_
  refine j_if_ne (pc := 2) 7 dX1_firstRoom_2 (by decide) (by omega) (fun h_2 => ?_) (fun h_2 => ?_)
  · omega
  · refine j_iload_n (pc := 5) dX1_firstRoom_5 rfl ?_
    exact j_reti dX1_firstRoom_6 (⟨rfl, rfl⟩) rfl
set_option maxHeartbeats 1000000 in
theorem o_way (X : jX) (I : jMI) (a b m w : Int) (hI : Inv I) (ha : -2147483648 ≤ a ∧ a < 2147483648) (hb : -2147483648 ≤ b ∧ b < 2147483648) (hm : -2147483648 ≤ m ∧ m < 2147483648) (hw : -2147483648 ≤ w ∧ w < 2147483648) : C_X11_way X [jR 0, jI a, jI b, jI m, jI w] I (fun v I1 => C_X12_way X [jR 105, jI a, jI b, jI m, jI w] I1 (fun v' I2 => v' = v ∧ Inv I2)) := by
  refine CG.of (by decide) [some (jR 0), some (jI a), some (jI b), some (jI m), some (jI w), none] rfl (Nat.le_of_ble_eq_true rfl) ?_
  have k72 : ∀ (i j k n : Nat) (J : jMI), Inv J → i < 8 → j < 8 → k + n ≤ 59 → w = 1 → isL (J 106) j k i (n : Nat) → (-2147483648 ≤ (i : Int) ∧ (i : Int) < 2147483648) → (-2147483648 ≤ (j : Int) ∧ (j : Int) < 2147483648) → (-2147483648 ≤ (k : Int) ∧ (k : Int) < 2147483648) → S_X11_way X 72 [some (jR 0), some (jI i), some (jI j), some (jI k), some (jI w), some (jI n)] [] J (fun v I1 => C_X12_way X [jR 105, jI i, jI j, jI k, jI w] I1 (fun v' I2 => v' = v ∧ Inv I2)) := by
    intro i j k n J hJ hi hj hk hw1 hL ri rj rk
    cases n with
    | zero =>
      refine j_aload_n (pc := 72) dX11_way_72 rfl ?_
      refine j_getR (pc := 73) f_X11_41 dX11_way_73 rfl rfl (by decide) rfl ?_
      refine j_aload_n (pc := 76) dX11_way_76 rfl ?_
      refine j_getR (pc := 77) f_X11_10 dX11_way_77 rfl rfl (by decide) rfl ?_
      refine j_getR (pc := 80) f_X11_63 dX11_way_80 rfl rfl (by decide) rfl ?_
      refine j_iload_n (pc := 83) dX11_way_83 rfl ?_
      refine j_iload_n (pc := 84) dX11_way_84 rfl ?_
      refine j_iload_n (pc := 85) dX11_way_85 rfl ?_
      refine j_iload (pc := 86) dX11_way_86 rfl ?_
      refine j_goI (pc := 88) (j_runV k_X11_199 m_X1_firstRoom (c_first0 X J i j k) dX11_way_88 rfl (by decide) rfl (by decide) (by decide) rfl rfl (Nat.le_of_ble_eq_true rfl)) (fun r5 I5 h5 => ?_)
      obtain ⟨rfl, rfl⟩ := h5
      refine j_reti dX11_way_91 (?_) rfl
      refine c_mway X _ i j k w _ ri rj rk hw hJ.ok (fun h => by omega) (fun i' j' k' I' e1 e2 e3 _ _ _ _ h hsc => ?_) (fun i' j' k' v I' e1 e2 e3 _ _ _ h => ?_) (fun i' j' k' I' e1 e2 e3 _ _ _ _ h hsc => ⟨e2.symm, Inv_sc hJ hsc⟩) (fun i' j' k' c v I' e1 e2 e3 _ _ _ _ h h0 h9 hc hsc => ?_)
      · obtain rfl : i = i' := by omega
        obtain rfl : j = j' := by omega
        obtain rfl : k = k' := by omega
        have := isL_uniq h hL
        omega
      · omega
      · obtain rfl : i = i' := by omega
        obtain rfl : j = j' := by omega
        obtain rfl : k = k' := by omega
        have := isL_uniq h hL
        omega
    | succ n =>
      refine j_aload_n (pc := 72) dX11_way_72 rfl ?_
      refine j_getR (pc := 73) f_X11_41 dX11_way_73 rfl rfl (by decide) rfl ?_
      refine j_aload_n (pc := 76) dX11_way_76 rfl ?_
      refine j_getR (pc := 77) f_X11_10 dX11_way_77 rfl rfl (by decide) rfl ?_
      refine j_getR (pc := 80) f_X11_63 dX11_way_80 rfl rfl (by decide) rfl ?_
      refine j_iload_n (pc := 83) dX11_way_83 rfl ?_
      refine j_iload_n (pc := 84) dX11_way_84 rfl ?_
      refine j_iload_n (pc := 85) dX11_way_85 rfl ?_
      refine j_iload (pc := 86) dX11_way_86 rfl ?_
      refine j_goI (pc := 88) (j_runV k_X11_199 m_X1_firstRoom (c_first X J (J 106) i j k n hJ.hR hJ.ok hi hj hk hL) dX11_way_88 rfl (by decide) rfl (by decide) (by decide) rfl rfl (Nat.le_of_ble_eq_true rfl)) (fun r5 I5 h5 => ?_)
      obtain ⟨⟨c, rfl, hc⟩, hz⟩ := h5
      have hI5 := Inv_cs hJ (fun z _ hzz => hz z (by omega))
      have e6 := hz 106 (by omega)
      refine j_reti dX11_way_91 (?_) rfl
      refine c_mway X _ i j k w _ ri rj rk hw hI5.ok (fun h => by omega) (fun i' j' k' I' e1 e2 e3 _ _ _ _ h hsc => ?_) (fun i' j' k' v I' e1 e2 e3 _ _ _ h => ?_) (fun i' j' k' I' e1 e2 e3 _ _ _ _ h hsc => ?_) (fun i' j' k' c' v I' e1 e2 e3 _ _ _ _ h h0 h9 hc' hsc => ⟨?_, Inv_sc hI5 hsc⟩)
      · obtain rfl : i = i' := by omega
        obtain rfl : j = j' := by omega
        obtain rfl : k = k' := by omega
        rw [e6] at h
        have := isL_uniq h hL
        omega
      · omega
      · obtain rfl : i = i' := by omega
        obtain rfl : j = j' := by omega
        obtain rfl : k = k' := by omega
        rw [e6] at h
        have := isL_uniq h hL
        omega
      · obtain rfl : i = i' := by omega
        obtain rfl : j = j' := by omega
        obtain rfl : k = k' := by omega
        rw [e6] at h hc'
        have e8 := isL_uniq h hL
        rw [e8] at hc'
        rw [isNx_uniq hc' hc]
  refine j_iload_n (pc := 0) dX11_way_0 rfl ?_
  refine j_goI (pc := 1) (j_runS k_X11_76 m_X11_isRoom (c_xroom X I a ha) dX11_way_1 (by decide) rfl rfl (Nat.le_of_ble_eq_true rfl)) (fun r1 I1 h1 => ?_)
  obtain ⟨h1, rfl⟩ := h1
  refine j_if_eq (pc := 4) 32 dX11_way_4 (by decide) (by omega) (fun h_4 => ?_) (fun h_4 => ?_)
  · refine j_aload_n (pc := 32) dX11_way_32 rfl ?_
    refine j_bipush (pc := 33) dX11_way_33 (by decide) ?_
    refine j_goI (pc := 35) (j_runV k_X11_84 m_X11_refuseBad (c_xbad X _ (-2)) dX11_way_35 rfl (by decide) rfl (by decide) (by decide) rfl rfl (Nat.le_of_ble_eq_true rfl)) (fun r5 I5 h5 => ?_)
    obtain ⟨rfl, rfl⟩ := h5
    refine j_reti dX11_way_38 (?_) rfl
    exact c_mway X _ a b m w _ ha hb hm hw (ok_ref hI 0) (fun _ => ⟨rfl, Inv_ref hI (by omega)⟩) (fun i' j' k' I' e1 e2 e3 _ _ _ _ h hsc => by omega) (fun i' j' k' v I' e1 e2 e3 _ _ _ h _ _ _ => by omega) (fun i' j' k' I' e1 e2 e3 _ _ _ _ h hsc => by omega) (fun i' j' k' c v I' e1 e2 e3 _ _ _ _ h h0 h9 hc hsc => by omega)
  · refine j_iload_n (pc := 7) dX11_way_7 rfl ?_
    refine j_goI (pc := 8) (j_runS k_X11_76 m_X11_isRoom (c_xroom X I1 b hb) dX11_way_8 (by decide) rfl rfl (Nat.le_of_ble_eq_true rfl)) (fun r2 I2 h2 => ?_)
    obtain ⟨h2, rfl⟩ := h2
    refine j_if_eq (pc := 11) 32 dX11_way_11 (by decide) (by omega) (fun h_11 => ?_) (fun h_11 => ?_)
    · refine j_aload_n (pc := 32) dX11_way_32 rfl ?_
      refine j_bipush (pc := 33) dX11_way_33 (by decide) ?_
      refine j_goI (pc := 35) (j_runV k_X11_84 m_X11_refuseBad (c_xbad X _ (-2)) dX11_way_35 rfl (by decide) rfl (by decide) (by decide) rfl rfl (Nat.le_of_ble_eq_true rfl)) (fun r5 I5 h5 => ?_)
      obtain ⟨rfl, rfl⟩ := h5
      refine j_reti dX11_way_38 (?_) rfl
      exact c_mway X _ a b m w _ ha hb hm hw (ok_ref hI 0) (fun _ => ⟨rfl, Inv_ref hI (by omega)⟩) (fun i' j' k' I' e1 e2 e3 _ _ _ _ h hsc => by omega) (fun i' j' k' v I' e1 e2 e3 _ _ _ h _ _ _ => by omega) (fun i' j' k' I' e1 e2 e3 _ _ _ _ h hsc => by omega) (fun i' j' k' c v I' e1 e2 e3 _ _ _ _ h h0 h9 hc hsc => by omega)
    · refine j_iload_n (pc := 14) dX11_way_14 rfl ?_
      refine j_bipush (pc := 15) dX11_way_15 (by decide) ?_
      refine j_goI (pc := 17) (j_runS k_X11_80 m_X11_within (c_xin X I2 m 59 hm (by omega)) dX11_way_17 (by decide) rfl rfl (Nat.le_of_ble_eq_true rfl)) (fun r3 I3 h3 => ?_)
      obtain ⟨h3, rfl⟩ := h3
      refine j_if_eq (pc := 20) 32 dX11_way_20 (by decide) (by omega) (fun h_20 => ?_) (fun h_20 => ?_)
      · refine j_aload_n (pc := 32) dX11_way_32 rfl ?_
        refine j_bipush (pc := 33) dX11_way_33 (by decide) ?_
        refine j_goI (pc := 35) (j_runV k_X11_84 m_X11_refuseBad (c_xbad X _ (-2)) dX11_way_35 rfl (by decide) rfl (by decide) (by decide) rfl rfl (Nat.le_of_ble_eq_true rfl)) (fun r5 I5 h5 => ?_)
        obtain ⟨rfl, rfl⟩ := h5
        refine j_reti dX11_way_38 (?_) rfl
        exact c_mway X _ a b m w _ ha hb hm hw (ok_ref hI 0) (fun _ => ⟨rfl, Inv_ref hI (by omega)⟩) (fun i' j' k' I' e1 e2 e3 _ _ _ _ h hsc => by omega) (fun i' j' k' v I' e1 e2 e3 _ _ _ h _ _ _ => by omega) (fun i' j' k' I' e1 e2 e3 _ _ _ _ h hsc => by omega) (fun i' j' k' c v I' e1 e2 e3 _ _ _ _ h h0 h9 hc hsc => by omega)
      · refine j_iload (pc := 23) dX11_way_23 rfl ?_
        refine j_iconst (pc := 25) dX11_way_25 ?_
        refine j_goI (pc := 26) (j_runS k_X11_80 m_X11_within (c_xin X I3 w 1 hw (by omega)) dX11_way_26 (by decide) rfl rfl (Nat.le_of_ble_eq_true rfl)) (fun r4 I4 h4 => ?_)
        obtain ⟨h4, rfl⟩ := h4
        refine j_if_ne (pc := 29) 39 dX11_way_29 (by decide) (by omega) (fun h_29 => ?_) (fun h_29 => ?_)
        · obtain ⟨i, rfl⟩ := Int.eq_ofNat_of_zero_le (show 0 ≤ a by omega)
          obtain ⟨j, rfl⟩ := Int.eq_ofNat_of_zero_le (show 0 ≤ b by omega)
          obtain ⟨k, rfl⟩ := Int.eq_ofNat_of_zero_le (show 0 ≤ m by omega)
          refine j_aload_n (pc := 39) dX11_way_39 rfl ?_
          refine j_getR (pc := 40) f_X11_41 dX11_way_40 rfl rfl (by decide) rfl ?_
          refine j_aload_n (pc := 43) dX11_way_43 rfl ?_
          refine j_getR (pc := 44) f_X11_10 dX11_way_44 rfl rfl (by decide) rfl ?_
          refine j_getR (pc := 47) f_X11_63 dX11_way_47 rfl rfl (by decide) rfl ?_
          refine j_iload_n (pc := 50) dX11_way_50 rfl ?_
          refine j_iload_n (pc := 51) dX11_way_51 rfl ?_
          refine j_iload_n (pc := 52) dX11_way_52 rfl ?_
          refine j_goI (pc := 53) (j_runV k_X11_195 m_X1_fewestMinutes (c_fewest X I4 (I4 106) i j k hI.hR hI.ok (by omega) (by omega) (by omega)) dX11_way_53 rfl (by decide) rfl (by decide) (by decide) rfl rfl (Nat.le_of_ble_eq_true rfl)) (fun r6 I6 h6 => ?_)
          obtain ⟨h6, hz⟩ := h6
          have hI6 := Inv_cs hI (fun z _ hzz => hz z (by omega))
          have e6 := hz 106 (by omega)
          rw [← e6] at h6
          have hr6 : -1 ≤ r6 ∧ r6 < 99 := by
            rcases h6 with ⟨q, -⟩ | ⟨-, q1, q2⟩ <;> omega
          refine j_istore5 (pc := 56) dX11_way_56 (by decide) rfl ?_
          refine j_iload (pc := 58) dX11_way_58 rfl ?_
          refine j_if_eq (pc := 60) 69 dX11_way_60 (by decide) (by omega) (fun h_60 => ?_) (fun h_60 => ?_)
          · refine j_iload (pc := 69) dX11_way_69 rfl ?_
            refine j_reti dX11_way_71 (?_) rfl
            rcases h6 with ⟨q, hL⟩ | ⟨hL, q1, q2⟩
            · refine c_mway X _ i j k w _ ha hb hm hw hI6.ok (fun h => by omega) (fun i' j' k' I' e1 e2 e3 _ _ _ _ h hsc => ⟨q.symm, Inv_sc hI6 hsc⟩) (fun i' j' k' v I' e1 e2 e3 _ _ _ _ h h9 hsc => ?_) (fun i' j' k' I' e1 e2 e3 _ _ _ _ h hsc => ?_) (fun i' j' k' c' v I' e1 e2 e3 _ _ _ _ h h0 h9 hc' hsc => ?_)
              all_goals
                obtain rfl : i = i' := by omega
                obtain rfl : j = j' := by omega
                obtain rfl : k = k' := by omega
                have := isL_uniq h hL
                omega
            · have hw0 : w = 0 := by omega
              refine c_mway X _ i j k w _ ha hb hm hw hI6.ok (fun h => by omega) (fun i' j' k' I' e1 e2 e3 _ _ _ _ h hsc => ?_) (fun i' j' k' v I' e1 e2 e3 _ _ _ _ h h9 hsc => ⟨?_, Inv_sc hI6 hsc⟩) (fun i' j' k' I' e1 e2 e3 _ _ _ _ h hsc => by omega) (fun i' j' k' c' v I' e1 e2 e3 _ _ _ _ h h0 h9 hc' hsc => by omega)
              all_goals
                obtain rfl : i = i' := by omega
                obtain rfl : j = j' := by omega
                obtain rfl : k = k' := by omega
                have := isL_uniq h hL
                omega
          · refine j_iload (pc := 63) dX11_way_63 rfl ?_
            refine j_iconst (pc := 65) dX11_way_65 ?_
            refine j_icmp_ne (pc := 66) 72 dX11_way_66 (by decide) (by omega) (by omega) (fun h_66 => ?_) (fun h_66 => ?_)
            · rcases h6 with ⟨q, hL⟩ | ⟨hL, q1, q2⟩
              · omega
              · have hrng := isL_rng hL
                obtain ⟨n, rfl⟩ := Int.eq_ofNat_of_zero_le q1
                exact k72 i j k n I6 hI6 (by omega) (by omega) (by omega) (by omega) hL ha hb hm
            · refine j_iload (pc := 69) dX11_way_69 rfl ?_
              refine j_reti dX11_way_71 (?_) rfl
              rcases h6 with ⟨q, hL⟩ | ⟨hL, q1, q2⟩
              · refine c_mway X _ i j k w _ ha hb hm hw hI6.ok (fun h => by omega) (fun i' j' k' I' e1 e2 e3 _ _ _ _ h hsc => ⟨q.symm, Inv_sc hI6 hsc⟩) (fun i' j' k' v I' e1 e2 e3 _ _ _ _ h h9 hsc => ?_) (fun i' j' k' I' e1 e2 e3 _ _ _ _ h hsc => ?_) (fun i' j' k' c' v I' e1 e2 e3 _ _ _ _ h h0 h9 hc' hsc => ?_)
                all_goals
                  obtain rfl : i = i' := by omega
                  obtain rfl : j = j' := by omega
                  obtain rfl : k = k' := by omega
                  have := isL_uniq h hL
                  omega
              · have hw0 : w = 0 := by omega
                refine c_mway X _ i j k w _ ha hb hm hw hI6.ok (fun h => by omega) (fun i' j' k' I' e1 e2 e3 _ _ _ _ h hsc => ?_) (fun i' j' k' v I' e1 e2 e3 _ _ _ _ h h9 hsc => ⟨?_, Inv_sc hI6 hsc⟩) (fun i' j' k' I' e1 e2 e3 _ _ _ _ h hsc => by omega) (fun i' j' k' c' v I' e1 e2 e3 _ _ _ _ h h0 h9 hc' hsc => by omega)
                all_goals
                  obtain rfl : i = i' := by omega
                  obtain rfl : j = j' := by omega
                  obtain rfl : k = k' := by omega
                  have := isL_uniq h hL
                  omega
        · refine j_aload_n (pc := 32) dX11_way_32 rfl ?_
          refine j_bipush (pc := 33) dX11_way_33 (by decide) ?_
          refine j_goI (pc := 35) (j_runV k_X11_84 m_X11_refuseBad (c_xbad X _ (-2)) dX11_way_35 rfl (by decide) rfl (by decide) (by decide) rfl rfl (Nat.le_of_ble_eq_true rfl)) (fun r5 I5 h5 => ?_)
          obtain ⟨rfl, rfl⟩ := h5
          refine j_reti dX11_way_38 (?_) rfl
          exact c_mway X _ a b m w _ ha hb hm hw (ok_ref hI 0) (fun _ => ⟨rfl, Inv_ref hI (by omega)⟩) (fun i' j' k' I' e1 e2 e3 _ _ _ _ h hsc => by omega) (fun i' j' k' v I' e1 e2 e3 _ _ _ h _ _ _ => by omega) (fun i' j' k' I' e1 e2 e3 _ _ _ _ h hsc => by omega) (fun i' j' k' c v I' e1 e2 e3 _ _ _ _ h h0 h9 hc hsc => by omega)
set_option maxHeartbeats 1000000 in
theorem o_part (X : jX) (I : jMI) (w : Int) (hI : Inv I) (hw : -2147483648 ≤ w ∧ w < 2147483648) : C_X11_part X [jR 0, jI w] I (fun v I1 => C_X12_part X [jR 105, jI w] I1 (fun v' I2 => v' = v ∧ Inv I2)) := by
  refine CG.of (by decide) [some (jR 0), some (jI w)] rfl (Nat.le_of_ble_eq_true rfl) ?_
  obtain ⟨c1, c2⟩ := hI.2.2.1
  refine j_iload_n (pc := 0) dX11_part_0 rfl ?_
  refine j_iconst (pc := 1) dX11_part_1 ?_
  refine j_goI (pc := 2) (j_runS k_X11_80 m_X11_within (c_xin X I w 1 hw (by omega)) dX11_part_2 (by decide) rfl rfl (Nat.le_of_ble_eq_true rfl)) (fun r1 I1 h1 => ?_)
  obtain ⟨h1, rfl⟩ := h1
  refine j_if_ne (pc := 5) 16 dX11_part_5 (by decide) (by omega) (fun h_5 => ?_) (fun h_5 => ?_)
  · refine j_iload_n (pc := 16) dX11_part_16 rfl ?_
    refine j_if_ne (pc := 17) 27 dX11_part_17 (by decide) (by omega) (fun h_17 => ?_) (fun h_17 => ?_)
    · refine j_aload_n (pc := 27) dX11_part_27 rfl ?_
      refine j_getL (pc := 28) f_X11_60 dX11_part_28 rfl rfl (by decide) ?_
      refine j_retl dX11_part_31 (?_) rfl
      first
        | (have hguard : w = 0 := by omega
           exact c_mpart X _ w _ hw (fun h => by omega) (fun h => ⟨c1.symm, hI⟩) (fun h => by omega))
        | exact c_mpart X _ w _ hw (fun h => by omega) (fun h => by omega) (fun h => ⟨c2.symm, hI⟩)
    · refine j_aload_n (pc := 20) dX11_part_20 rfl ?_
      refine j_getL (pc := 21) f_X11_56 dX11_part_21 rfl rfl (by decide) ?_
      refine j_goto (pc := 24) 31 dX11_part_24 (by decide) ?_
      refine j_retl dX11_part_31 (?_) rfl
      first
        | (have hguard : w = 0 := by omega
           exact c_mpart X _ w _ hw (fun h => by omega) (fun h => ⟨c1.symm, hI⟩) (fun h => by omega))
        | exact c_mpart X _ w _ hw (fun h => by omega) (fun h => by omega) (fun h => ⟨c2.symm, hI⟩)
  · refine j_aload_n (pc := 8) dX11_part_8 rfl ?_
    refine j_bipush (pc := 9) dX11_part_9 (by decide) ?_
    refine j_goI (pc := 11) (j_runV k_X11_84 m_X11_refuseBad (c_xbad X _ (-2)) dX11_part_11 rfl (by decide) rfl (by decide) (by decide) rfl rfl (Nat.le_of_ble_eq_true rfl)) (fun r3 I3 h3 => ?_)
    obtain ⟨rfl, rfl⟩ := h3
    refine j_i2l (pc := 14) dX11_part_14 (by omega) ?_
    refine j_retl dX11_part_15 (?_) rfl
    exact c_mpart X _ w _ hw (fun _ => ⟨rfl, Inv_ref hI (by omega)⟩) (fun h => by omega) (fun h => by omega)
set_option maxHeartbeats 1000000 in
theorem o_status (X : jX) (I : jMI) (w : Int) (hI : Inv I) (hw : -2147483648 ≤ w ∧ w < 2147483648) : C_X11_status X [jR 0, jI w] I (fun v I1 => C_X12_status X [jR 105, jI w] I1 (fun v' I2 => v' = v ∧ Inv I2)) := by
  refine CG.of (by decide) [some (jR 0), some (jI w)] rfl (Nat.le_of_ble_eq_true rfl) ?_
  obtain ⟨d1, d2, d3⟩ := hI.2.2.2.1
  refine j_iload_n (pc := 0) dX11_status_0 rfl ?_
  refine j_tsw (pc := 1) dX11_status_1 (by omega) ?_ ?_
  · intro hsw
    refine j_pcto 43 (by decide) ?_
    refine j_aload_n (pc := 43) dX11_status_43 rfl ?_
    refine j_iconst (pc := 44) dX11_status_44 ?_
    refine j_goI (pc := 45) (j_runV k_X11_84 m_X11_refuseBad (c_xbad X _ (-1)) dX11_status_45 rfl (by decide) rfl (by decide) (by decide) rfl rfl (Nat.le_of_ble_eq_true rfl)) (fun r3 I3 h3 => ?_)
    obtain ⟨rfl, rfl⟩ := h3
    refine j_reti dX11_status_48 (?_) rfl
    exact c_mstatus X _ w _ hw (fun _ => ⟨rfl, Inv_ref hI (by omega)⟩) (fun i e h => by omega)
  · intro hsw1 hsw2
    rcases (show w = 0 ∨ w = 1 ∨ w = 2 by omega) with hsw | hsw | hsw
    · refine j_swt (27) 28 rfl (by rw [hsw]; rfl) (by decide) ?_
      refine j_aload_n (pc := 28) dX11_status_28 rfl ?_
      refine j_getI (pc := 29) f_X11_261 dX11_status_29 rfl rfl (by decide) ?_
      refine j_reti dX11_status_32 (?_) rfl
      refine c_mstatus X _ w _ hw (fun h => by omega) (fun i e h => ⟨?_, hI⟩)
      obtain rfl : i = 0 := by omega
      exact d1.symm
    · refine j_swt (32) 33 rfl (by rw [hsw]; rfl) (by decide) ?_
      refine j_aload_n (pc := 33) dX11_status_33 rfl ?_
      refine j_getI (pc := 34) f_X11_264 dX11_status_34 rfl rfl (by decide) ?_
      refine j_reti dX11_status_37 (?_) rfl
      refine c_mstatus X _ w _ hw (fun h => by omega) (fun i e h => ⟨?_, hI⟩)
      obtain rfl : i = 1 := by omega
      exact d2.symm
    · refine j_swt (37) 38 rfl (by rw [hsw]; rfl) (by decide) ?_
      refine j_aload_n (pc := 38) dX11_status_38 rfl ?_
      refine j_getI (pc := 39) f_X11_267 dX11_status_39 rfl rfl (by decide) ?_
      refine j_reti dX11_status_42 (?_) rfl
      refine c_mstatus X _ w _ hw (fun h => by omega) (fun i e h => ⟨?_, hI⟩)
      obtain rfl : i = 2 := by omega
      exact d3.symm
set_option maxHeartbeats 1000000 in
theorem c_xcnt (X : jX) (I : jMI) (i : Nat) (hI : Inv I) (hi : i ≤ 6) : C_X11_count X [jR 0, jI i] I (fun v I1 => v = cnt I i ∧ I1 = I) := by
  refine CG.of (by decide) [some (jR 0), some (jI i)] rfl (Nat.le_of_ble_eq_true rfl) ?_
  have hok := hI.ok
  have hH := hI.hR
  obtain ⟨u, u1, u2, u3⟩ := hI.1
  obtain ⟨n, t1, t2, t3, -⟩ := hI.2.1
  obtain ⟨aw, haw, haw32⟩ := okSt_1 hok
  have h10 : I 1 10 = (aw : Int) := u3.2.2.1.trans haw
  refine j_iload_n (pc := 0) dX11_count_0 rfl ?_
  refine j_tsw (pc := 1) dX11_count_1 (by omega) ?_ ?_
  · intro hsw
    refine j_pcto 109 (by decide) ?_
    refine j_aload_n (pc := 109) dX11_count_109 rfl ?_
    refine j_bipush (pc := 110) dX11_count_110 (by decide) ?_
    refine j_goI (pc := 112) (j_runV k_X11_84 m_X11_refuseBad (c_xbad X _ (-2)) dX11_count_112 rfl (by decide) rfl (by decide) (by decide) rfl rfl (Nat.le_of_ble_eq_true rfl)) (fun r3 I3 h3 => ?_)
    refine j_reti dX11_count_115 (?_) rfl
    omega
  · intro hsw1 hsw2
    rcases (show (i : Int) = 0 ∨ (i : Int) = 1 ∨ (i : Int) = 2 ∨ (i : Int) = 3 ∨ (i : Int) = 4 ∨ (i : Int) = 5 ∨ (i : Int) = 6 by omega) with hsw | hsw | hsw | hsw | hsw | hsw | hsw
    · refine j_swt (43) 44 rfl (by rw [hsw]; rfl) (by decide) ?_
      refine j_aload_n (pc := 44) dX11_count_44 rfl ?_
      refine j_getR (pc := 45) f_X11_10 dX11_count_45 rfl rfl (by decide) rfl ?_
      refine j_getR (pc := 48) f_X11_63 dX11_count_48 rfl rfl (by decide) rfl ?_
      refine j_getI (pc := 51) f_X11_66 dX11_count_51 rfl rfl (by decide) ?_
      refine j_reti dX11_count_54 (?_) rfl
      obtain rfl : i = 0 := by omega
      exact ⟨hH.1, rfl⟩
    · refine j_swt (54) 55 rfl (by rw [hsw]; rfl) (by decide) ?_
      refine j_aload_n (pc := 55) dX11_count_55 rfl ?_
      refine j_getR (pc := 56) f_X11_10 dX11_count_56 rfl rfl (by decide) rfl ?_
      refine j_getR (pc := 59) f_X11_63 dX11_count_59 rfl rfl (by decide) rfl ?_
      refine j_getI (pc := 62) f_X11_102 dX11_count_62 rfl rfl (by decide) ?_
      refine j_reti dX11_count_65 (?_) rfl
      obtain rfl : i = 1 := by omega
      exact ⟨hH.2.1, rfl⟩
    · refine j_swt (65) 66 rfl (by rw [hsw]; rfl) (by decide) ?_
      refine j_aload_n (pc := 66) dX11_count_66 rfl ?_
      refine j_getR (pc := 67) f_X11_10 dX11_count_67 rfl rfl (by decide) rfl ?_
      refine j_getI (pc := 70) f_X11_157 dX11_count_70 rfl rfl (by decide) ?_
      refine j_reti dX11_count_73 (?_) rfl
      obtain rfl : i = 2 := by omega
      exact ⟨u3.2.1, rfl⟩
    · refine j_swt (73) 74 rfl (by rw [hsw]; rfl) (by decide) ?_
      refine j_aload_n (pc := 74) dX11_count_74 rfl ?_
      refine j_getR (pc := 75) f_X11_10 dX11_count_75 rfl rfl (by decide) rfl ?_
      refine j_getI (pc := 78) f_X11_180 dX11_count_78 rfl rfl (by decide) ?_
      rw [h10]
      refine j_goI (pc := 81) (j_runS k_X11_244 m_J6_bitCount_0f7a4 (c_bitCount X I aw haw32) dX11_count_81 (by decide) rfl rfl (Nat.le_of_ble_eq_true rfl)) (fun r4 I4 h4 => ?_)
      obtain ⟨rfl, rfl⟩ := h4
      refine j_reti dX11_count_84 (?_) rfl
      obtain rfl : i = 3 := by omega
      refine ⟨?_, rfl⟩
      show (pop5 aw : Int) = (pop5 (I4 106 1).toNat : Nat)
      rw [haw, Int.toNat_natCast]
    · refine j_swt (84) 85 rfl (by rw [hsw]; rfl) (by decide) ?_
      refine j_aload_n (pc := 85) dX11_count_85 rfl ?_
      refine j_getR (pc := 86) f_X11_10 dX11_count_86 rfl rfl (by decide) rfl ?_
      refine j_getI (pc := 89) f_X11_219 dX11_count_89 rfl rfl (by decide) ?_
      refine j_reti dX11_count_92 (?_) rfl
      obtain rfl : i = 4 := by omega
      exact ⟨u3.2.2.2.2.1, rfl⟩
    · refine j_swt (92) 93 rfl (by rw [hsw]; rfl) (by decide) ?_
      refine j_aload_n (pc := 93) dX11_count_93 rfl ?_
      refine j_getR (pc := 94) f_X11_10 dX11_count_94 rfl rfl (by decide) rfl ?_
      refine j_getI (pc := 97) f_X11_96 dX11_count_97 rfl rfl (by decide) ?_
      refine j_reti dX11_count_100 (?_) rfl
      obtain rfl : i = 5 := by omega
      exact ⟨u3.2.2.2.1.trans u1.symm, rfl⟩
    · refine j_swt (100) 101 rfl (by rw [hsw]; rfl) (by decide) ?_
      refine j_aload_n (pc := 101) dX11_count_101 rfl ?_
      refine j_getR (pc := 102) f_X11_27 dX11_count_102 rfl rfl (by decide) rfl ?_
      refine j_getI (pc := 105) f_X11_125 dX11_count_105 rfl rfl (by decide) ?_
      refine j_reti dX11_count_108 (?_) rfl
      obtain rfl : i = 6 := by omega
      exact ⟨t2.trans t3.symm, rfl⟩
set_option maxHeartbeats 1000000 in
theorem o_count (X : jX) (I : jMI) (w : Int) (hI : Inv I) (hw : -2147483648 ≤ w ∧ w < 2147483648) : C_X11_count X [jR 0, jI w] I (fun v I1 => C_X12_count X [jR 105, jI w] I1 (fun v' I2 => v' = v ∧ Inv I2)) := by
  refine CG.of (by decide) [some (jR 0), some (jI w)] rfl (Nat.le_of_ble_eq_true rfl) ?_
  have hok := hI.ok
  have hH := hI.hR
  obtain ⟨u, u1, u2, u3⟩ := hI.1
  obtain ⟨n, t1, t2, t3, -⟩ := hI.2.1
  obtain ⟨aw, haw, haw32⟩ := okSt_1 hok
  have h10 : I 1 10 = (aw : Int) := u3.2.2.1.trans haw
  refine j_iload_n (pc := 0) dX11_count_0 rfl ?_
  refine j_tsw (pc := 1) dX11_count_1 (by omega) ?_ ?_
  · intro hsw
    refine j_pcto 109 (by decide) ?_
    refine j_aload_n (pc := 109) dX11_count_109 rfl ?_
    refine j_bipush (pc := 110) dX11_count_110 (by decide) ?_
    refine j_goI (pc := 112) (j_runV k_X11_84 m_X11_refuseBad (c_xbad X _ (-2)) dX11_count_112 rfl (by decide) rfl (by decide) (by decide) rfl rfl (Nat.le_of_ble_eq_true rfl)) (fun r3 I3 h3 => ?_)
    obtain ⟨rfl, rfl⟩ := h3
    refine j_reti dX11_count_115 (?_) rfl
    exact c_mcount X _ w _ hw (ok_ref hI 0) (fun _ => ⟨rfl, Inv_ref hI (by omega)⟩) (fun i e h => by omega)
  · intro hsw1 hsw2
    rcases (show w = 0 ∨ w = 1 ∨ w = 2 ∨ w = 3 ∨ w = 4 ∨ w = 5 ∨ w = 6 by omega) with hsw | hsw | hsw | hsw | hsw | hsw | hsw
    · refine j_swt (43) 44 rfl (by rw [hsw]; rfl) (by decide) ?_
      refine j_aload_n (pc := 44) dX11_count_44 rfl ?_
      refine j_getR (pc := 45) f_X11_10 dX11_count_45 rfl rfl (by decide) rfl ?_
      refine j_getR (pc := 48) f_X11_63 dX11_count_48 rfl rfl (by decide) rfl ?_
      refine j_getI (pc := 51) f_X11_66 dX11_count_51 rfl rfl (by decide) ?_
      refine j_reti dX11_count_54 (?_) rfl
      refine c_mcount X _ w _ hw hok (fun h => by omega) (fun i e h => ⟨?_, hI⟩)
      obtain rfl : i = 0 := by omega
      exact hH.1.symm
    · refine j_swt (54) 55 rfl (by rw [hsw]; rfl) (by decide) ?_
      refine j_aload_n (pc := 55) dX11_count_55 rfl ?_
      refine j_getR (pc := 56) f_X11_10 dX11_count_56 rfl rfl (by decide) rfl ?_
      refine j_getR (pc := 59) f_X11_63 dX11_count_59 rfl rfl (by decide) rfl ?_
      refine j_getI (pc := 62) f_X11_102 dX11_count_62 rfl rfl (by decide) ?_
      refine j_reti dX11_count_65 (?_) rfl
      refine c_mcount X _ w _ hw hok (fun h => by omega) (fun i e h => ⟨?_, hI⟩)
      obtain rfl : i = 1 := by omega
      exact hH.2.1.symm
    · refine j_swt (65) 66 rfl (by rw [hsw]; rfl) (by decide) ?_
      refine j_aload_n (pc := 66) dX11_count_66 rfl ?_
      refine j_getR (pc := 67) f_X11_10 dX11_count_67 rfl rfl (by decide) rfl ?_
      refine j_getI (pc := 70) f_X11_157 dX11_count_70 rfl rfl (by decide) ?_
      refine j_reti dX11_count_73 (?_) rfl
      refine c_mcount X _ w _ hw hok (fun h => by omega) (fun i e h => ⟨?_, hI⟩)
      obtain rfl : i = 2 := by omega
      exact u3.2.1.symm
    · refine j_swt (73) 74 rfl (by rw [hsw]; rfl) (by decide) ?_
      refine j_aload_n (pc := 74) dX11_count_74 rfl ?_
      refine j_getR (pc := 75) f_X11_10 dX11_count_75 rfl rfl (by decide) rfl ?_
      refine j_getI (pc := 78) f_X11_180 dX11_count_78 rfl rfl (by decide) ?_
      rw [h10]
      refine j_goI (pc := 81) (j_runS k_X11_244 m_J6_bitCount_0f7a4 (c_bitCount X I aw haw32) dX11_count_81 (by decide) rfl rfl (Nat.le_of_ble_eq_true rfl)) (fun r4 I4 h4 => ?_)
      obtain ⟨rfl, rfl⟩ := h4
      refine j_reti dX11_count_84 (?_) rfl
      refine c_mcount X _ w _ hw hok (fun h => by omega) (fun i e h => ⟨?_, hI⟩)
      obtain rfl : i = 3 := by omega
      show ((pop5 (I4 106 1).toNat : Nat) : Int) = (pop5 aw : Int)
      rw [haw, Int.toNat_natCast]
    · refine j_swt (84) 85 rfl (by rw [hsw]; rfl) (by decide) ?_
      refine j_aload_n (pc := 85) dX11_count_85 rfl ?_
      refine j_getR (pc := 86) f_X11_10 dX11_count_86 rfl rfl (by decide) rfl ?_
      refine j_getI (pc := 89) f_X11_219 dX11_count_89 rfl rfl (by decide) ?_
      refine j_reti dX11_count_92 (?_) rfl
      refine c_mcount X _ w _ hw hok (fun h => by omega) (fun i e h => ⟨?_, hI⟩)
      obtain rfl : i = 4 := by omega
      exact u3.2.2.2.2.1.symm
    · refine j_swt (92) 93 rfl (by rw [hsw]; rfl) (by decide) ?_
      refine j_aload_n (pc := 93) dX11_count_93 rfl ?_
      refine j_getR (pc := 94) f_X11_10 dX11_count_94 rfl rfl (by decide) rfl ?_
      refine j_getI (pc := 97) f_X11_96 dX11_count_97 rfl rfl (by decide) ?_
      refine j_reti dX11_count_100 (?_) rfl
      refine c_mcount X _ w _ hw hok (fun h => by omega) (fun i e h => ⟨?_, hI⟩)
      obtain rfl : i = 5 := by omega
      exact (u3.2.2.2.1.trans u1.symm).symm
    · refine j_swt (100) 101 rfl (by rw [hsw]; rfl) (by decide) ?_
      refine j_aload_n (pc := 101) dX11_count_101 rfl ?_
      refine j_getR (pc := 102) f_X11_27 dX11_count_102 rfl rfl (by decide) rfl ?_
      refine j_getI (pc := 105) f_X11_125 dX11_count_105 rfl rfl (by decide) ?_
      refine j_reti dX11_count_108 (?_) rfl
      refine c_mcount X _ w _ hw hok (fun h => by omega) (fun i e h => ⟨?_, hI⟩)
      obtain rfl : i = 6 := by omega
      exact (t2.trans t3.symm).symm
set_option maxHeartbeats 1000000 in
theorem o_digest (X : jX) (I : jMI) (hI : Inv I) : C_X11_digest X [jR 0] I (fun v I1 => C_X12_digest X [jR 105] I1 (fun v' I2 => v' = v ∧ Inv I2)) := by
  refine CG.of (by decide) [some (jR 0), none, none, none] rfl (Nat.le_of_ble_eq_true rfl) ?_
  have hok := hI.ok
  have hH := hI.hR
  obtain ⟨u, u1, u2, u3⟩ := hI.1
  obtain ⟨n, t1, t2, t3, -⟩ := hI.2.1
  obtain ⟨c1, c2⟩ := hI.2.2.1
  have hu8 := u2.2.1
  have hcr : ∀ k, k ≤ 6 → -1 ≤ cnt I k ∧ cnt I k ≤ 150 := by
    intro k hk
    have a5 := okSt_any hok (k := 5) (by omega)
    have a21 := okSt_any hok (k := 21) (by omega)
    have a0 := okSt_any hok (k := 0) (by omega)
    have a52 := okSt_any hok (k := 52) (by omega)
    have ap := pop5_le (I 106 1).toNat
    unfold cnt
    repeat' split
    all_goals omega
  have key : ∀ (k : Nat), k ≤ 7 → S_X11_digest X 6 [some (jR 0), some (jL (fo (cnt I) 1103 k)), none, some (jI k)] [] I (fun v I1 => C_X12_digest X [jR 105] I1 (fun v' I2 => v' = v ∧ Inv I2)) := by
    refine mu1 (fun k => 7 - k) _ (fun k ih hk => ?_)
    refine j_iload_n (pc := 6) dX11_digest_6 rfl ?_
    refine j_bipush (pc := 7) dX11_digest_7 (by decide) ?_
    refine j_icmp_gt (pc := 9) 31 dX11_digest_9 (by decide) (by omega) (by omega) (fun h_9 => ?_) (fun h_9 => ?_)
    · obtain rfl : k = 7 := by omega
      refine j_aload_n (pc := 31) dX11_digest_31 rfl ?_
      refine j_getR (pc := 32) f_X11_10 dX11_digest_32 rfl rfl (by decide) rfl ?_
      refine j_getR (pc := 35) f_X11_63 dX11_digest_35 rfl rfl (by decide) rfl ?_
      refine j_lload_n (pc := 38) dX11_digest_38 rfl ?_
      refine j_goL (pc := 39) (j_runV k_X11_277 m_X2_foldStairs (c_foldStairs X I (I 106) (fo (cnt I) 1103 7) hH hok) dX11_digest_39 rfl (by decide) rfl (by decide) (by decide) rfl rfl (Nat.le_of_ble_eq_true rfl)) (fun r2 I2 h2 => ?_)
      obtain ⟨rfl, rfl⟩ := h2
      refine j_lstore_n1 (pc := 42) dX11_digest_42 (by decide) rfl ?_
      refine j_aload_n (pc := 43) dX11_digest_43 rfl ?_
      refine j_getR (pc := 44) f_X11_10 dX11_digest_44 rfl rfl (by decide) rfl ?_
      refine j_lload_n (pc := 47) dX11_digest_47 rfl ?_
      refine j_goL (pc := 48) (j_runV k_X11_281 m_X4_foldSleepersAndPupils (c_foldSl X I2 (I2 106) (I2 111) u _ u3 hok) dX11_digest_48 rfl (by decide) rfl (by decide) (by decide) rfl rfl (Nat.le_of_ble_eq_true rfl)) (fun r3 I3 h3 => ?_)
      obtain ⟨rfl, rfl⟩ := h3
      refine j_lstore_n1 (pc := 51) dX11_digest_51 (by decide) rfl ?_
      refine j_aload_n (pc := 52) dX11_digest_52 rfl ?_
      refine j_getR (pc := 53) f_X11_10 dX11_digest_53 rfl rfl (by decide) rfl ?_
      refine j_getR (pc := 56) f_X11_63 dX11_digest_56 rfl rfl (by decide) rfl ?_
      refine j_lload_n (pc := 59) dX11_digest_59 rfl ?_
      refine j_goL (pc := 60) (j_runV k_X11_284 m_X2_foldThings (c_foldThings X I3 (I3 106) _ hH hok) dX11_digest_60 rfl (by decide) rfl (by decide) (by decide) rfl rfl (Nat.le_of_ble_eq_true rfl)) (fun r4 I4 h4 => ?_)
      obtain ⟨rfl, rfl⟩ := h4
      refine j_lstore_n1 (pc := 63) dX11_digest_63 (by decide) rfl ?_
      refine j_aload_n (pc := 64) dX11_digest_64 rfl ?_
      refine j_getR (pc := 65) f_X11_10 dX11_digest_65 rfl rfl (by decide) rfl ?_
      refine j_lload_n (pc := 68) dX11_digest_68 rfl ?_
      refine j_goL (pc := 69) (j_runV k_X11_287 m_X4_foldHeard (c_foldHd X I4 (I4 106) (I4 111) u _ u3 hok) dX11_digest_69 rfl (by decide) rfl (by decide) (by decide) rfl rfl (Nat.le_of_ble_eq_true rfl)) (fun r5 I5 h5 => ?_)
      obtain ⟨rfl, rfl⟩ := h5
      refine j_lstore_n1 (pc := 72) dX11_digest_72 (by decide) rfl ?_
      refine j_ldc2 (pc := 73) cl_X11_272 dX11_digest_73 ?_
      refine j_lload_n (pc := 76) dX11_digest_76 rfl ?_
      refine j_lmul (pc := 77) dX11_digest_77 ?_
      refine j_aload_n (pc := 78) dX11_digest_78 rfl ?_
      refine j_getL (pc := 79) f_X11_56 dX11_digest_79 rfl rfl (by decide) ?_
      rw [c1]
      refine j_ladd (pc := 82) dX11_digest_82 ?_
      refine j_lstore_n1 (pc := 83) dX11_digest_83 (by decide) rfl ?_
      refine j_ldc2 (pc := 84) cl_X11_272 dX11_digest_84 ?_
      refine j_lload_n (pc := 87) dX11_digest_87 rfl ?_
      refine j_lmul (pc := 88) dX11_digest_88 ?_
      refine j_aload_n (pc := 89) dX11_digest_89 rfl ?_
      refine j_getL (pc := 90) f_X11_60 dX11_digest_90 rfl rfl (by decide) ?_
      rw [c2]
      refine j_ladd (pc := 93) dX11_digest_93 ?_
      refine j_retl dX11_digest_94 (?_) rfl
      exact c_mdigest X _ _ hok (by omega) (by omega) ⟨rfl, hI⟩
    · refine j_ldc2 (pc := 12) cl_X11_272 dX11_digest_12 ?_
      refine j_lload_n (pc := 15) dX11_digest_15 rfl ?_
      refine j_lmul (pc := 16) dX11_digest_16 ?_
      refine j_aload_n (pc := 17) dX11_digest_17 rfl ?_
      refine j_iload_n (pc := 18) dX11_digest_18 rfl ?_
      refine j_goI (pc := 19) (j_runV k_X11_274 m_X11_count (c_xcnt X I k hI (by omega)) dX11_digest_19 rfl (by decide) rfl (by decide) (by decide) rfl rfl (Nat.le_of_ble_eq_true rfl)) (fun r1 I1 h1 => ?_)
      obtain ⟨rfl, rfl⟩ := h1
      have hcc := hcr k (by omega)
      refine j_i2l (pc := 22) dX11_digest_22 (by omega) ?_
      refine j_ladd (pc := 23) dX11_digest_23 ?_
      refine j_lstore_n1 (pc := 24) dX11_digest_24 (by decide) rfl ?_
      refine j_iinc3 (pc := 25) dX11_digest_25 (by decide) rfl ?_
      refine j_goto (pc := 28) 6 dX11_digest_28 (by decide) ?_
      exact ih (k + 1) (by omega) (by omega)
  refine j_ldc2 (pc := 0) cl_X11_270 dX11_digest_0 ?_
  refine j_lstore_n1 (pc := 3) dX11_digest_3 (by decide) rfl ?_
  refine j_iconst (pc := 4) dX11_digest_4 ?_
  refine j_istore_n3 (pc := 5) dX11_digest_5 (by decide) rfl ?_
  exact key 0 (by omega)
