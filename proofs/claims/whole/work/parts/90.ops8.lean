/-! ===== one call of both: images ===== -/
theorem cpFr_lt {s d : Nat → Int} {o n j : Nat} (h : j < n) : cpFr s d o n j = s (o + j) := by unfold cpFr; rw [if_pos h]
theorem cpTo_in {s d : Nat → Int} {o n j : Nat} (h : j < n) : cpTo s d o n (o + j) = s j := by unfold cpTo; rw [if_pos (by omega), show o + j - o = j by omega]
theorem cpTo_out {s d : Nat → Int} {o n j : Nat} (h : j < o ∨ o + n ≤ j) : cpTo s d o n j = d j := by unfold cpTo; rw [if_neg (by omega)]
/-- what an image is, on both sides: number 0 -/
theorem Inv_im0 {I I1 : jMI} (hI : Inv I) (hc : nCp I I1 1 27) : Inv (mImg (jSf I1 77 (jU (I1 77) 0 1)) 0) := by
  obtain ⟨⟨u, u1, u2, u3⟩, ⟨n, t1, t2, t3, t4, t5⟩, ⟨c1, c2⟩, ⟨d1, d2, d3⟩, e1, e2⟩ := hI
  have z1 : ∀ z, ¬ (27 ≤ z ∧ z ≤ 27 + 24) → I1 z = I z := fun z hz => nCp_fr hc hz
  have hN := nR_cp u3 u2.1 u2.2.1 hc
  generalize hI2 : mImg (jSf I1 77 (jU (I1 77) 0 1)) 0 = I2
  have y77 : I2 77 = jU (I 77) 0 1 := by rw [← hI2]; unfold mImg; rw [jSf_n (by omega), jSf_n (by omega), jSf_n (by omega), jSf_n (by omega), jSf_s, z1 77 (by omega)]
  have y120 : I2 120 = jU (I 120) 0 1 := by rw [← hI2]; unfold mImg; rw [jSf_s, jSf_n (by omega), z1 120 (by omega)]
  have y123 : I2 123 = jU (I 123) 0 (I 105 16) := by rw [← hI2]; unfold mImg; rw [jSf_n (by omega), jSf_s, jSf_n (by omega), jSf_n (by omega), z1 123 (by omega), z1 105 (by omega)]
  have y122 : I2 122 = cpTo (I 111) (I 122) (40 * 0) 40 := by rw [← hI2]; unfold mImg; rw [jSf_n (by omega), jSf_n (by omega), jSf_s, jSf_n (by omega), jSf_n (by omega), z1 111 (by omega), z1 122 (by omega)]
  have y121 : I2 121 = cpTo (I 106) (I 121) (99 * 0) 99 := by rw [← hI2]; unfold mImg; rw [jSf_n (by omega), jSf_n (by omega), jSf_n (by omega), jSf_s, jSf_n (by omega), jSf_n (by omega), z1 106 (by omega), z1 121 (by omega)]
  have yz : ∀ z, z ≠ 77 → z ≠ 120 → z ≠ 121 → z ≠ 122 → z ≠ 123 → I2 z = I1 z := fun z a b c d e => by rw [← hI2]; unfold mImg; rw [jSf_n b, jSf_n e, jSf_n d, jSf_n c, jSf_n a]
  have yy : ∀ z, z ≠ 77 → z ≠ 120 → z ≠ 121 → z ≠ 122 → z ≠ 123 → ¬ (27 ≤ z ∧ z ≤ 27 + 24) → I2 z = I z := fun z a b c d e f => (yz z a b c d e).trans (z1 z f)
  have x0 := yy 0 (by omega) (by omega) (by omega) (by omega) (by omega) (by omega)
  have x105 := yy 105 (by omega) (by omega) (by omega) (by omega) (by omega) (by omega)
  have x106 := yy 106 (by omega) (by omega) (by omega) (by omega) (by omega) (by omega)
  have x107 := yy 107 (by omega) (by omega) (by omega) (by omega) (by omega) (by omega)
  have x108 := yy 108 (by omega) (by omega) (by omega) (by omega) (by omega) (by omega)
  have x111 := yy 111 (by omega) (by omega) (by omega) (by omega) (by omega) (by omega)
  have x78 := yy 78 (by omega) (by omega) (by omega) (by omega) (by omega) (by omega)
  have x79 := yy 79 (by omega) (by omega) (by omega) (by omega) (by omega) (by omega)
  have im : imR I2 0 27 := by
    refine ⟨by rw [y77, y120, jU_s, jU_s], Or.inr ⟨by rw [y120, jU_s], I 106, I 111, u, fun j hj => by rw [y121, cpTo_in hj], fun j hj => by rw [y122, cpTo_in hj], by rw [y123, jU_s]; exact u1, u2, nR_fr hN (fun z q => yz z (by omega) (by omega) (by omega) (by omega) (by omega))⟩⟩
  have io : imR I2 1 52 := by
    refine imR_fr (I := I) (by first | exact e1 | exact e2) (by rw [y77, jU_n (by omega)]) (by rw [y120, jU_n (by omega)]) (fun j hj => by rw [y121, cpTo_out (by omega)]) (fun j hj => by rw [y122, cpTo_out (by omega)]) (by rw [y123, jU_n (by omega)]) (fun z a b => yy z (by omega) (by omega) (by omega) (by omega) (by omega) (by omega))
  refine ⟨⟨u, by rw [x105]; exact u1, by rw [x106, x111]; exact u2, by rw [x106, x111]; exact nR_fr u3 (fun z q => yy z (by omega) (by omega) (by omega) (by omega) (by omega) (by omega))⟩, ⟨n, t1, by rw [x78]; exact t2, by rw [x105]; exact t3, by rw [x79, x108]; exact t4, by rw [x108]; exact t5⟩, ⟨by rw [x0, x105]; exact c1, by rw [x0, x105]; exact c2⟩, ⟨by rw [x0, x107]; exact d1, by rw [x0, x107]; exact d2, by rw [x0, x107]; exact d3⟩, ?_, ?_⟩
  · first | exact im | exact io
  · first | exact im | exact io
theorem Inv_fr0 {I I1 : jMI} (hI : Inv I) (h1 : I 120 0 = 1) (hc : nCp I I1 27 1) : Inv (mFro I1 0) := by
  have him : imR I 0 27 := by first | exact hI.2.2.2.2.1 | exact hI.2.2.2.2.2
  obtain ⟨-, hz | ⟨-, f, ah, u, a1, a2, a3, a4, a5⟩⟩ := him
  · omega
  have z1 : ∀ z, ¬ (1 ≤ z ∧ z ≤ 1 + 24) → I1 z = I z := fun z hz => nCp_fr hc hz
  have hN := nR_cp a5 a4.1 a4.2.1 hc
  generalize hI2 : mFro I1 0 = I2
  have y105 : I2 105 = jU (I 105) 16 (I 123 0) := by rw [← hI2]; unfold mFro; rw [jSf_s, z1 105 (by omega), z1 123 (by omega)]
  have y111 : I2 111 = cpFr (I 122) (I 111) (40 * 0) 40 := by rw [← hI2]; unfold mFro; rw [jSf_n (by omega), jSf_s, z1 122 (by omega), z1 111 (by omega)]
  have y106 : I2 106 = cpFr (I 121) (I 106) (99 * 0) 99 := by rw [← hI2]; unfold mFro; rw [jSf_n (by omega), jSf_n (by omega), jSf_s, z1 121 (by omega), z1 106 (by omega)]
  have yz : ∀ z, z ≠ 105 → z ≠ 106 → z ≠ 111 → I2 z = I1 z := fun z a b c => by rw [← hI2]; unfold mFro; rw [jSf_n a, jSf_n c, jSf_n b]
  have hf : ∀ k, k < 99 → f k = I2 106 k := fun k hk => by rw [y106, cpFr_lt hk]; exact a1 k hk
  have ha : ∀ k, k < 40 → ah k = I2 111 k := fun k hk => by rw [y111, cpFr_lt hk]; exact a2 k hk
  refine Inv_g hI (I1 := I1) (u' := u) (fun z q => z1 z (by omega)) (nR_99 hN a4.1 hf a4.2.1 ha) (fun z q1 q2 => yz z q1 (by omega) (by omega)) (by rw [y105, jU_s]; exact a3) (fun j hj => by rw [y105, jU_n hj, z1 105 (by omega)]) (nOK_99 a4 hf ha)
/-- what an image is, on both sides: number 1 -/
theorem Inv_im1 {I I1 : jMI} (hI : Inv I) (hc : nCp I I1 1 52) : Inv (mImg (jSf I1 77 (jU (I1 77) 1 1)) 1) := by
  obtain ⟨⟨u, u1, u2, u3⟩, ⟨n, t1, t2, t3, t4, t5⟩, ⟨c1, c2⟩, ⟨d1, d2, d3⟩, e1, e2⟩ := hI
  have z1 : ∀ z, ¬ (52 ≤ z ∧ z ≤ 52 + 24) → I1 z = I z := fun z hz => nCp_fr hc hz
  have hN := nR_cp u3 u2.1 u2.2.1 hc
  generalize hI2 : mImg (jSf I1 77 (jU (I1 77) 1 1)) 1 = I2
  have y77 : I2 77 = jU (I 77) 1 1 := by rw [← hI2]; unfold mImg; rw [jSf_n (by omega), jSf_n (by omega), jSf_n (by omega), jSf_n (by omega), jSf_s, z1 77 (by omega)]
  have y120 : I2 120 = jU (I 120) 1 1 := by rw [← hI2]; unfold mImg; rw [jSf_s, jSf_n (by omega), z1 120 (by omega)]
  have y123 : I2 123 = jU (I 123) 1 (I 105 16) := by rw [← hI2]; unfold mImg; rw [jSf_n (by omega), jSf_s, jSf_n (by omega), jSf_n (by omega), z1 123 (by omega), z1 105 (by omega)]
  have y122 : I2 122 = cpTo (I 111) (I 122) (40 * 1) 40 := by rw [← hI2]; unfold mImg; rw [jSf_n (by omega), jSf_n (by omega), jSf_s, jSf_n (by omega), jSf_n (by omega), z1 111 (by omega), z1 122 (by omega)]
  have y121 : I2 121 = cpTo (I 106) (I 121) (99 * 1) 99 := by rw [← hI2]; unfold mImg; rw [jSf_n (by omega), jSf_n (by omega), jSf_n (by omega), jSf_s, jSf_n (by omega), jSf_n (by omega), z1 106 (by omega), z1 121 (by omega)]
  have yz : ∀ z, z ≠ 77 → z ≠ 120 → z ≠ 121 → z ≠ 122 → z ≠ 123 → I2 z = I1 z := fun z a b c d e => by rw [← hI2]; unfold mImg; rw [jSf_n b, jSf_n e, jSf_n d, jSf_n c, jSf_n a]
  have yy : ∀ z, z ≠ 77 → z ≠ 120 → z ≠ 121 → z ≠ 122 → z ≠ 123 → ¬ (52 ≤ z ∧ z ≤ 52 + 24) → I2 z = I z := fun z a b c d e f => (yz z a b c d e).trans (z1 z f)
  have x0 := yy 0 (by omega) (by omega) (by omega) (by omega) (by omega) (by omega)
  have x105 := yy 105 (by omega) (by omega) (by omega) (by omega) (by omega) (by omega)
  have x106 := yy 106 (by omega) (by omega) (by omega) (by omega) (by omega) (by omega)
  have x107 := yy 107 (by omega) (by omega) (by omega) (by omega) (by omega) (by omega)
  have x108 := yy 108 (by omega) (by omega) (by omega) (by omega) (by omega) (by omega)
  have x111 := yy 111 (by omega) (by omega) (by omega) (by omega) (by omega) (by omega)
  have x78 := yy 78 (by omega) (by omega) (by omega) (by omega) (by omega) (by omega)
  have x79 := yy 79 (by omega) (by omega) (by omega) (by omega) (by omega) (by omega)
  have im : imR I2 1 52 := by
    refine ⟨by rw [y77, y120, jU_s, jU_s], Or.inr ⟨by rw [y120, jU_s], I 106, I 111, u, fun j hj => by rw [y121, cpTo_in hj], fun j hj => by rw [y122, cpTo_in hj], by rw [y123, jU_s]; exact u1, u2, nR_fr hN (fun z q => yz z (by omega) (by omega) (by omega) (by omega) (by omega))⟩⟩
  have io : imR I2 0 27 := by
    refine imR_fr (I := I) (by first | exact e1 | exact e2) (by rw [y77, jU_n (by omega)]) (by rw [y120, jU_n (by omega)]) (fun j hj => by rw [y121, cpTo_out (by omega)]) (fun j hj => by rw [y122, cpTo_out (by omega)]) (by rw [y123, jU_n (by omega)]) (fun z a b => yy z (by omega) (by omega) (by omega) (by omega) (by omega) (by omega))
  refine ⟨⟨u, by rw [x105]; exact u1, by rw [x106, x111]; exact u2, by rw [x106, x111]; exact nR_fr u3 (fun z q => yy z (by omega) (by omega) (by omega) (by omega) (by omega) (by omega))⟩, ⟨n, t1, by rw [x78]; exact t2, by rw [x105]; exact t3, by rw [x79, x108]; exact t4, by rw [x108]; exact t5⟩, ⟨by rw [x0, x105]; exact c1, by rw [x0, x105]; exact c2⟩, ⟨by rw [x0, x107]; exact d1, by rw [x0, x107]; exact d2, by rw [x0, x107]; exact d3⟩, ?_, ?_⟩
  · first | exact im | exact io
  · first | exact im | exact io
theorem Inv_fr1 {I I1 : jMI} (hI : Inv I) (h1 : I 120 1 = 1) (hc : nCp I I1 52 1) : Inv (mFro I1 1) := by
  have him : imR I 1 52 := by first | exact hI.2.2.2.2.1 | exact hI.2.2.2.2.2
  obtain ⟨-, hz | ⟨-, f, ah, u, a1, a2, a3, a4, a5⟩⟩ := him
  · omega
  have z1 : ∀ z, ¬ (1 ≤ z ∧ z ≤ 1 + 24) → I1 z = I z := fun z hz => nCp_fr hc hz
  have hN := nR_cp a5 a4.1 a4.2.1 hc
  generalize hI2 : mFro I1 1 = I2
  have y105 : I2 105 = jU (I 105) 16 (I 123 1) := by rw [← hI2]; unfold mFro; rw [jSf_s, z1 105 (by omega), z1 123 (by omega)]
  have y111 : I2 111 = cpFr (I 122) (I 111) (40 * 1) 40 := by rw [← hI2]; unfold mFro; rw [jSf_n (by omega), jSf_s, z1 122 (by omega), z1 111 (by omega)]
  have y106 : I2 106 = cpFr (I 121) (I 106) (99 * 1) 99 := by rw [← hI2]; unfold mFro; rw [jSf_n (by omega), jSf_n (by omega), jSf_s, z1 121 (by omega), z1 106 (by omega)]
  have yz : ∀ z, z ≠ 105 → z ≠ 106 → z ≠ 111 → I2 z = I1 z := fun z a b c => by rw [← hI2]; unfold mFro; rw [jSf_n a, jSf_n c, jSf_n b]
  have hf : ∀ k, k < 99 → f k = I2 106 k := fun k hk => by rw [y106, cpFr_lt hk]; exact a1 k hk
  have ha : ∀ k, k < 40 → ah k = I2 111 k := fun k hk => by rw [y111, cpFr_lt hk]; exact a2 k hk
  refine Inv_g hI (I1 := I1) (u' := u) (fun z q => z1 z (by omega)) (nR_99 hN a4.1 hf a4.2.1 ha) (fun z q1 q2 => yz z q1 (by omega) (by omega)) (by rw [y105, jU_s]; exact a3) (fun j hj => by rw [y105, jU_n hj, z1 105 (by omega)]) (nOK_99 a4 hf ha)
set_option maxHeartbeats 1000000 in
theorem o_image (X : jX) (I : jMI) (w : Int) (hI : Inv I) (hw : -2147483648 ≤ w ∧ w < 2147483648) : C_X11_image X [jR 0, jI w] I (fun v I1 => C_X12_image X [jR 105, jI w] I1 (fun v' I2 => v' = v ∧ Inv I2)) := by
  refine CG.of (by decide) [some (jR 0), some (jI w)] rfl (Nat.le_of_ble_eq_true rfl) ?_
  have k0 : w = 0 → ∀ J, Inv J → S_X11_image X 15 [some (jR 0), some (jI w)] [] J (fun v I1 => C_X12_image X [jR 105, jI w] I1 (fun v' I2 => v' = v ∧ Inv I2)) := by
    intro hwi J hJ
    subst hwi
    refine j_aload_n (pc := 15) dX11_image_15 rfl ?_
    refine j_getR (pc := 16) f_X11_16 dX11_image_16 rfl rfl (by decide) rfl ?_
    refine j_iload_n (pc := 19) dX11_image_19 rfl ?_
    refine j_aald (pc := 20) 5 dX11_image_20 rfl rfl (by decide) (by omega) (rfl) (by decide) ?_
    refine j_aload_n (pc := 21) dX11_image_21 rfl ?_
    refine j_getR (pc := 22) f_X11_10 dX11_image_22 rfl rfl (by decide) rfl ?_
    refine j_goV (pc := 25) (j_runV k_X11_259 m_X4_copyFrom (c_nCp_1_27 X J) dX11_image_25 rfl (by decide) rfl (by decide) (by decide) rfl rfl (Nat.le_of_ble_eq_true rfl)) (fun I1 h1 => ?_)
    refine j_aload_n (pc := 28) dX11_image_28 rfl ?_
    refine j_getR (pc := 29) f_X11_20 dX11_image_29 rfl rfl (by decide) rfl ?_
    refine j_iload_n (pc := 32) dX11_image_32 rfl ?_
    refine j_iconst (pc := 33) dX11_image_33 ?_
    refine j_zast_b (pc := 34) (0) dX11_image_34 rfl (by decide) (by decide) (by decide) (by omega) (by omega) ?_
    refine j_iconst (pc := 35) dX11_image_35 ?_
    refine j_reti dX11_image_36 (?_) rfl
    refine c_mimage X _ _ _ hw (fun h => by omega) (fun i e h => ⟨rfl, ?_⟩)
    obtain rfl : i = 0 := by omega
    exact Inv_im0 hJ h1
  have k1 : w = 1 → ∀ J, Inv J → S_X11_image X 15 [some (jR 0), some (jI w)] [] J (fun v I1 => C_X12_image X [jR 105, jI w] I1 (fun v' I2 => v' = v ∧ Inv I2)) := by
    intro hwi J hJ
    subst hwi
    refine j_aload_n (pc := 15) dX11_image_15 rfl ?_
    refine j_getR (pc := 16) f_X11_16 dX11_image_16 rfl rfl (by decide) rfl ?_
    refine j_iload_n (pc := 19) dX11_image_19 rfl ?_
    refine j_aald (pc := 20) 5 dX11_image_20 rfl rfl (by decide) (by omega) (rfl) (by decide) ?_
    refine j_aload_n (pc := 21) dX11_image_21 rfl ?_
    refine j_getR (pc := 22) f_X11_10 dX11_image_22 rfl rfl (by decide) rfl ?_
    refine j_goV (pc := 25) (j_runV k_X11_259 m_X4_copyFrom (c_nCp_1_52 X J) dX11_image_25 rfl (by decide) rfl (by decide) (by decide) rfl rfl (Nat.le_of_ble_eq_true rfl)) (fun I1 h1 => ?_)
    refine j_aload_n (pc := 28) dX11_image_28 rfl ?_
    refine j_getR (pc := 29) f_X11_20 dX11_image_29 rfl rfl (by decide) rfl ?_
    refine j_iload_n (pc := 32) dX11_image_32 rfl ?_
    refine j_iconst (pc := 33) dX11_image_33 ?_
    refine j_zast_b (pc := 34) (1) dX11_image_34 rfl (by decide) (by decide) (by decide) (by omega) (by omega) ?_
    refine j_iconst (pc := 35) dX11_image_35 ?_
    refine j_reti dX11_image_36 (?_) rfl
    refine c_mimage X _ _ _ hw (fun h => by omega) (fun i e h => ⟨rfl, ?_⟩)
    obtain rfl : i = 1 := by omega
    exact Inv_im1 hJ h1
  refine j_iload_n (pc := 0) dX11_image_0 rfl ?_
  refine j_iconst (pc := 1) dX11_image_1 ?_
  refine j_goI (pc := 2) (j_runS k_X11_80 m_X11_within (c_xin X I w 1 hw (by omega)) dX11_image_2 (by decide) rfl rfl (Nat.le_of_ble_eq_true rfl)) (fun r1 I1 h1 => ?_)
  obtain ⟨h1, rfl⟩ := h1
  refine j_if_ne (pc := 5) 15 dX11_image_5 (by decide) (by omega) (fun h_5 => ?_) (fun h_5 => ?_)
  · rcases (show w = 0 ∨ w = 1 by omega) with h | h
    · exact k0 h _ hI
    · exact k1 h _ hI
  · refine j_aload_n (pc := 8) dX11_image_8 rfl ?_
    refine j_bipush (pc := 9) dX11_image_9 (by decide) ?_
    refine j_goI (pc := 11) (j_runV k_X11_84 m_X11_refuseBad (c_xbad X _ (-2)) dX11_image_11 rfl (by decide) rfl (by decide) (by decide) rfl rfl (Nat.le_of_ble_eq_true rfl)) (fun r4 I4 h4 => ?_)
    obtain ⟨rfl, rfl⟩ := h4
    refine j_reti dX11_image_14 (?_) rfl
    exact c_mimage X _ w _ hw (fun _ => ⟨rfl, Inv_ref hI (by omega)⟩) (fun i e h => by omega)
theorem Inv.im {I : jMI} (hI : Inv I) : ∀ i, i < 2 → (I 120 i = 0 ∨ I 120 i = 1) ∧ I 77 i = I 120 i := by
  intro i hi
  rcases (show i = 0 ∨ i = 1 by omega) with rfl | rfl
  · obtain ⟨h1, h2⟩ := hI.2.2.2.2.1
    exact ⟨h2.imp id (fun h => h.1), h1⟩
  · obtain ⟨h1, h2⟩ := hI.2.2.2.2.2
    exact ⟨h2.imp id (fun h => h.1), h1⟩
set_option maxHeartbeats 1000000 in
theorem o_from (X : jX) (I : jMI) (w : Int) (hI : Inv I) (hw : -2147483648 ≤ w ∧ w < 2147483648) : C_X11_from X [jR 0, jI w] I (fun v I1 => C_X12_from X [jR 105, jI w] I1 (fun v' I2 => v' = v ∧ Inv I2)) := by
  refine CG.of (by decide) [some (jR 0), some (jI w)] rfl (Nat.le_of_ble_eq_true rfl) ?_
  have k0 : w = 0 → ∀ J, Inv J → J 120 0 = 1 → S_X11_from X 29 [some (jR 0), some (jI w)] [] J (fun v I1 => C_X12_from X [jR 105, jI w] I1 (fun v' I2 => v' = v ∧ Inv I2)) := by
    intro hwi J hJ hk
    subst hwi
    refine j_aload_n (pc := 29) dX11_from_29 rfl ?_
    refine j_getR (pc := 30) f_X11_10 dX11_from_30 rfl rfl (by decide) rfl ?_
    refine j_aload_n (pc := 33) dX11_from_33 rfl ?_
    refine j_getR (pc := 34) f_X11_16 dX11_from_34 rfl rfl (by decide) rfl ?_
    refine j_iload_n (pc := 37) dX11_from_37 rfl ?_
    refine j_aald (pc := 38) 5 dX11_from_38 rfl rfl (by decide) (by omega) (rfl) (by decide) ?_
    refine j_goV (pc := 39) (j_runV k_X11_259 m_X4_copyFrom (c_nCp_27_1 X J) dX11_from_39 rfl (by decide) rfl (by decide) (by decide) rfl rfl (Nat.le_of_ble_eq_true rfl)) (fun I1 h1 => ?_)
    refine j_iconst (pc := 42) dX11_from_42 ?_
    refine j_reti dX11_from_43 (?_) rfl
    have x120 : I1 120 = J 120 := nCp_fr h1 (by omega)
    refine c_mfrom X _ _ _ hw (fun i hi => by rw [x120]; exact (hJ.im i hi).1) (fun h => by omega) (fun i e h h0 => ?_) (fun i e h h0 => ⟨rfl, ?_⟩)
    · obtain rfl : i = 0 := by omega
      rw [x120] at h0
      omega
    · obtain rfl : i = 0 := by omega
      exact Inv_fr0 hJ hk h1
  have k1 : w = 1 → ∀ J, Inv J → J 120 1 = 1 → S_X11_from X 29 [some (jR 0), some (jI w)] [] J (fun v I1 => C_X12_from X [jR 105, jI w] I1 (fun v' I2 => v' = v ∧ Inv I2)) := by
    intro hwi J hJ hk
    subst hwi
    refine j_aload_n (pc := 29) dX11_from_29 rfl ?_
    refine j_getR (pc := 30) f_X11_10 dX11_from_30 rfl rfl (by decide) rfl ?_
    refine j_aload_n (pc := 33) dX11_from_33 rfl ?_
    refine j_getR (pc := 34) f_X11_16 dX11_from_34 rfl rfl (by decide) rfl ?_
    refine j_iload_n (pc := 37) dX11_from_37 rfl ?_
    refine j_aald (pc := 38) 5 dX11_from_38 rfl rfl (by decide) (by omega) (rfl) (by decide) ?_
    refine j_goV (pc := 39) (j_runV k_X11_259 m_X4_copyFrom (c_nCp_52_1 X J) dX11_from_39 rfl (by decide) rfl (by decide) (by decide) rfl rfl (Nat.le_of_ble_eq_true rfl)) (fun I1 h1 => ?_)
    refine j_iconst (pc := 42) dX11_from_42 ?_
    refine j_reti dX11_from_43 (?_) rfl
    have x120 : I1 120 = J 120 := nCp_fr h1 (by omega)
    refine c_mfrom X _ _ _ hw (fun i hi => by rw [x120]; exact (hJ.im i hi).1) (fun h => by omega) (fun i e h h0 => ?_) (fun i e h h0 => ⟨rfl, ?_⟩)
    · obtain rfl : i = 1 := by omega
      rw [x120] at h0
      omega
    · obtain rfl : i = 1 := by omega
      exact Inv_fr1 hJ hk h1
  refine j_iload_n (pc := 0) dX11_from_0 rfl ?_
  refine j_iconst (pc := 1) dX11_from_1 ?_
  refine j_goI (pc := 2) (j_runS k_X11_80 m_X11_within (c_xin X I w 1 hw (by omega)) dX11_from_2 (by decide) rfl rfl (Nat.le_of_ble_eq_true rfl)) (fun r1 I1 h1 => ?_)
  obtain ⟨h1, rfl⟩ := h1
  refine j_if_ne (pc := 5) 15 dX11_from_5 (by decide) (by omega) (fun h_5 => ?_) (fun h_5 => ?_)
  · obtain ⟨j, rfl⟩ := Int.eq_ofNat_of_zero_le (show 0 ≤ w by omega)
    obtain ⟨j1, j2⟩ := hI.im j (by omega)
    refine j_aload_n (pc := 15) dX11_from_15 rfl ?_
    refine j_getR (pc := 16) f_X11_20 dX11_from_16 rfl rfl (by decide) rfl ?_
    refine j_iload_n (pc := 19) dX11_from_19 rfl ?_
    refine j_zald_b (pc := 20) (j) dX11_from_20 rfl (by decide) (by decide) (by omega) (by omega) ?_
    rw [show I1 77 j = I1 120 j from j2]
    refine j_if_ne (pc := 21) 29 dX11_from_21 (by decide) (by omega) (fun h_21 => ?_) (fun h_21 => ?_)
    · rcases (show j = 0 ∨ j = 1 by omega) with h | h
      · subst h
        exact k0 rfl _ hI (by omega)
      · subst h
        exact k1 rfl _ hI (by omega)
    · refine j_aload_n (pc := 24) dX11_from_24 rfl ?_
      refine j_goI (pc := 25) (j_runV k_X11_148 m_X11_refuseNo (c_xno X _) dX11_from_25 rfl (by decide) rfl (by decide) (by decide) rfl rfl (Nat.le_of_ble_eq_true rfl)) (fun r5 I5 h5 => ?_)
      obtain ⟨rfl, rfl⟩ := h5
      refine j_reti dX11_from_28 (?_) rfl
      have x120 : cRef I1 1 120 = I1 120 := by unfold cRef; rw [jSf_n (by omega)]
      refine c_mfrom X _ j _ hw (fun i hi => by rw [x120]; exact (hI.im i hi).1) (fun _ => by omega) (fun i e h _ => ⟨rfl, Inv_ref hI (by omega)⟩) (fun i e h h0 => ?_)
      obtain rfl : j = i := by omega
      rw [x120] at h0
      omega
  · refine j_aload_n (pc := 8) dX11_from_8 rfl ?_
    refine j_bipush (pc := 9) dX11_from_9 (by decide) ?_
    refine j_goI (pc := 11) (j_runV k_X11_84 m_X11_refuseBad (c_xbad X _ (-2)) dX11_from_11 rfl (by decide) rfl (by decide) (by decide) rfl rfl (Nat.le_of_ble_eq_true rfl)) (fun r4 I4 h4 => ?_)
    obtain ⟨rfl, rfl⟩ := h4
    refine j_reti dX11_from_14 (?_) rfl
    have x120 : cRef I1 0 120 = I1 120 := by unfold cRef; rw [jSf_n (by omega)]
    exact c_mfrom X _ w _ hw (fun i hi => by rw [x120]; exact (hI.im i hi).1) (fun _ => ⟨rfl, Inv_ref hI (by omega)⟩) (fun i e h _ => by omega) (fun i e h _ => by omega)
