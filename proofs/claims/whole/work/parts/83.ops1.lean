/-! ===== one call of both: what is only asked ===== -/
theorem ok_ref {I : jMI} (h : Inv I) (k : Nat) : okSt (cRef I k 106) := by
  unfold cRef
  rw [jSf_n (by omega)]
  exact h.ok
theorem isLd_uniq {f : Nat → Int} {room : Nat} {mi v w : Int} (h : isLd f room mi v) (h' : isLd f room mi w) : v = w := by
  obtain ⟨a1, a2, a3, a4⟩ := h
  obtain ⟨b1, b2, b3, b4⟩ := h'
  rcases Int.lt_trichotomy v w with q | q | q
  · exact absurd (b3 (by omega)) (a4 w q b2)
  · exact q
  · exact absurd (a3 (by omega)) (b4 v q a2)
theorem isMo_Ld {f : Nat → Int} {room : Nat} {mi v : Int} {S : Nat} (hS : f 5 = S) (h : isMo f room mi S v) : isLd f room mi v := by
  refine ⟨h.1, h.2.1, fun _ => (isMo_W hS h h.2.1).mp (Int.le_refl _), fun n hn hn2 hw => ?_⟩
  have := (isMo_W hS h hn2).mpr hw
  omega
set_option maxHeartbeats 1000000 in
theorem o_far (X : jX) (I : jMI) (a b : Int) (hI : Inv I) (ha : -2147483648 ≤ a ∧ a < 2147483648) (hb : -2147483648 ≤ b ∧ b < 2147483648) : C_X11_far X [jR 0, jI a, jI b] I (fun v I1 => C_X12_far X [jR 105, jI a, jI b] I1 (fun v' I2 => v' = v ∧ Inv I2)) := by
  refine CG.of (by decide) [some (jR 0), some (jI a), some (jI b), none] rfl (Nat.le_of_ble_eq_true rfl) ?_
  have hok := hI.ok
  have hH := hI.hR
  refine j_iload_n (pc := 0) dX11_far_0 rfl ?_
  refine j_goI (pc := 1) (j_runS k_X11_76 m_X11_isRoom (c_xroom X I a ha) dX11_far_1 (by decide) rfl rfl (Nat.le_of_ble_eq_true rfl)) (fun r1 I1 h1 => ?_)
  obtain ⟨h1, rfl⟩ := h1
  refine j_if_eq (pc := 4) 14 dX11_far_4 (by decide) (by omega) (fun h_4 => ?_) (fun h_4 => ?_)
  · refine j_aload_n (pc := 14) dX11_far_14 rfl ?_
    refine j_bipush (pc := 15) dX11_far_15 (by decide) ?_
    refine j_goI (pc := 17) (j_runV k_X11_84 m_X11_refuseBad (c_xbad X _ (-2)) dX11_far_17 rfl (by decide) rfl (by decide) (by decide) rfl rfl (Nat.le_of_ble_eq_true rfl)) (fun r3 I3 h3 => ?_)
    obtain ⟨rfl, rfl⟩ := h3
    refine j_reti dX11_far_20 (?_) rfl
    exact c_mfar X _ a b _ ha hb (ok_ref hI 0) (fun _ => ⟨rfl, Inv_ref hI (by omega)⟩) (fun i j I' e1 e2 h3 h4 _ => by omega)
  · refine j_iload_n (pc := 7) dX11_far_7 rfl ?_
    refine j_goI (pc := 8) (j_runS k_X11_76 m_X11_isRoom (c_xroom X I1 b hb) dX11_far_8 (by decide) rfl rfl (Nat.le_of_ble_eq_true rfl)) (fun r2 I2 h2 => ?_)
    obtain ⟨h2, rfl⟩ := h2
    refine j_if_ne (pc := 11) 21 dX11_far_11 (by decide) (by omega) (fun h_11 => ?_) (fun h_11 => ?_)
    · obtain ⟨i, rfl⟩ := Int.eq_ofNat_of_zero_le (show 0 ≤ a by omega)
      obtain ⟨j, rfl⟩ := Int.eq_ofNat_of_zero_le (show 0 ≤ b by omega)
      refine j_aload_n (pc := 21) dX11_far_21 rfl ?_
      refine j_getR (pc := 22) f_X11_10 dX11_far_22 rfl rfl (by decide) rfl ?_
      refine j_getR (pc := 25) f_X11_63 dX11_far_25 rfl rfl (by decide) rfl ?_
      refine j_getR (pc := 28) f_X11_186 dX11_far_28 rfl rfl (by decide) rfl ?_
      refine j_iload_n (pc := 31) dX11_far_31 rfl ?_
      refine j_iload_n (pc := 32) dX11_far_32 rfl ?_
      refine j_goI (pc := 33) (j_runS k_X11_145 m_X11_pair (c_pair X I2 i j) dX11_far_33 (by decide) rfl rfl (Nat.le_of_ble_eq_true rfl)) (fun r4 I4 h4 => ?_)
      obtain ⟨rfl, rfl⟩ := h4
      refine j_iald_b (pc := 36) (8 * i + j) dX11_far_36 rfl (by decide) (by decide) (by omega) (by omega) ?_
      have hd : isD (edg (I4 106)) i j 100 (I4 11 (8 * i + j)) := hH.2.2.2.1 i j (by omega) (by omega)
      have hdd := isD_uniq (dst_is (I4 106) j (show i < 8 by omega)) hd
      refine j_istore_n3 (pc := 37) dX11_far_37 (by decide) rfl ?_
      refine j_iload_n (pc := 38) dX11_far_38 rfl ?_
      refine j_bipush (pc := 39) dX11_far_39 (by decide) ?_
      refine j_icmp_lt (pc := 41) 48 dX11_far_41 (by decide) (by omega) (by omega) (fun h_41 => ?_) (fun h_41 => ?_)
      · refine j_iload_n (pc := 48) dX11_far_48 rfl ?_
        refine j_reti dX11_far_49 (?_) rfl
        refine c_mfar X _ i j _ ha hb hok (fun h => by omega) (fun i' j' I' e1 e2 h3 h4 hsc => ⟨?_, Inv_sc hI hsc⟩)
        obtain rfl : i = i' := by omega
        obtain rfl : j = j' := by omega
        split <;> omega
      · refine j_iconst (pc := 44) dX11_far_44 ?_
        refine j_goto (pc := 45) 49 dX11_far_45 (by decide) ?_
        refine j_reti dX11_far_49 (?_) rfl
        refine c_mfar X _ i j _ ha hb hok (fun h => by omega) (fun i' j' I' e1 e2 h3 h4 hsc => ⟨?_, Inv_sc hI hsc⟩)
        obtain rfl : i = i' := by omega
        obtain rfl : j = j' := by omega
        split <;> omega
    · refine j_aload_n (pc := 14) dX11_far_14 rfl ?_
      refine j_bipush (pc := 15) dX11_far_15 (by decide) ?_
      refine j_goI (pc := 17) (j_runV k_X11_84 m_X11_refuseBad (c_xbad X _ (-2)) dX11_far_17 rfl (by decide) rfl (by decide) (by decide) rfl rfl (Nat.le_of_ble_eq_true rfl)) (fun r3 I3 h3 => ?_)
      obtain ⟨rfl, rfl⟩ := h3
      refine j_reti dX11_far_20 (?_) rfl
      exact c_mfar X _ a b _ ha hb (ok_ref hI 0) (fun _ => ⟨rfl, Inv_ref hI (by omega)⟩) (fun i j I' e1 e2 h3 h4 _ => by omega)
set_option maxHeartbeats 1000000 in
theorem o_wakes (X : jX) (I : jMI) (n a m : Int) (hI : Inv I) (hn : -2147483648 ≤ n ∧ n < 2147483648) (ha : -2147483648 ≤ a ∧ a < 2147483648) (hm : -2147483648 ≤ m ∧ m < 2147483648) : C_X11_wakes X [jR 0, jI n, jI a, jI m] I (fun v I1 => C_X12_wakes X [jR 105, jI n, jI a, jI m] I1 (fun v' I2 => v' = v ∧ Inv I2)) := by
  refine CG.of (by decide) [some (jR 0), some (jI n), some (jI a), some (jI m)] rfl (Nat.le_of_ble_eq_true rfl) ?_
  have hok := hI.ok
  have hH := hI.hR
  refine j_iload_n (pc := 0) dX11_wakes_0 rfl ?_
  refine j_bipush (pc := 1) dX11_wakes_1 (by decide) ?_
  refine j_goI (pc := 3) (j_runS k_X11_80 m_X11_within (c_xin X I n 30 hn (by omega)) dX11_wakes_3 (by decide) rfl rfl (Nat.le_of_ble_eq_true rfl)) (fun r1 I1 h1 => ?_)
  obtain ⟨h1, rfl⟩ := h1
  refine j_if_eq (pc := 6) 25 dX11_wakes_6 (by decide) (by omega) (fun h_6 => ?_) (fun h_6 => ?_)
  · refine j_aload_n (pc := 25) dX11_wakes_25 rfl ?_
    refine j_bipush (pc := 26) dX11_wakes_26 (by decide) ?_
    refine j_goI (pc := 28) (j_runV k_X11_84 m_X11_refuseBad (c_xbad X _ (-2)) dX11_wakes_28 rfl (by decide) rfl (by decide) (by decide) rfl rfl (Nat.le_of_ble_eq_true rfl)) (fun r4 I4 h4 => ?_)
    obtain ⟨rfl, rfl⟩ := h4
    refine j_reti dX11_wakes_31 (?_) rfl
    exact c_mwakes X _ n a m _ hn ha hm (ok_ref hI 0) (fun _ => ⟨rfl, Inv_ref hI (by omega)⟩) (fun i w I' e1 e2 h5 h6 _ _ => by omega)
  · refine j_iload_n (pc := 9) dX11_wakes_9 rfl ?_
    refine j_goI (pc := 10) (j_runS k_X11_76 m_X11_isRoom (c_xroom X I1 a ha) dX11_wakes_10 (by decide) rfl rfl (Nat.le_of_ble_eq_true rfl)) (fun r2 I2 h2 => ?_)
    obtain ⟨h2, rfl⟩ := h2
    refine j_if_eq (pc := 13) 25 dX11_wakes_13 (by decide) (by omega) (fun h_13 => ?_) (fun h_13 => ?_)
    · refine j_aload_n (pc := 25) dX11_wakes_25 rfl ?_
      refine j_bipush (pc := 26) dX11_wakes_26 (by decide) ?_
      refine j_goI (pc := 28) (j_runV k_X11_84 m_X11_refuseBad (c_xbad X _ (-2)) dX11_wakes_28 rfl (by decide) rfl (by decide) (by decide) rfl rfl (Nat.le_of_ble_eq_true rfl)) (fun r4 I4 h4 => ?_)
      obtain ⟨rfl, rfl⟩ := h4
      refine j_reti dX11_wakes_31 (?_) rfl
      exact c_mwakes X _ n a m _ hn ha hm (ok_ref hI 0) (fun _ => ⟨rfl, Inv_ref hI (by omega)⟩) (fun i w I' e1 e2 h5 h6 _ _ => by omega)
    · refine j_iload_n (pc := 16) dX11_wakes_16 rfl ?_
      refine j_bipush (pc := 17) dX11_wakes_17 (by decide) ?_
      refine j_goI (pc := 19) (j_runS k_X11_80 m_X11_within (c_xin X I2 m 59 hm (by omega)) dX11_wakes_19 (by decide) rfl rfl (Nat.le_of_ble_eq_true rfl)) (fun r3 I3 h3 => ?_)
      obtain ⟨h3, rfl⟩ := h3
      refine j_if_ne (pc := 22) 32 dX11_wakes_22 (by decide) (by omega) (fun h_22 => ?_) (fun h_22 => ?_)
      · obtain ⟨i, rfl⟩ := Int.eq_ofNat_of_zero_le (show 0 ≤ a by omega)
        refine j_aload_n (pc := 32) dX11_wakes_32 rfl ?_
        refine j_getR (pc := 33) f_X11_10 dX11_wakes_33 rfl rfl (by decide) rfl ?_
        refine j_getR (pc := 36) f_X11_63 dX11_wakes_36 rfl rfl (by decide) rfl ?_
        refine j_iload_n (pc := 39) dX11_wakes_39 rfl ?_
        refine j_iload_n (pc := 40) dX11_wakes_40 rfl ?_
        refine j_iload_n (pc := 41) dX11_wakes_41 rfl ?_
        refine j_goI (pc := 42) (j_runV k_X11_189 m_X2_wakers (c_wakers X I3 (I3 106) n i m hH hok (by omega) (by omega) (by omega)) dX11_wakes_42 rfl (by decide) rfl (by decide) (by decide) rfl rfl (Nat.le_of_ble_eq_true rfl)) (fun r5 I5 h5 => ?_)
        obtain ⟨w, rfl, hw, rfl⟩ := h5
        refine j_reti dX11_wakes_45 (?_) rfl
        refine c_mwakes X _ n i m _ hn ha hm hok (fun h => by omega) (fun i' w' I' e1 e2 h5 h6 hw' hsc => ⟨?_, Inv_sc hI hsc⟩)
        obtain rfl : i = i' := by omega
        rw [isW_uniq hw hw']
      · refine j_aload_n (pc := 25) dX11_wakes_25 rfl ?_
        refine j_bipush (pc := 26) dX11_wakes_26 (by decide) ?_
        refine j_goI (pc := 28) (j_runV k_X11_84 m_X11_refuseBad (c_xbad X _ (-2)) dX11_wakes_28 rfl (by decide) rfl (by decide) (by decide) rfl rfl (Nat.le_of_ble_eq_true rfl)) (fun r4 I4 h4 => ?_)
        obtain ⟨rfl, rfl⟩ := h4
        refine j_reti dX11_wakes_31 (?_) rfl
        exact c_mwakes X _ n a m _ hn ha hm (ok_ref hI 0) (fun _ => ⟨rfl, Inv_ref hI (by omega)⟩) (fun i w I' e1 e2 h5 h6 _ _ => by omega)
set_option maxHeartbeats 1000000 in
theorem o_loud (X : jX) (I : jMI) (a m : Int) (hI : Inv I) (ha : -2147483648 ≤ a ∧ a < 2147483648) (hm : -2147483648 ≤ m ∧ m < 2147483648) : C_X11_loud X [jR 0, jI a, jI m] I (fun v I1 => C_X12_loud X [jR 105, jI a, jI m] I1 (fun v' I2 => v' = v ∧ Inv I2)) := by
  refine CG.of (by decide) [some (jR 0), some (jI a), some (jI m)] rfl (Nat.le_of_ble_eq_true rfl) ?_
  have hok := hI.ok
  have hH := hI.hR
  refine j_iload_n (pc := 0) dX11_loud_0 rfl ?_
  refine j_goI (pc := 1) (j_runS k_X11_76 m_X11_isRoom (c_xroom X I a ha) dX11_loud_1 (by decide) rfl rfl (Nat.le_of_ble_eq_true rfl)) (fun r2 I2 h2 => ?_)
  obtain ⟨h2, rfl⟩ := h2
  refine j_if_eq (pc := 4) 16 dX11_loud_4 (by decide) (by omega) (fun h_4 => ?_) (fun h_4 => ?_)
  · refine j_aload_n (pc := 16) dX11_loud_16 rfl ?_
    refine j_bipush (pc := 17) dX11_loud_17 (by decide) ?_
    refine j_goI (pc := 19) (j_runV k_X11_84 m_X11_refuseBad (c_xbad X _ (-2)) dX11_loud_19 rfl (by decide) rfl (by decide) (by decide) rfl rfl (Nat.le_of_ble_eq_true rfl)) (fun r4 I4 h4 => ?_)
    obtain ⟨rfl, rfl⟩ := h4
    refine j_reti dX11_loud_22 (?_) rfl
    exact c_mloud X _ a m _ ha hm (ok_ref hI 0) (fun _ => ⟨rfl, Inv_ref hI (by omega)⟩) (fun i w I' e1 h5 h6 _ _ => by omega)
  · refine j_iload_n (pc := 7) dX11_loud_7 rfl ?_
    refine j_bipush (pc := 8) dX11_loud_8 (by decide) ?_
    refine j_goI (pc := 10) (j_runS k_X11_80 m_X11_within (c_xin X I2 m 59 hm (by omega)) dX11_loud_10 (by decide) rfl rfl (Nat.le_of_ble_eq_true rfl)) (fun r3 I3 h3 => ?_)
    obtain ⟨h3, rfl⟩ := h3
    refine j_if_ne (pc := 13) 23 dX11_loud_13 (by decide) (by omega) (fun h_13 => ?_) (fun h_13 => ?_)
    · obtain ⟨i, rfl⟩ := Int.eq_ofNat_of_zero_le (show 0 ≤ a by omega)
      refine j_aload_n (pc := 23) dX11_loud_23 rfl ?_
      refine j_getR (pc := 24) f_X11_10 dX11_loud_24 rfl rfl (by decide) rfl ?_
      refine j_getR (pc := 27) f_X11_63 dX11_loud_27 rfl rfl (by decide) rfl ?_
      refine j_iload_n (pc := 30) dX11_loud_30 rfl ?_
      refine j_iload_n (pc := 31) dX11_loud_31 rfl ?_
      refine j_goI (pc := 32) (j_runV k_X11_192 m_X2_loudest (c_loudest X I3 (I3 106) i m hH hok (by omega) (by omega)) dX11_loud_32 rfl (by decide) rfl (by decide) (by decide) rfl rfl (Nat.le_of_ble_eq_true rfl)) (fun r5 I5 h5 => ?_)
      obtain ⟨⟨S, hS, hMo⟩, rfl⟩ := h5
      refine j_reti dX11_loud_35 (?_) rfl
      refine c_mloud X _ i m _ ha hm hok (fun h => by omega) (fun i' w' I' e1 h5 h6 hw' hsc => ⟨?_, Inv_sc hI hsc⟩)
      obtain rfl : i = i' := by omega
      exact isLd_uniq hw' (isMo_Ld hS hMo)
    · refine j_aload_n (pc := 16) dX11_loud_16 rfl ?_
      refine j_bipush (pc := 17) dX11_loud_17 (by decide) ?_
      refine j_goI (pc := 19) (j_runV k_X11_84 m_X11_refuseBad (c_xbad X _ (-2)) dX11_loud_19 rfl (by decide) rfl (by decide) (by decide) rfl rfl (Nat.le_of_ble_eq_true rfl)) (fun r4 I4 h4 => ?_)
      obtain ⟨rfl, rfl⟩ := h4
      refine j_reti dX11_loud_22 (?_) rfl
      exact c_mloud X _ a m _ ha hm (ok_ref hI 0) (fun _ => ⟨rfl, Inv_ref hI (by omega)⟩) (fun i w I' e1 h5 h6 _ _ => by omega)
set_option maxHeartbeats 1000000 in
theorem o_softest (X : jX) (I : jMI) (a b : Int) (hI : Inv I) (ha : -2147483648 ≤ a ∧ a < 2147483648) (hb : -2147483648 ≤ b ∧ b < 2147483648) : C_X11_softest X [jR 0, jI a, jI b] I (fun v I1 => C_X12_softest X [jR 105, jI a, jI b] I1 (fun v' I2 => v' = v ∧ Inv I2)) := by
  refine CG.of (by decide) [some (jR 0), some (jI a), some (jI b)] rfl (Nat.le_of_ble_eq_true rfl) ?_
  have hok := hI.ok
  have hH := hI.hR
  refine j_iload_n (pc := 0) dX11_softest_0 rfl ?_
  refine j_goI (pc := 1) (j_runS k_X11_76 m_X11_isRoom (c_xroom X I a ha) dX11_softest_1 (by decide) rfl rfl (Nat.le_of_ble_eq_true rfl)) (fun r1 I1 h1 => ?_)
  obtain ⟨h1, rfl⟩ := h1
  refine j_if_eq (pc := 4) 14 dX11_softest_4 (by decide) (by omega) (fun h_4 => ?_) (fun h_4 => ?_)
  · refine j_aload_n (pc := 14) dX11_softest_14 rfl ?_
    refine j_bipush (pc := 15) dX11_softest_15 (by decide) ?_
    refine j_goI (pc := 17) (j_runV k_X11_84 m_X11_refuseBad (c_xbad X _ (-2)) dX11_softest_17 rfl (by decide) rfl (by decide) (by decide) rfl rfl (Nat.le_of_ble_eq_true rfl)) (fun r3 I3 h3 => ?_)
    obtain ⟨rfl, rfl⟩ := h3
    refine j_reti dX11_softest_20 (?_) rfl
    exact c_msoftest X _ a b _ ha hb (ok_ref hI 0) (fun _ => ⟨rfl, Inv_ref hI (by omega)⟩) (fun i j v I' e1 e2 h3 h4 _ _ => by omega)
  · refine j_iload_n (pc := 7) dX11_softest_7 rfl ?_
    refine j_goI (pc := 8) (j_runS k_X11_76 m_X11_isRoom (c_xroom X I1 b hb) dX11_softest_8 (by decide) rfl rfl (Nat.le_of_ble_eq_true rfl)) (fun r2 I2 h2 => ?_)
    obtain ⟨h2, rfl⟩ := h2
    refine j_if_ne (pc := 11) 21 dX11_softest_11 (by decide) (by omega) (fun h_11 => ?_) (fun h_11 => ?_)
    · obtain ⟨i, rfl⟩ := Int.eq_ofNat_of_zero_le (show 0 ≤ a by omega)
      obtain ⟨j, rfl⟩ := Int.eq_ofNat_of_zero_le (show 0 ≤ b by omega)
      refine j_aload_n (pc := 21) dX11_softest_21 rfl ?_
      refine j_getR (pc := 22) f_X11_41 dX11_softest_22 rfl rfl (by decide) rfl ?_
      refine j_aload_n (pc := 25) dX11_softest_25 rfl ?_
      refine j_getR (pc := 26) f_X11_10 dX11_softest_26 rfl rfl (by decide) rfl ?_
      refine j_getR (pc := 29) f_X11_63 dX11_softest_29 rfl rfl (by decide) rfl ?_
      refine j_iload_n (pc := 32) dX11_softest_32 rfl ?_
      refine j_iload_n (pc := 33) dX11_softest_33 rfl ?_
      refine j_goI (pc := 34) (j_runV k_X11_203 m_X1_leastWorstCreak (c_softest X I2 (I2 106) i j hH hok (by omega) (by omega)) dX11_softest_34 rfl (by decide) rfl (by decide) (by decide) rfl rfl (Nat.le_of_ble_eq_true rfl)) (fun r5 I5 h5 => ?_)
      obtain ⟨⟨v, hv, rfl⟩, hz⟩ := h5
      have hI5 := Inv_cs hI (fun z _ hzz => hz z (by omega))
      have e6 := hz 106 (by omega)
      refine j_reti dX11_softest_37 (?_) rfl
      refine c_msoftest X _ i j _ ha hb hI5.ok (fun h => by omega) (fun i' j' v' I' e1 e2 h3 h4 hv' hsc => ⟨?_, Inv_sc hI5 hsc⟩)
      obtain rfl : i = i' := by omega
      obtain rfl : j = j' := by omega
      rw [e6] at hv'
      rw [isSf_uniq hv hv']
    · refine j_aload_n (pc := 14) dX11_softest_14 rfl ?_
      refine j_bipush (pc := 15) dX11_softest_15 (by decide) ?_
      refine j_goI (pc := 17) (j_runV k_X11_84 m_X11_refuseBad (c_xbad X _ (-2)) dX11_softest_17 rfl (by decide) rfl (by decide) (by decide) rfl rfl (Nat.le_of_ble_eq_true rfl)) (fun r3 I3 h3 => ?_)
      obtain ⟨rfl, rfl⟩ := h3
      refine j_reti dX11_softest_20 (?_) rfl
      exact c_msoftest X _ a b _ ha hb (ok_ref hI 0) (fun _ => ⟨rfl, Inv_ref hI (by omega)⟩) (fun i j v I' e1 e2 h3 h4 _ _ => by omega)
set_option maxHeartbeats 1000000 in
theorem o_schedule (X : jX) (I : jMI) (a b : Int) (hI : Inv I) (ha : -2147483648 ≤ a ∧ a < 2147483648) (hb : -2147483648 ≤ b ∧ b < 2147483648) : C_X11_schedule X [jR 0, jI a, jI b] I (fun v I1 => C_X12_schedule X [jR 105, jI a, jI b] I1 (fun v' I2 => v' = v ∧ Inv I2)) := by
  refine CG.of (by decide) [some (jR 0), some (jI a), some (jI b)] rfl (Nat.le_of_ble_eq_true rfl) ?_
  have hok := hI.ok
  have hH := hI.hR
  refine j_iload_n (pc := 0) dX11_schedule_0 rfl ?_
  refine j_goI (pc := 1) (j_runS k_X11_76 m_X11_isRoom (c_xroom X I a ha) dX11_schedule_1 (by decide) rfl rfl (Nat.le_of_ble_eq_true rfl)) (fun r1 I1 h1 => ?_)
  obtain ⟨h1, rfl⟩ := h1
  refine j_if_eq (pc := 4) 14 dX11_schedule_4 (by decide) (by omega) (fun h_4 => ?_) (fun h_4 => ?_)
  · refine j_aload_n (pc := 14) dX11_schedule_14 rfl ?_
    refine j_bipush (pc := 15) dX11_schedule_15 (by decide) ?_
    refine j_goI (pc := 17) (j_runV k_X11_84 m_X11_refuseBad (c_xbad X _ (-2)) dX11_schedule_17 rfl (by decide) rfl (by decide) (by decide) rfl rfl (Nat.le_of_ble_eq_true rfl)) (fun r3 I3 h3 => ?_)
    obtain ⟨rfl, rfl⟩ := h3
    refine j_reti dX11_schedule_20 (?_) rfl
    exact c_mschedule X _ a b _ ha hb (ok_ref hI 0) (fun _ => ⟨rfl, Inv_ref hI (by omega)⟩) (fun i j v I' e1 e2 h3 h4 _ _ => by omega)
  · refine j_iload_n (pc := 7) dX11_schedule_7 rfl ?_
    refine j_goI (pc := 8) (j_runS k_X11_76 m_X11_isRoom (c_xroom X I1 b hb) dX11_schedule_8 (by decide) rfl rfl (Nat.le_of_ble_eq_true rfl)) (fun r2 I2 h2 => ?_)
    obtain ⟨h2, rfl⟩ := h2
    refine j_if_ne (pc := 11) 21 dX11_schedule_11 (by decide) (by omega) (fun h_11 => ?_) (fun h_11 => ?_)
    · obtain ⟨i, rfl⟩ := Int.eq_ofNat_of_zero_le (show 0 ≤ a by omega)
      obtain ⟨j, rfl⟩ := Int.eq_ofNat_of_zero_le (show 0 ≤ b by omega)
      refine j_aload_n (pc := 21) dX11_schedule_21 rfl ?_
      refine j_getR (pc := 22) f_X11_41 dX11_schedule_22 rfl rfl (by decide) rfl ?_
      refine j_aload_n (pc := 25) dX11_schedule_25 rfl ?_
      refine j_getR (pc := 26) f_X11_10 dX11_schedule_26 rfl rfl (by decide) rfl ?_
      refine j_getR (pc := 29) f_X11_63 dX11_schedule_29 rfl rfl (by decide) rfl ?_
      refine j_iload_n (pc := 32) dX11_schedule_32 rfl ?_
      refine j_iload_n (pc := 33) dX11_schedule_33 rfl ?_
      refine j_goI (pc := 34) (j_runV k_X11_207 m_X1_fewestMinutesOfTwo (c_ofTwo X I2 (I2 106) i j hH hok (by omega) (by omega)) dX11_schedule_34 rfl (by decide) rfl (by decide) (by decide) rfl rfl (Nat.le_of_ble_eq_true rfl)) (fun r5 I5 h5 => ?_)
      obtain ⟨hv, hz⟩ := h5
      have hI5 := Inv_cs hI (fun z _ hzz => hz z (by omega) (by omega) (by omega))
      have e6 := hz 106 (by omega) (by omega) (by omega)
      refine j_reti dX11_schedule_37 (?_) rfl
      refine c_mschedule X _ i j _ ha hb hI5.ok (fun h => by omega) (fun i' j' v' I' e1 e2 h3 h4 hv' hsc => ⟨?_, Inv_sc hI5 hsc⟩)
      obtain rfl : i = i' := by omega
      obtain rfl : j = j' := by omega
      rw [e6] at hv'
      exact isSch_uniq hv' hv
    · refine j_aload_n (pc := 14) dX11_schedule_14 rfl ?_
      refine j_bipush (pc := 15) dX11_schedule_15 (by decide) ?_
      refine j_goI (pc := 17) (j_runV k_X11_84 m_X11_refuseBad (c_xbad X _ (-2)) dX11_schedule_17 rfl (by decide) rfl (by decide) (by decide) rfl rfl (Nat.le_of_ble_eq_true rfl)) (fun r3 I3 h3 => ?_)
      obtain ⟨rfl, rfl⟩ := h3
      refine j_reti dX11_schedule_20 (?_) rfl
      exact c_mschedule X _ a b _ ha hb (ok_ref hI 0) (fun _ => ⟨rfl, Inv_ref hI (by omega)⟩) (fun i j v I' e1 e2 h3 h4 _ _ => by omega)
set_option maxHeartbeats 1000000 in
theorem o_where (X : jX) (I : jMI) (a : Int) (hI : Inv I) (ha : -2147483648 ≤ a ∧ a < 2147483648) : C_X11_where X [jR 0, jI a] I (fun v I1 => C_X12_where X [jR 105, jI a] I1 (fun v' I2 => v' = v ∧ Inv I2)) := by
  refine CG.of (by decide) [some (jR 0), some (jI a)] rfl (Nat.le_of_ble_eq_true rfl) ?_
  refine j_iload_n (pc := 0) dX11_where_0 rfl ?_
  refine j_goI (pc := 1) (j_runS k_X11_111 m_X11_isPupil (c_xpupil X I a ha) dX11_where_1 (by decide) rfl rfl (Nat.le_of_ble_eq_true rfl)) (fun r1 I1 h1 => ?_)
  obtain ⟨h1, rfl⟩ := h1
  refine j_if_eq (pc := 4) 19 dX11_where_4 (by decide) (by omega) (fun h_4 => ?_) (fun h_4 => ?_)
  · refine j_aload_n (pc := 19) dX11_where_19 rfl ?_
    refine j_bipush (pc := 20) dX11_where_20 (by decide) ?_
    refine j_goI (pc := 22) (j_runV k_X11_84 m_X11_refuseBad (c_xbad X _ (-2)) dX11_where_22 rfl (by decide) rfl (by decide) (by decide) rfl rfl (Nat.le_of_ble_eq_true rfl)) (fun r3 I3 h3 => ?_)
    obtain ⟨rfl, rfl⟩ := h3
    refine j_reti dX11_where_25 (?_) rfl
    first
      | (have hguard : r1 = 0 := by omega
         exact c_mwhere X _ a _ ha (fun _ => ⟨rfl, Inv_ref hI (by omega)⟩) (fun i e1 h3 => by omega))
      | (refine c_mwhere X _ i _ ha (fun h => by omega) (fun i' e1 h3 => ⟨?_, hI⟩)
         obtain rfl : i = i' := by omega
         rfl)
  · obtain ⟨i, rfl⟩ := Int.eq_ofNat_of_zero_le (show 0 ≤ a by omega)
    obtain ⟨u, u1, u2, u3⟩ := hI.1
    have h18 : I1 18 i = I1 106 (2 + i) := u3.2.2.2.2.2.1 i (by omega)
    refine j_aload_n (pc := 7) dX11_where_7 rfl ?_
    refine j_getR (pc := 8) f_X11_10 dX11_where_8 rfl rfl (by decide) rfl ?_
    refine j_getR (pc := 11) f_X11_142 dX11_where_11 rfl rfl (by decide) rfl ?_
    refine j_iload_n (pc := 14) dX11_where_14 rfl ?_
    refine j_iald_b (pc := 15) (i) dX11_where_15 rfl (by decide) (by decide) (by omega) (by omega) ?_
    rw [h18]
    refine j_goto (pc := 16) 25 dX11_where_16 (by decide) ?_
    refine j_reti dX11_where_25 (?_) rfl
    first
      | (have hguard : r1 = 0 := by omega
         exact c_mwhere X _ a _ ha (fun _ => ⟨rfl, Inv_ref hI (by omega)⟩) (fun i e1 h3 => by omega))
      | (refine c_mwhere X _ i _ ha (fun h => by omega) (fun i' e1 h3 => ⟨?_, hI⟩)
         obtain rfl : i = i' := by omega
         rfl)
set_option maxHeartbeats 1000000 in
theorem o_took (X : jX) (I : jMI) (a : Int) (hI : Inv I) (ha : -2147483648 ≤ a ∧ a < 2147483648) : C_X11_took X [jR 0, jI a] I (fun v I1 => C_X12_took X [jR 105, jI a] I1 (fun v' I2 => v' = v ∧ Inv I2)) := by
  refine CG.of (by decide) [some (jR 0), some (jI a)] rfl (Nat.le_of_ble_eq_true rfl) ?_
  have hok := hI.ok
  have hH := hI.hR
  obtain ⟨T, hT, hT5⟩ := okSt_21 hok
  refine j_aload_n (pc := 0) dX11_took_0 rfl ?_
  refine j_iload_n (pc := 1) dX11_took_1 rfl ?_
  refine j_goI (pc := 2) (j_runV k_X11_108 m_X11_isThing (c_xth X I a T ha (hH.2.1.trans hT) (by omega)) dX11_took_2 rfl (by decide) rfl (by decide) (by decide) rfl rfl (Nat.le_of_ble_eq_true rfl)) (fun r1 I1 h1 => ?_)
  obtain ⟨h1, rfl⟩ := h1
  refine j_if_eq (pc := 5) 22 dX11_took_5 (by decide) (by omega) (fun h_5 => ?_) (fun h_5 => ?_)
  · refine j_aload_n (pc := 22) dX11_took_22 rfl ?_
    refine j_bipush (pc := 23) dX11_took_23 (by decide) ?_
    refine j_goI (pc := 25) (j_runV k_X11_84 m_X11_refuseBad (c_xbad X _ (-2)) dX11_took_25 rfl (by decide) rfl (by decide) (by decide) rfl rfl (Nat.le_of_ble_eq_true rfl)) (fun r3 I3 h3 => ?_)
    obtain ⟨rfl, rfl⟩ := h3
    refine j_reti dX11_took_28 (?_) rfl
    first
      | (have hguard : r1 = 0 := by omega
         have e21 : cRef I1 0 106 = I1 106 := by unfold cRef; rw [jSf_n (by omega)]
         exact c_mtook X _ a _ ha (ok_ref hI 0) (fun _ => ⟨rfl, Inv_ref hI (by omega)⟩) (fun i e1 h3 => by rw [e21] at h3; omega))
      | (refine c_mtook X _ i _ ha hok (fun h => by omega) (fun i' e1 h3 => ⟨?_, hI⟩)
         obtain rfl : i = i' := by omega
         exact e4.symm)
  · obtain ⟨i, rfl⟩ := Int.eq_ofNat_of_zero_le (show 0 ≤ a by omega)
    obtain ⟨c, hc, hc4⟩ := okSt_27 hok (show i < 5 by omega)
    have hla := hR_last hH (show (i : Int) < I1 106 21 by omega) hc
    refine j_aload_n (pc := 8) dX11_took_8 rfl ?_
    refine j_getR (pc := 9) f_X11_10 dX11_took_9 rfl rfl (by decide) rfl ?_
    refine j_getR (pc := 12) f_X11_63 dX11_took_12 rfl rfl (by decide) rfl ?_
    refine j_iload_n (pc := 15) dX11_took_15 rfl ?_
    refine j_goI (pc := 16) (j_runV k_X11_114 m_X2_lastOwner (c_hLast2 X I1 i c (by omega) hla.1 (by omega)) dX11_took_16 rfl (by decide) rfl (by decide) (by decide) rfl rfl (Nat.le_of_ble_eq_true rfl)) (fun r4 I4 h4 => ?_)
    obtain ⟨e4, rfl⟩ := h4
    rw [hla.2] at e4
    refine j_goto (pc := 19) 28 dX11_took_19 (by decide) ?_
    refine j_reti dX11_took_28 (?_) rfl
    first
      | (have hguard : r1 = 0 := by omega
         have e21 : cRef I1 0 106 = I1 106 := by unfold cRef; rw [jSf_n (by omega)]
         exact c_mtook X _ a _ ha (ok_ref hI 0) (fun _ => ⟨rfl, Inv_ref hI (by omega)⟩) (fun i e1 h3 => by rw [e21] at h3; omega))
      | (refine c_mtook X _ i _ ha hok (fun h => by omega) (fun i' e1 h3 => ⟨?_, hI⟩)
         obtain rfl : i = i' := by omega
         exact e4.symm)
