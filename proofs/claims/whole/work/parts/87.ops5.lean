/-! ===== one call of both: sleepers, things, owners, the text ===== -/
set_option maxHeartbeats 1000000 in
theorem o_thing (X : jX) (I : jMI) (h : Int) (hI : Inv I) (hh : -2147483648 ≤ h ∧ h < 2147483648) : C_X11_thing X [jR 0, jI h] I (fun v I1 => C_X12_thing X [jR 105, jI h] I1 (fun v' I2 => v' = v ∧ Inv I2)) := by
  refine CG.of (by decide) [some (jR 0), some (jI h)] rfl (Nat.le_of_ble_eq_true rfl) ?_
  have hok := hI.ok
  have hH := hI.hR
  obtain ⟨T, hT, hT5⟩ := okSt_21 hok
  have h10 : I 2 10 = (T : Int) := hH.2.1.trans hT
  refine j_iload_n (pc := 0) dX11_thing_0 rfl ?_
  refine j_goI (pc := 1) (j_runS k_X11_76 m_X11_isRoom (c_xroom X I h hh) dX11_thing_1 (by decide) rfl rfl (Nat.le_of_ble_eq_true rfl)) (fun r1 I1 h1 => ?_)
  obtain ⟨h1, rfl⟩ := h1
  refine j_if_ne (pc := 4) 14 dX11_thing_4 (by decide) (by omega) (fun h_4 => ?_) (fun h_4 => ?_)
  · refine j_aload_n (pc := 14) dX11_thing_14 rfl ?_
    refine j_getR (pc := 15) f_X11_10 dX11_thing_15 rfl rfl (by decide) rfl ?_
    refine j_getR (pc := 18) f_X11_63 dX11_thing_18 rfl rfl (by decide) rfl ?_
    refine j_getI (pc := 21) f_X11_102 dX11_thing_21 rfl rfl (by decide) ?_
    rw [h10]
    refine j_iconst (pc := 24) dX11_thing_24 ?_
    refine j_icmp_lt (pc := 25) 33 dX11_thing_25 (by decide) (by omega) (by omega) (fun h_25 => ?_) (fun h_25 => ?_)
    · refine j_aload_n (pc := 33) dX11_thing_33 rfl ?_
      refine j_getR (pc := 34) f_X11_10 dX11_thing_34 rfl rfl (by decide) rfl ?_
      refine j_getR (pc := 37) f_X11_63 dX11_thing_37 rfl rfl (by decide) rfl ?_
      refine j_iload_n (pc := 40) dX11_thing_40 rfl ?_
      refine j_goI (pc := 41) (j_runV k_X11_105 m_X2_addThing (c_hTh2 X I1 T h h10 (by omega)) dX11_thing_41 rfl (by decide) rfl (by decide) (by decide) rfl rfl (Nat.le_of_ble_eq_true rfl)) (fun r6 I6 h6 => ?_)
      obtain ⟨e6, e6'⟩ := h6
      refine j_reti dX11_thing_44 (?_) rfl
      have hz : ∀ z, z ≠ 2 → (z < 10 ∨ 17 < z) → I6 z = I1 z := by
        intro z q1 q2
        rw [e6']; unfold hAddTh
        rw [jSf_n (by omega), jSf_n (by omega), jSf_n (by omega)]
      have x6 := hz 106 (by omega) (by omega)
      refine c_mthing X _ h _ hh T (by rw [x6]; exact hT) hT5 (fun _ => by omega) (fun _ _ => by omega) (fun q1 q2 => ⟨e6.symm, ?_⟩)
      rw [x6]
      refine Inv_h hI (mAddTh (I1 106) T h) hz (by rw [e6']; exact hR_th hH hok hT q2 h) rfl (okSt_th hok q2 q1) (fun k hk => ?_) ?_
      · unfold mAddTh; rw [jU_n (by omega), jU_n (by omega), jU_n (by omega)]
      · unfold mAddTh; rw [jU_n (by omega), jU_n (by omega), jU_n (by omega)]; exact Int.le_refl _
    · refine j_aload_n (pc := 28) dX11_thing_28 rfl ?_
      refine j_goI (pc := 29) (j_runV k_X11_92 m_X11_refuseFull (c_xfull X _) dX11_thing_29 rfl (by decide) rfl (by decide) (by decide) rfl rfl (Nat.le_of_ble_eq_true rfl)) (fun r5 I5 h5 => ?_)
      obtain ⟨rfl, rfl⟩ := h5
      refine j_reti dX11_thing_32 (?_) rfl
      exact c_mthing X _ h _ hh T (by unfold cRef; rw [jSf_n (by omega)]; exact hT) hT5 (fun _ => by omega) (fun _ _ => ⟨rfl, Inv_ref hI (by omega)⟩) (fun _ _ => by omega)
  · refine j_aload_n (pc := 7) dX11_thing_7 rfl ?_
    refine j_bipush (pc := 8) dX11_thing_8 (by decide) ?_
    refine j_goI (pc := 10) (j_runV k_X11_84 m_X11_refuseBad (c_xbad X _ (-2)) dX11_thing_10 rfl (by decide) rfl (by decide) (by decide) rfl rfl (Nat.le_of_ble_eq_true rfl)) (fun r4 I4 h4 => ?_)
    obtain ⟨rfl, rfl⟩ := h4
    refine j_reti dX11_thing_13 (?_) rfl
    exact c_mthing X _ h _ hh T (by unfold cRef; rw [jSf_n (by omega)]; exact hT) hT5 (fun _ => ⟨rfl, Inv_ref hI (by omega)⟩) (fun _ _ => by omega) (fun _ _ => by omega)
set_option maxHeartbeats 1000000 in
theorem o_sleeper (X : jX) (I : jMI) (k r e : Int) (hI : Inv I) (hk : -2147483648 ≤ k ∧ k < 2147483648) (hr : -2147483648 ≤ r ∧ r < 2147483648) (he : -2147483648 ≤ e ∧ e < 2147483648) : C_X11_sleeper X [jR 0, jI k, jI r, jI e] I (fun v I1 => C_X12_sleeper X [jR 105, jI k, jI r, jI e] I1 (fun v' I2 => v' = v ∧ Inv I2)) := by
  refine CG.of (by decide) [some (jR 0), some (jI k), some (jI r), some (jI e)] rfl (Nat.le_of_ble_eq_true rfl) ?_
  have hok := hI.ok
  have hH := hI.hR
  obtain ⟨S, hS, hS5⟩ := okSt_5 hok
  have h9 : I 2 9 = (S : Int) := hH.1.trans hS
  refine j_iload_n (pc := 0) dX11_sleeper_0 rfl ?_
  refine j_iconst (pc := 1) dX11_sleeper_1 ?_
  refine j_goI (pc := 2) (j_runS k_X11_80 m_X11_within (c_xin X I k 5 hk (by omega)) dX11_sleeper_2 (by decide) rfl rfl (Nat.le_of_ble_eq_true rfl)) (fun r1 I1 h1 => ?_)
  obtain ⟨h1, rfl⟩ := h1
  refine j_if_eq (pc := 5) 24 dX11_sleeper_5 (by decide) (by omega) (fun h_5 => ?_) (fun h_5 => ?_)
  · refine j_aload_n (pc := 24) dX11_sleeper_24 rfl ?_
    refine j_bipush (pc := 25) dX11_sleeper_25 (by decide) ?_
    refine j_goI (pc := 27) (j_runV k_X11_84 m_X11_refuseBad (c_xbad X _ (-2)) dX11_sleeper_27 rfl (by decide) rfl (by decide) (by decide) rfl rfl (Nat.le_of_ble_eq_true rfl)) (fun r4 I4 h4 => ?_)
    obtain ⟨rfl, rfl⟩ := h4
    refine j_reti dX11_sleeper_30 (?_) rfl
    exact c_msleeper X _ k r e _ hk hr he S (by unfold cRef; rw [jSf_n (by omega)]; exact hS) hS5 (fun _ => ⟨rfl, Inv_ref hI (by omega)⟩) (fun _ _ _ _ => by omega) (fun _ _ _ _ => by omega)
  · refine j_iload_n (pc := 8) dX11_sleeper_8 rfl ?_
    refine j_goI (pc := 9) (j_runS k_X11_76 m_X11_isRoom (c_xroom X I1 r hr) dX11_sleeper_9 (by decide) rfl rfl (Nat.le_of_ble_eq_true rfl)) (fun r2 I2 h2 => ?_)
    obtain ⟨h2, rfl⟩ := h2
    refine j_if_eq (pc := 12) 24 dX11_sleeper_12 (by decide) (by omega) (fun h_12 => ?_) (fun h_12 => ?_)
    · refine j_aload_n (pc := 24) dX11_sleeper_24 rfl ?_
      refine j_bipush (pc := 25) dX11_sleeper_25 (by decide) ?_
      refine j_goI (pc := 27) (j_runV k_X11_84 m_X11_refuseBad (c_xbad X _ (-2)) dX11_sleeper_27 rfl (by decide) rfl (by decide) (by decide) rfl rfl (Nat.le_of_ble_eq_true rfl)) (fun r4 I4 h4 => ?_)
      obtain ⟨rfl, rfl⟩ := h4
      refine j_reti dX11_sleeper_30 (?_) rfl
      exact c_msleeper X _ k r e _ hk hr he S (by unfold cRef; rw [jSf_n (by omega)]; exact hS) hS5 (fun _ => ⟨rfl, Inv_ref hI (by omega)⟩) (fun _ _ _ _ => by omega) (fun _ _ _ _ => by omega)
    · refine j_iload_n (pc := 15) dX11_sleeper_15 rfl ?_
      refine j_bipush (pc := 16) dX11_sleeper_16 (by decide) ?_
      refine j_goI (pc := 18) (j_runS k_X11_80 m_X11_within (c_xin X I2 e 9 he (by omega)) dX11_sleeper_18 (by decide) rfl rfl (Nat.le_of_ble_eq_true rfl)) (fun r3 I3 h3 => ?_)
      obtain ⟨h3, rfl⟩ := h3
      refine j_if_ne (pc := 21) 31 dX11_sleeper_21 (by decide) (by omega) (fun h_21 => ?_) (fun h_21 => ?_)
      · refine j_aload_n (pc := 31) dX11_sleeper_31 rfl ?_
        refine j_getR (pc := 32) f_X11_10 dX11_sleeper_32 rfl rfl (by decide) rfl ?_
        refine j_getR (pc := 35) f_X11_63 dX11_sleeper_35 rfl rfl (by decide) rfl ?_
        refine j_getI (pc := 38) f_X11_66 dX11_sleeper_38 rfl rfl (by decide) ?_
        rw [h9]
        refine j_iconst (pc := 41) dX11_sleeper_41 ?_
        refine j_icmp_lt (pc := 42) 50 dX11_sleeper_42 (by decide) (by omega) (by omega) (fun h_42 => ?_) (fun h_42 => ?_)
        · refine j_aload_n (pc := 50) dX11_sleeper_50 rfl ?_
          refine j_getR (pc := 51) f_X11_10 dX11_sleeper_51 rfl rfl (by decide) rfl ?_
          refine j_iconst (pc := 54) dX11_sleeper_54 ?_
          refine j_putI_b (pc := 55) f_X11_96 dX11_sleeper_55 rfl rfl rfl (by decide) ?_
          refine j_aload_n (pc := 58) dX11_sleeper_58 rfl ?_
          refine j_getR (pc := 59) f_X11_10 dX11_sleeper_59 rfl rfl (by decide) rfl ?_
          refine j_getR (pc := 62) f_X11_63 dX11_sleeper_62 rfl rfl (by decide) rfl ?_
          refine j_iload_n (pc := 65) dX11_sleeper_65 rfl ?_
          refine j_iload_n (pc := 66) dX11_sleeper_66 rfl ?_
          refine j_iload_n (pc := 67) dX11_sleeper_67 rfl ?_
          refine j_goI (pc := 68) (j_runV k_X11_99 m_X2_addSleeper (c_hSl2 X (jSf I3 1 (jU (I3 1) 11 0)) S k r e (by rw [jSf_n (by omega)]; exact h9) (by omega)) dX11_sleeper_68 rfl (by decide) rfl (by decide) (by decide) rfl rfl (Nat.le_of_ble_eq_true rfl)) (fun r6 I6 h6 => ?_)
          obtain ⟨e6, e6'⟩ := h6
          refine j_reti dX11_sleeper_71 (?_) rfl
          have hz : ∀ z, z ≠ 1 → z ≠ 2 → (z < 10 ∨ 17 < z) → I6 z = I3 z := by
            intro z q0 q1 q2
            rw [e6']; unfold hAddSl
            rw [jSf_n (by omega), jSf_n (by omega), jSf_n (by omega), jSf_n (by omega), jSf_n q0]
          have hz1 : I6 1 = jU (I3 1) 11 0 := by
            rw [e6']; unfold hAddSl
            rw [jSf_n (by omega), jSf_n (by omega), jSf_n (by omega), jSf_n (by omega), jSf_s]
          have x6 := hz 106 (by omega) (by omega) (by omega)
          have x105 := hz 105 (by omega) (by omega) (by omega)
          refine c_msleeper X _ k r e _ hk hr he S (by rw [x6]; exact hS) hS5 (fun _ => by omega) (fun _ _ _ _ => by omega) (fun q1 q2 q3 q4 => ⟨e6.symm, ?_⟩)
          rw [x6, x105]
          obtain ⟨u, u1, u2, u3⟩ := hI.1
          have hR0 : hR (I3 106) (jSf I3 1 (jU (I3 1) 11 0)) 2 := hR_fr hH (fun z q => jSf_n (by omega))
          have hR6 : hR (mAddSl (I3 106) S k r e) I6 2 := by rw [e6']; exact hR_sl hR0 hok hS q4 k r e
          have hok6 := okSt_sl hok (s := S) q4 q1 q2 q3
          have hf : ∀ z, (z < 5 ∨ (52 ≤ z ∧ z < 71)) → mAddSl (I3 106) S k r e z = I3 106 z := by
            intro z q
            unfold mAddSl; rw [jU_n (by omega), jU_n (by omega), jU_n (by omega), jU_n (by omega)]
          have h5 : mAddSl (I3 106) S k r e 5 = (S : Int) + 1 := by unfold mAddSl; rw [jU_s]
          generalize mAddSl (I3 106) S k r e = f' at *
          generalize hI7 : jSf (jSf I6 106 f') 105 (jU (I3 105) 16 0) = I7
          have y6 : I7 106 = f' := by rw [← hI7, jSf_n (by omega), jSf_s]
          have y5 : I7 105 = jU (I3 105) 16 0 := by rw [← hI7, jSf_s]
          have yz : ∀ z, z ≠ 105 → z ≠ 106 → I7 z = I6 z := fun z q1 q2 => by rw [← hI7, jSf_n q1, jSf_n q2]
          have y111 : I7 111 = I3 111 := (yz 111 (by omega) (by omega)).trans (hz 111 (by omega) (by omega) (by omega))
          obtain ⟨n1, n2, n3, n4, n5, n6, n7, n8⟩ := u3
          obtain ⟨H, hH52, hH6⟩ := okSt_52 hok
          refine Inv_n hI (u := 0) (by rw [y5, jU_s]; rfl) ?_ ?_ (fun z q => (yz z (by omega) (by omega)).trans (hz z (by omega) (by omega) (by omega))) (by rw [yz 78 (by omega) (by omega), hz 78 (by omega) (by omega) (by omega)]) (by rw [y5, jU_n (by omega)]) (by rw [y5, jU_n (by omega)]) (by rw [y5, jU_n (by omega)])
          · rw [y6]
            refine nOK_0 hok6 (fun s hs => ?_)
            rw [hf 1 (by omega)] at hs
            have := u2.2.2.2.1 s hs
            omega
          · rw [y6, y111]
            have z1 : I7 1 = jU (I3 1) 11 0 := (yz 1 (by omega) (by omega)).trans hz1
            refine ⟨hR_fr hR6 (fun z q => yz z (by omega) (by omega)), by rw [z1, jU_n (by omega), hf 0 (by omega)]; exact n2, by rw [z1, jU_n (by omega), hf 1 (by omega)]; exact n3, by rw [z1, jU_s]; rfl, by rw [z1, jU_n (by omega), hf 52 (by omega)]; exact n5, fun p hp => ?_, fun i hi => by omega, fun i hi => ?_⟩
            · rw [yz (1 + 17) (by omega) (by omega), hz (1 + 17) (by omega) (by omega) (by omega), hf (2 + p) (by omega)]
              exact n6 p hp
            · rw [hf 52 (by omega)] at hi
              rw [yz (1 + 22) (by omega) (by omega), hz (1 + 22) (by omega) (by omega) (by omega), yz (1 + 23) (by omega) (by omega), hz (1 + 23) (by omega) (by omega) (by omega), yz (1 + 24) (by omega) (by omega), hz (1 + 24) (by omega) (by omega) (by omega), hf (53 + 3 * i) (by omega), hf (54 + 3 * i) (by omega), hf (55 + 3 * i) (by omega)]
              exact n8 i hi
        · refine j_aload_n (pc := 45) dX11_sleeper_45 rfl ?_
          refine j_goI (pc := 46) (j_runV k_X11_92 m_X11_refuseFull (c_xfull X _) dX11_sleeper_46 rfl (by decide) rfl (by decide) (by decide) rfl rfl (Nat.le_of_ble_eq_true rfl)) (fun r5 I5 h5 => ?_)
          obtain ⟨rfl, rfl⟩ := h5
          refine j_reti dX11_sleeper_49 (?_) rfl
          exact c_msleeper X _ k r e _ hk hr he S (by unfold cRef; rw [jSf_n (by omega)]; exact hS) hS5 (fun _ => by omega) (fun _ _ _ _ => ⟨rfl, Inv_ref hI (by omega)⟩) (fun _ _ _ _ => by omega)
      · refine j_aload_n (pc := 24) dX11_sleeper_24 rfl ?_
        refine j_bipush (pc := 25) dX11_sleeper_25 (by decide) ?_
        refine j_goI (pc := 27) (j_runV k_X11_84 m_X11_refuseBad (c_xbad X _ (-2)) dX11_sleeper_27 rfl (by decide) rfl (by decide) (by decide) rfl rfl (Nat.le_of_ble_eq_true rfl)) (fun r4 I4 h4 => ?_)
        obtain ⟨rfl, rfl⟩ := h4
        refine j_reti dX11_sleeper_30 (?_) rfl
        exact c_msleeper X _ k r e _ hk hr he S (by unfold cRef; rw [jSf_n (by omega)]; exact hS) hS5 (fun _ => ⟨rfl, Inv_ref hI (by omega)⟩) (fun _ _ _ _ => by omega) (fun _ _ _ _ => by omega)
set_option maxHeartbeats 1000000 in
theorem o_owner (X : jX) (I : jMI) (t p : Int) (hI : Inv I) (ht : -2147483648 ≤ t ∧ t < 2147483648) (hp : -2147483648 ≤ p ∧ p < 2147483648) : C_X11_owner X [jR 0, jI t, jI p] I (fun v I1 => C_X12_owner X [jR 105, jI t, jI p] I1 (fun v' I2 => v' = v ∧ Inv I2)) := by
  refine CG.of (by decide) [some (jR 0), some (jI t), some (jI p), none] rfl (Nat.le_of_ble_eq_true rfl) ?_
  have hok := hI.ok
  have hH := hI.hR
  obtain ⟨T, hT, hT5⟩ := okSt_21 hok
  have h10 : I 2 10 = (T : Int) := hH.2.1.trans hT
  have kbad : ∀ (J : jMI), Inv J → okSt (J 106) → J 106 21 = (T : Nat) → (¬ (0 ≤ t ∧ t < (T : Int)) ∨ ¬ (0 ≤ p ∧ p ≤ 2) ∨ ∃ i : Nat, t = i ∧ i < T ∧ (0 ≤ p ∧ p ≤ 2) ∧ lastF (J 106) i = p) → S_X11_owner X 32 [some (jR 0), some (jI t), some (jI p), some (jR 2)] [] J (fun v I1 => C_X12_owner X [jR 105, jI t, jI p] I1 (fun v' I2 => v' = v ∧ Inv I2)) := by
    intro J hJ hokJ hTJ hc
    have e21 : cRef J 0 106 = J 106 := by unfold cRef; rw [jSf_n (by omega)]
    refine j_aload_n (pc := 32) dX11_owner_32 rfl ?_
    refine j_bipush (pc := 33) dX11_owner_33 (by decide) ?_
    refine j_goI (pc := 35) (j_runV k_X11_84 m_X11_refuseBad (c_xbad X _ (-2)) dX11_owner_35 rfl (by decide) rfl (by decide) (by decide) rfl rfl (Nat.le_of_ble_eq_true rfl)) (fun r4 I4 h4 => ?_)
    obtain ⟨rfl, rfl⟩ := h4
    refine j_reti dX11_owner_38 (?_) rfl
    refine c_mowner X _ t p _ ht hp T (by rw [e21]; exact hTJ) hT5 (ok_ref hJ 0) (fun _ => ⟨rfl, Inv_ref hJ (by omega)⟩) (fun _ _ _ _ _ => ⟨rfl, Inv_ref hJ (by omega)⟩) (fun i q1 q2 q3 q4 q5 => ?_) (fun i c q1 q2 q3 q4 q5 q6 => ?_)
    · rcases hc with hc | hc | ⟨j, w1, w2, w3, w4⟩
      · omega
      · omega
      · obtain rfl : j = i := by omega
        rw [e21] at q4
        exact absurd w4 q4
    · rcases hc with hc | hc | ⟨j, w1, w2, w3, w4⟩
      · omega
      · omega
      · obtain rfl : j = i := by omega
        rw [e21] at q4
        exact absurd w4 q4
  refine j_aload_n (pc := 0) dX11_owner_0 rfl ?_
  refine j_getR (pc := 1) f_X11_10 dX11_owner_1 rfl rfl (by decide) rfl ?_
  refine j_getR (pc := 4) f_X11_63 dX11_owner_4 rfl rfl (by decide) rfl ?_
  refine j_astore_n3 (pc := 7) dX11_owner_7 (by decide) rfl ?_
  refine j_aload_n (pc := 8) dX11_owner_8 rfl ?_
  refine j_iload_n (pc := 9) dX11_owner_9 rfl ?_
  refine j_goI (pc := 10) (j_runV k_X11_108 m_X11_isThing (c_xth X I t T ht h10 (by omega)) dX11_owner_10 rfl (by decide) rfl (by decide) (by decide) rfl rfl (Nat.le_of_ble_eq_true rfl)) (fun r1 I1 h1 => ?_)
  obtain ⟨h1, rfl⟩ := h1
  refine j_if_eq (pc := 13) 32 dX11_owner_13 (by decide) (by omega) (fun h_13 => ?_) (fun h_13 => ?_)
  · first
      | (have hguard : r1 = 0 := by omega
         exact kbad _ hI hok hT (Or.inl (by omega)))
      | (have hguard : r2 = 0 := by omega
         exact kbad _ hI hok hT (Or.inr (Or.inl (by omega))))
      | exact kbad _ hI hok hT (Or.inr (Or.inr ⟨i, rfl, by omega, by omega, by omega⟩))
  · refine j_iload_n (pc := 16) dX11_owner_16 rfl ?_
    refine j_goI (pc := 17) (j_runS k_X11_111 m_X11_isPupil (c_xpupil X I1 p hp) dX11_owner_17 (by decide) rfl rfl (Nat.le_of_ble_eq_true rfl)) (fun r2 I2 h2 => ?_)
    obtain ⟨h2, rfl⟩ := h2
    refine j_if_eq (pc := 20) 32 dX11_owner_20 (by decide) (by omega) (fun h_20 => ?_) (fun h_20 => ?_)
    · first
        | (have hguard : r1 = 0 := by omega
           exact kbad _ hI hok hT (Or.inl (by omega)))
        | (have hguard : r2 = 0 := by omega
           exact kbad _ hI hok hT (Or.inr (Or.inl (by omega))))
        | exact kbad _ hI hok hT (Or.inr (Or.inr ⟨i, rfl, by omega, by omega, by omega⟩))
    · obtain ⟨i, rfl⟩ := Int.eq_ofNat_of_zero_le (show 0 ≤ t by omega)
      obtain ⟨c, hc, hc4⟩ := okSt_27 hok (show i < 5 by omega)
      have hla := hR_last hH (show (i : Int) < I2 106 21 by omega) hc
      have hlr := lastF_rng hok (show i < 5 by omega)
      refine j_aload_n (pc := 23) dX11_owner_23 rfl ?_
      refine j_iload_n (pc := 24) dX11_owner_24 rfl ?_
      refine j_goI (pc := 25) (j_runV k_X11_114 m_X2_lastOwner (c_hLast2 X I2 i c (by omega) hla.1 (by omega)) dX11_owner_25 rfl (by decide) rfl (by decide) (by decide) rfl rfl (Nat.le_of_ble_eq_true rfl)) (fun r3 I3 h3 => ?_)
      obtain ⟨e3, rfl⟩ := h3
      rw [hla.2] at e3
      refine j_iload_n (pc := 28) dX11_owner_28 rfl ?_
      refine j_icmp_ne (pc := 29) 39 dX11_owner_29 (by decide) (by omega) (by omega) (fun h_29 => ?_) (fun h_29 => ?_)
      · refine j_aload_n (pc := 39) dX11_owner_39 rfl ?_
        refine j_getR (pc := 40) f_X11_117 dX11_owner_40 rfl rfl (by decide) rfl ?_
        refine j_iload_n (pc := 43) dX11_owner_43 rfl ?_
        refine j_iald_b (pc := 44) (i) dX11_owner_44 rfl (by decide) (by decide) (by omega) (by omega) ?_
        rw [show I3 16 i = (c : Int) from hla.1]
        refine j_iconst (pc := 45) dX11_owner_45 ?_
        refine j_icmp_lt (pc := 46) 54 dX11_owner_46 (by decide) (by omega) (by omega) (fun h_46 => ?_) (fun h_46 => ?_)
        · refine j_aload_n (pc := 54) dX11_owner_54 rfl ?_
          refine j_iload_n (pc := 55) dX11_owner_55 rfl ?_
          refine j_iload_n (pc := 56) dX11_owner_56 rfl ?_
          refine j_goI (pc := 57) (j_runV k_X11_121 m_X2_addOwner (c_hOw2 X I3 i c p (by omega) hla.1 (by omega)) dX11_owner_57 rfl (by decide) rfl (by decide) (by decide) rfl rfl (Nat.le_of_ble_eq_true rfl)) (fun r6 I6 h6 => ?_)
          obtain ⟨e6, e6'⟩ := h6
          refine j_reti dX11_owner_60 (?_) rfl
          have hz : ∀ z, z ≠ 2 → (z < 10 ∨ 17 < z) → I6 z = I3 z := by
            intro z q1 q2
            rw [e6']; unfold hAddOw
            rw [jSf_n (by omega), jSf_n (by omega)]
          have x6 := hz 106 (by omega) (by omega)
          refine c_mowner X _ i p _ ht hp T (by rw [x6]; exact hT) hT5 (by rw [x6]; exact hok) (fun h => by omega) (fun j q1 q2 q3 q4 => ?_) (fun j q1 q2 q3 q4 q5 => ?_) (fun j c' q1 q2 q3 q4 q5 q6 => ?_)
          · obtain rfl : i = j := by omega
            rw [x6] at q4
            omega
          · obtain rfl : i = j := by omega
            rw [x6] at q5
            omega
          · obtain rfl : i = j := by omega
            rw [x6] at q5
            obtain rfl : c = c' := by omega
            refine ⟨e6.symm, ?_⟩
            rw [x6]
            refine Inv_h hI (mAddOw (I3 106) i c p) hz (by rw [e6']; exact hR_ow hH hok (by omega) hc q6 p) rfl (okSt_ow hok (by omega) q6 q3) (fun k hk => ?_) ?_
            · unfold mAddOw; rw [jU_n (by omega), jU_n (by omega)]
            · unfold mAddOw; rw [jU_n (by omega), jU_n (by omega)]; exact Int.le_refl _
        · refine j_aload_n (pc := 49) dX11_owner_49 rfl ?_
          refine j_goI (pc := 50) (j_runV k_X11_92 m_X11_refuseFull (c_xfull X _) dX11_owner_50 rfl (by decide) rfl (by decide) (by decide) rfl rfl (Nat.le_of_ble_eq_true rfl)) (fun r5 I5 h5 => ?_)
          obtain ⟨rfl, rfl⟩ := h5
          refine j_reti dX11_owner_53 (?_) rfl
          have e21 : cRef I3 2 106 = I3 106 := by unfold cRef; rw [jSf_n (by omega)]
          refine c_mowner X _ i p _ ht hp T (by rw [e21]; exact hT) hT5 (ok_ref hI 2) (fun h => by omega) (fun j q1 q2 q3 q4 => ?_) (fun j q1 q2 q3 q4 q5 => ⟨rfl, Inv_ref hI (by omega)⟩) (fun j c' q1 q2 q3 q4 q5 q6 => ?_)
          · obtain rfl : i = j := by omega
            rw [e21] at q4
            omega
          · obtain rfl : i = j := by omega
            rw [e21] at q5
            omega
      · first
          | (have hguard : r1 = 0 := by omega
             exact kbad _ hI hok hT (Or.inl (by omega)))
          | (have hguard : r2 = 0 := by omega
             exact kbad _ hI hok hT (Or.inr (Or.inl (by omega))))
          | exact kbad _ hI hok hT (Or.inr (Or.inr ⟨i, rfl, by omega, by omega, by omega⟩))
/-- the text is changed, the rest stays -/
theorem Inv_t {I I' : jMI} (h : Inv I) (hz : ∀ z, z ≠ 78 → z ≠ 79 → z ≠ 105 → z ≠ 108 → I' z = I z) (h5 : ∀ j, j ≠ 5 → I' 105 j = I 105 j) (ht : txR I') : Inv I' := by
  obtain ⟨⟨u, u1, u2, u3⟩, -, ⟨c1, c2⟩, ⟨d1, d2, d3⟩, e1, e2⟩ := h
  have z0 := hz 0 (by omega) (by omega) (by omega) (by omega)
  have z6 := hz 106 (by omega) (by omega) (by omega) (by omega)
  have z7 := hz 107 (by omega) (by omega) (by omega) (by omega)
  have z11 := hz 111 (by omega) (by omega) (by omega) (by omega)
  refine ⟨⟨u, ?_, ?_, ?_⟩, ht, ⟨?_, ?_⟩, ⟨?_, ?_, ?_⟩, ?_, ?_⟩
  · rw [h5 16 (by omega)]; exact u1
  · rw [z6, z11]; exact u2
  · rw [z6, z11]; exact nR_fr u3 (fun z q => hz z (by omega) (by omega) (by omega) (by omega))
  · rw [z0, h5 1 (by omega)]; exact c1
  · rw [z0, h5 2 (by omega)]; exact c2
  · rw [z0, z7]; exact d1
  · rw [z0, z7]; exact d2
  · rw [z0, z7]; exact d3
  · exact imR_fr e1 (by rw [hz 77 (by omega) (by omega) (by omega) (by omega)]) (by rw [hz 120 (by omega) (by omega) (by omega) (by omega)]) (fun j _ => by rw [hz 121 (by omega) (by omega) (by omega) (by omega)]) (fun j _ => by rw [hz 122 (by omega) (by omega) (by omega) (by omega)]) (by rw [hz 123 (by omega) (by omega) (by omega) (by omega)]) (fun z a b => hz z (by omega) (by omega) (by omega) (by omega))
  · exact imR_fr e2 (by rw [hz 77 (by omega) (by omega) (by omega) (by omega)]) (by rw [hz 120 (by omega) (by omega) (by omega) (by omega)]) (fun j _ => by rw [hz 121 (by omega) (by omega) (by omega) (by omega)]) (fun j _ => by rw [hz 122 (by omega) (by omega) (by omega) (by omega)]) (by rw [hz 123 (by omega) (by omega) (by omega) (by omega)]) (fun z a b => hz z (by omega) (by omega) (by omega) (by omega))
set_option maxHeartbeats 1000000 in
theorem o_type (X : jX) (I : jMI) (c : Int) (hI : Inv I) (hc : -2147483648 ≤ c ∧ c < 2147483648) : C_X11_type X [jR 0, jI c] I (fun v I1 => C_X12_type X [jR 105, jI c] I1 (fun v' I2 => v' = v ∧ Inv I2)) := by
  refine CG.of (by decide) [some (jR 0), some (jI c)] rfl (Nat.le_of_ble_eq_true rfl) ?_
  obtain ⟨n, t1, t2, t3, t4, t5⟩ := hI.2.1
  refine j_iload_n (pc := 0) dX11_type_0 rfl ?_
  refine j_bipush (pc := 1) dX11_type_1 (by decide) ?_
  refine j_goI (pc := 3) (j_runS k_X11_80 m_X11_within (c_xin X I c 127 hc (by omega)) dX11_type_3 (by decide) rfl rfl (Nat.le_of_ble_eq_true rfl)) (fun r1 I1 h1 => ?_)
  obtain ⟨h1, rfl⟩ := h1
  refine j_if_ne (pc := 6) 16 dX11_type_6 (by decide) (by omega) (fun h_6 => ?_) (fun h_6 => ?_)
  · refine j_aload_n (pc := 16) dX11_type_16 rfl ?_
    refine j_getR (pc := 17) f_X11_27 dX11_type_17 rfl rfl (by decide) rfl ?_
    refine j_getI (pc := 20) f_X11_125 dX11_type_20 rfl rfl (by decide) ?_
    rw [t2]
    refine j_sipush (pc := 23) dX11_type_23 (by decide) ?_
    refine j_icmp_lt (pc := 26) 34 dX11_type_26 (by decide) (by omega) (by omega) (fun h_26 => ?_) (fun h_26 => ?_)
    · obtain ⟨b, rfl⟩ := Int.eq_ofNat_of_zero_le (show 0 ≤ c by omega)
      refine j_aload_n (pc := 34) dX11_type_34 rfl ?_
      refine j_getR (pc := 35) f_X11_27 dX11_type_35 rfl rfl (by decide) rfl ?_
      refine j_iload_n (pc := 38) dX11_type_38 rfl ?_
      refine j_goI (pc := 39) (j_runV k_X11_128 m_X8_append (c_append X I1 n b t2 (by omega) (by omega)) dX11_type_39 rfl (by decide) rfl (by decide) (by decide) rfl rfl (Nat.le_of_ble_eq_true rfl)) (fun r6 I6 h6 => ?_)
      obtain ⟨e6, e6'⟩ := h6
      refine j_reti dX11_type_42 (?_) rfl
      have x78 : I6 78 = jU (I1 78) 1 ((n : Int) + 1) := by rw [e6', jSf_s]
      have x79 : I6 79 = jU (I1 79) n b := by rw [e6', jSf_n (by omega), jSf_s]
      have hz : ∀ z, z ≠ 78 → z ≠ 79 → I6 z = I1 z := fun z q1 q2 => by rw [e6', jSf_n q1, jSf_n q2]
      have x105 := hz 105 (by omega) (by omega)
      have x108 := hz 108 (by omega) (by omega)
      refine c_mtype X _ b _ hc n (by rw [x105]; exact t3) t1 (fun _ => by omega) (fun _ _ => by omega) (fun q1 q2 => ⟨e6.symm, ?_⟩)
      rw [x105, x108]
      generalize hI7 : jSf (jSf I6 108 (jU (I1 108) n b)) 105 (jU (I1 105) 5 ((n : Int) + 1)) = I7
      have y5 : I7 105 = jU (I1 105) 5 ((n : Int) + 1) := by rw [← hI7, jSf_s]
      have y8 : I7 108 = jU (I1 108) n b := by rw [← hI7, jSf_n (by omega), jSf_s]
      have yz : ∀ z, z ≠ 105 → z ≠ 108 → I7 z = I6 z := fun z q1 q2 => by rw [← hI7, jSf_n q1, jSf_n q2]
      refine Inv_t hI (fun z q1 q2 q3 q4 => (yz z q3 q4).trans (hz z q1 q2)) (fun j hj => by rw [y5, jU_n hj]) ⟨n + 1, by omega, ?_, ?_, fun i hi => ?_, fun i hi => ?_⟩
      · rw [yz 78 (by omega) (by omega), x78, jU_s]; omega
      · rw [y5, jU_s]; omega
      · rw [yz 79 (by omega) (by omega), x79, y8]
        by_cases hin : i = n
        · subst hin; rw [jU_s, jU_s]
        · rw [jU_n hin, jU_n hin]; exact t4 i (by omega)
      · rw [y8]
        by_cases hin : i = n
        · subst hin; rw [jU_s]; omega
        · rw [jU_n hin]; exact t5 i (by omega)
    · refine j_aload_n (pc := 29) dX11_type_29 rfl ?_
      refine j_goI (pc := 30) (j_runV k_X11_92 m_X11_refuseFull (c_xfull X _) dX11_type_30 rfl (by decide) rfl (by decide) (by decide) rfl rfl (Nat.le_of_ble_eq_true rfl)) (fun r5 I5 h5 => ?_)
      obtain ⟨rfl, rfl⟩ := h5
      refine j_reti dX11_type_33 (?_) rfl
      exact c_mtype X _ c _ hc n (by unfold cRef; rw [jSf_n (by omega)]; exact t3) t1 (fun _ => by omega) (fun _ _ => ⟨rfl, Inv_ref hI (by omega)⟩) (fun _ _ => by omega)
  · refine j_aload_n (pc := 9) dX11_type_9 rfl ?_
    refine j_bipush (pc := 10) dX11_type_10 (by decide) ?_
    refine j_goI (pc := 12) (j_runV k_X11_84 m_X11_refuseBad (c_xbad X _ (-2)) dX11_type_12 rfl (by decide) rfl (by decide) (by decide) rfl rfl (Nat.le_of_ble_eq_true rfl)) (fun r4 I4 h4 => ?_)
    obtain ⟨rfl, rfl⟩ := h4
    refine j_reti dX11_type_15 (?_) rfl
    exact c_mtype X _ c _ hc n (by unfold cRef; rw [jSf_n (by omega)]; exact t3) t1 (fun _ => ⟨rfl, Inv_ref hI (by omega)⟩) (fun _ _ => by omega) (fun _ _ => by omega)
set_option maxHeartbeats 1000000 in
theorem o_clear (X : jX) (I : jMI) (hI : Inv I) : C_X11_clear X [jR 0] I (fun v I1 => C_X12_clear X [jR 105] I1 (fun v' I2 => v' = v ∧ Inv I2)) := by
  refine CG.of (by decide) [some (jR 0), none] rfl (Nat.le_of_ble_eq_true rfl) ?_
  obtain ⟨n, t1, t2, t3, t4, t5⟩ := hI.2.1
  refine j_aload_n (pc := 0) dX11_clear_0 rfl ?_
  refine j_getR (pc := 1) f_X11_27 dX11_clear_1 rfl rfl (by decide) rfl ?_
  refine j_getI (pc := 4) f_X11_125 dX11_clear_4 rfl rfl (by decide) ?_
  refine j_istore_n1 (pc := 7) dX11_clear_7 (by decide) rfl ?_
  refine j_aload_n (pc := 8) dX11_clear_8 rfl ?_
  refine j_getR (pc := 9) f_X11_27 dX11_clear_9 rfl rfl (by decide) rfl ?_
  refine j_iconst (pc := 12) dX11_clear_12 ?_
  refine j_putI_b (pc := 13) f_X11_125 dX11_clear_13 rfl rfl rfl (by decide) ?_
  refine j_iload_n (pc := 16) dX11_clear_16 rfl ?_
  refine j_reti dX11_clear_17 (?_) rfl
  generalize hI6 : jSf I 78 (jU (I 78) 1 0) = I6
  have x78 : I6 78 = jU (I 78) 1 0 := by rw [← hI6, jSf_s]
  have hz : ∀ z, z ≠ 78 → I6 z = I z := fun z q1 => by rw [← hI6, jSf_n q1]
  have x105 := hz 105 (by omega)
  refine c_mclear X _ _ ⟨by rw [x105, t3, t2], ?_⟩
  rw [x105]
  generalize hI7 : jSf I6 105 (jU (I 105) 5 0) = I7
  have y5 : I7 105 = jU (I 105) 5 0 := by rw [← hI7, jSf_s]
  have yz : ∀ z, z ≠ 105 → I7 z = I6 z := fun z q1 => by rw [← hI7, jSf_n q1]
  refine Inv_t hI (fun z q1 q2 q3 q4 => (yz z q3).trans (hz z q1)) (fun j hj => by rw [y5, jU_n hj]) ⟨0, by omega, ?_, ?_, fun i hi => by omega, fun i hi => by omega⟩
  · rw [yz 78 (by omega), x78, jU_s]; rfl
  · rw [y5, jU_s]; rfl
