/-! ===== the reference: going ===== -/
def mGo (f : Nat → Int) (p room w aw : Nat) : Nat → Int := jU (jU f (2 + p) room) 1 ((aw ||| w : Nat) : Int)
def min59 (a : Int) : Int := if a > 59 then 59 else a
theorem okSt_0 {f : Nat → Int} (h : okSt f) : 0 ≤ f 0 ∧ f 0 ≤ 59 := by have := h 0 (by omega); unfold stLo stHi at this; omega
theorem okSt_1 {f : Nat → Int} (h : okSt f) : ∃ w : Nat, f 1 = w ∧ w < 32 := by
  have := h 1 (by omega); unfold stLo stHi at this
  obtain ⟨w, hw⟩ := Int.eq_ofNat_of_zero_le (show 0 ≤ f 1 by omega)
  exact ⟨w, hw, by omega⟩
theorem okSt_2 {f : Nat → Int} (h : okSt f) {p : Nat} (hp : p < 3) : ∃ a : Nat, f (2 + p) = a ∧ a < 8 := by
  have := h (2 + p) (by omega); unfold stLo stHi at this
  obtain ⟨w, hw⟩ := Int.eq_ofNat_of_zero_le (show 0 ≤ f (2 + p) by omega)
  exact ⟨w, hw, by omega⟩
theorem okSt_5 {f : Nat → Int} (h : okSt f) : ∃ m : Nat, f 5 = m ∧ m ≤ 5 := by
  have := h 5 (by omega); unfold stLo stHi at this
  obtain ⟨w, hw⟩ := Int.eq_ofNat_of_zero_le (show 0 ≤ f 5 by omega)
  exact ⟨w, hw, by omega⟩
theorem c_goes (X : jX) (I : jMI) (p room a aw : Nat) (hp : p < 3) (hr : room < 8) (ha : I 106 (2 + p) = a) (ha8 : a < 8) (haw : I 106 1 = aw) (haw32 : aw < 32) (hc : 0 ≤ cr (I 106) a room) (hok : okSt (I 106)) : C_X12_goes X [jR 105, jI p, jI room] I (fun r I' => ∃ (w : Nat) (g : Nat → Int), r = w ∧ isW (I 106) (cr (I 106) a room) room (I 106 0) w ∧ I' = jSf (jSf I 110 g) 106 (mGo (I 106) p room w aw)) := by
  refine CG.of (by decide) [some (jR 105), some (jI p), some (jI room), none] rfl (Nat.le_of_ble_eq_true rfl) ?_
  have h0 := okSt_0 hok
  have hcr := cr_rng hok ha8 hr
  refine j_aload_n (pc := 0) dX12_goes_0 rfl ?_
  refine j_aload_n (pc := 1) dX12_goes_1 rfl ?_
  refine j_aload_n (pc := 2) dX12_goes_2 rfl ?_
  refine j_getR (pc := 3) f_X12_7 dX12_goes_3 rfl rfl (by decide) rfl ?_
  refine j_iconst (pc := 6) dX12_goes_6 ?_
  refine j_iload_n (pc := 7) dX12_goes_7 rfl ?_
  refine j_iadd (pc := 8) dX12_goes_8 ?_
  refine j_iald_b (pc := 9) (2 + p) dX12_goes_9 rfl (by decide) (by decide) (by omega) (by omega) ?_
  rw [ha]
  refine j_iload_n (pc := 10) dX12_goes_10 rfl ?_
  refine j_goI (pc := 11) (j_runV k_X12_99 m_X12_creakOf (c_creakOf X I a room ha8 hr) dX12_goes_11 rfl (by decide) rfl (by decide) (by decide) rfl rfl (Nat.le_of_ble_eq_true rfl)) (fun r1 I1 h1 => ?_)
  obtain ⟨rfl, rfl⟩ := h1
  refine j_iload_n (pc := 14) dX12_goes_14 rfl ?_
  refine j_aload_n (pc := 15) dX12_goes_15 rfl ?_
  refine j_getR (pc := 16) f_X12_7 dX12_goes_16 rfl rfl (by decide) rfl ?_
  refine j_iconst (pc := 19) dX12_goes_19 ?_
  refine j_iald_b (pc := 20) (0) dX12_goes_20 rfl (by decide) (by decide) (by omega) (by omega) ?_
  refine j_goI (pc := 21) (j_runV k_X12_211 m_X12_wakesBy (c_wakesBy X I1 (cr (I1 106) a room) room (I1 106 0) (by omega) hr h0 hok) dX12_goes_21 rfl (by decide) rfl (by decide) (by decide) rfl rfl (Nat.le_of_ble_eq_true rfl)) (fun r2 I2 h2 => ?_)
  obtain ⟨w, g, rfl, rfl, hw⟩ := h2
  refine j_istore_n3 (pc := 24) dX12_goes_24 (by decide) rfl ?_
  refine j_aload_n (pc := 25) dX12_goes_25 rfl ?_
  refine j_getR (pc := 26) f_X12_7 dX12_goes_26 rfl rfl (by decide) rfl ?_
  refine j_iconst (pc := 29) dX12_goes_29 ?_
  refine j_iload_n (pc := 30) dX12_goes_30 rfl ?_
  refine j_iadd (pc := 31) dX12_goes_31 ?_
  refine j_iload_n (pc := 32) dX12_goes_32 rfl ?_
  refine j_iast_b (pc := 33) (2 + p) dX12_goes_33 rfl (by decide) (by decide) (by omega) (by omega) ?_
  refine j_aload_n (pc := 34) dX12_goes_34 rfl ?_
  refine j_getR (pc := 35) f_X12_7 dX12_goes_35 rfl rfl (by decide) rfl ?_
  refine j_iconst (pc := 38) dX12_goes_38 ?_
  refine j_dup2 (pc := 39) dX12_goes_39 ?_
  refine j_iald_a (pc := 40) (1) dX12_goes_40 rfl (by decide) (by decide) (by omega) (by omega) ?_
  rw [jSf_n (by decide), jU_n (by omega), haw]
  refine j_iload_n (pc := 41) dX12_goes_41 rfl ?_
  refine j_ior (pc := 42) dX12_goes_42 ?_
  rw [jbor_n (by omega) (by have := hw.1; omega)]
  refine j_iast_a (pc := 43) (1) dX12_goes_43 rfl (by decide) (by decide) (by omega) (by omega) ?_
  refine j_iload_n (pc := 44) dX12_goes_44 rfl ?_
  exact j_reti dX12_goes_45 (⟨w, g, rfl, hw, rfl⟩) rfl
theorem c_mstep (X : jX) (I : jMI) (p r : Int) (q : Int → jMI → Prop) (hp : -2147483648 ≤ p ∧ p < 2147483648) (hr : -2147483648 ≤ r ∧ r < 2147483648) (u : Nat) (hu : I 105 16 = u) (hu8 : u ≤ 8) (hok : okSt (I 106))
    (q0 : ¬ ((0 ≤ p ∧ p ≤ 2) ∧ (0 ≤ r ∧ r ≤ 7)) → q (-2) (mRef I 0))
    (q1 : ∀ i j a : Nat, p = i → r = j → i < 3 → j < 8 → I 106 (2 + i) = a → a < 8 → cr (I 106) a j < 0 → q (-3) (mRef I 1))
    (q2 : ∀ (i j a aw w : Nat) (I' : jMI), p = i → r = j → i < 3 → j < 8 → I 106 (2 + i) = a → a < 8 → I 106 1 = aw → aw < 32 → 0 ≤ cr (I 106) a j → isW (I 106) (cr (I 106) a j) j (I 106 0) w → mSc (jSf (mNote I u) 106 (jU (mGo (I 106) i j w aw) 0 (min59 (I 106 0 + 1)))) I' → q w I') : C_X12_step X [jR 105, jI p, jI r] I q := by
  refine CG.of (by decide) [some (jR 105), some (jI p), some (jI r), none] rfl (Nat.le_of_ble_eq_true rfl) ?_
  have kbad : ¬ ((0 ≤ p ∧ p ≤ 2) ∧ (0 ≤ r ∧ r ≤ 7)) → S_X12_step X 19 [some (jR 105), some (jI p), some (jI r), none] [] I q := by
    intro hz
    refine j_aload_n (pc := 19) dX12_step_19 rfl ?_
    refine j_goI (pc := 20) (j_runV k_X12_95 m_X12_bad (c_bad X I) dX12_step_20 rfl (by decide) rfl (by decide) (by decide) rfl rfl (Nat.le_of_ble_eq_true rfl)) (fun r9 I9 h9 => ?_)
    obtain ⟨rfl, rfl⟩ := h9
    exact j_reti dX12_step_23 (q0 hz) rfl
  refine j_iload_n (pc := 0) dX12_step_0 rfl ?_
  refine j_i2l (pc := 1) dX12_step_1 (by omega) ?_
  refine j_lconst0 (pc := 2) dX12_step_2 ?_
  refine j_ldc2 (pc := 3) cl_X12_118 dX12_step_3 ?_
  refine j_goI (pc := 6) (j_runS k_X12_75 m_X12_in (c_in X I p 0 2 hp (by omega) (by omega)) dX12_step_6 (by decide) rfl rfl (Nat.le_of_ble_eq_true rfl)) (fun r1 I1 h1 => ?_)
  obtain ⟨rfl, rfl⟩ := h1
  refine j_if_eq (pc := 9) 19 dX12_step_9 (by decide) (by omega) (fun h_9 => ?_) (fun h_9 => ?_)
  · exact kbad (by omega)
  · refine j_iload_n (pc := 12) dX12_step_12 rfl ?_
    refine j_goI (pc := 13) (j_runS k_X12_89 m_X12_isRoom (c_mRoom X I1 r hr) dX12_step_13 (by decide) rfl rfl (Nat.le_of_ble_eq_true rfl)) (fun r2 I2 h2 => ?_)
    obtain ⟨rfl, rfl⟩ := h2
    refine j_if_ne (pc := 16) 24 dX12_step_16 (by decide) (by omega) (fun h_16 => ?_) (fun h_16 => ?_)
    · obtain ⟨i, rfl⟩ := Int.eq_ofNat_of_zero_le (show 0 ≤ p by omega)
      obtain ⟨j, rfl⟩ := Int.eq_ofNat_of_zero_le (show 0 ≤ r by omega)
      obtain ⟨a, ha, ha8⟩ := okSt_2 hok (show i < 3 by omega)
      obtain ⟨aw, haw, haw32⟩ := okSt_1 hok
      have hcr := cr_rng hok (a := a) (b := j) ha8 (by omega)
      have h0 := okSt_0 hok
      refine j_aload_n (pc := 24) dX12_step_24 rfl ?_
      refine j_aload_n (pc := 25) dX12_step_25 rfl ?_
      refine j_getR (pc := 26) f_X12_7 dX12_step_26 rfl rfl (by decide) rfl ?_
      refine j_iconst (pc := 29) dX12_step_29 ?_
      refine j_iload_n (pc := 30) dX12_step_30 rfl ?_
      refine j_iadd (pc := 31) dX12_step_31 ?_
      refine j_iald_b (pc := 32) (2 + i) dX12_step_32 rfl (by decide) (by decide) (by omega) (by omega) ?_
      rw [ha]
      refine j_iload_n (pc := 33) dX12_step_33 rfl ?_
      refine j_goI (pc := 34) (j_runV k_X12_99 m_X12_creakOf (c_creakOf X I2 a j ha8 (by omega)) dX12_step_34 rfl (by decide) rfl (by decide) (by decide) rfl rfl (Nat.le_of_ble_eq_true rfl)) (fun r3 I3 h3 => ?_)
      obtain ⟨rfl, rfl⟩ := h3
      refine j_if_ge (pc := 37) 45 dX12_step_37 (by decide) (by omega) (fun h_37 => ?_) (fun h_37 => ?_)
      · refine j_aload_n (pc := 45) dX12_step_45 rfl ?_
        refine j_goV (pc := 46) (j_runV k_X12_217 m_X12_note (c_note X I3 u hu hu8) dX12_step_46 rfl (by decide) rfl (by decide) (by decide) rfl rfl (Nat.le_of_ble_eq_true rfl)) (fun I5 h5 => ?_)
        subst h5
        have e6 : mNote I3 u 106 = I3 106 := by unfold mNote; rw [jSf_n (by decide), jSf_n (by decide)]
        refine j_aload_n (pc := 49) dX12_step_49 rfl ?_
        refine j_iload_n (pc := 50) dX12_step_50 rfl ?_
        refine j_iload_n (pc := 51) dX12_step_51 rfl ?_
        refine j_goI (pc := 52) (j_runV k_X12_220 m_X12_goes (c_goes X (mNote I3 u) i j a aw (by omega) (by omega) (by rw [e6]; exact ha) ha8 (by rw [e6]; exact haw) haw32 (by rw [e6]; omega) (by rw [e6]; exact hok)) dX12_step_52 rfl (by decide) rfl (by decide) (by decide) rfl rfl (Nat.le_of_ble_eq_true rfl)) (fun r6 I6 h6 => ?_)
        obtain ⟨w, g, rfl, hw, rfl⟩ := h6
        rw [e6] at hw ⊢
        have e0 : mGo (I3 106) i j w aw 0 = I3 106 0 := by unfold mGo; rw [jU_n (by omega), jU_n (by omega)]
        refine j_istore_n3 (pc := 55) dX12_step_55 (by decide) rfl ?_
        refine j_aload_n (pc := 56) dX12_step_56 rfl ?_
        refine j_iconst (pc := 57) dX12_step_57 ?_
        refine j_goV (pc := 58) (j_runV k_X12_223 m_X12_passes (c_passes X (jSf (jSf (mNote I3 u) 110 g) 106 (mGo (I3 106) i j w aw)) 1 (by omega) (by rw [jSf_s, e0]; exact h0)) dX12_step_58 rfl (by decide) rfl (by decide) (by decide) rfl rfl (Nat.le_of_ble_eq_true rfl)) (fun I7 h7 => ?_)
        rw [jSf_s, jSf_f, e0] at h7
        subst h7
        refine j_iload_n (pc := 61) dX12_step_61 rfl ?_
        refine j_reti dX12_step_62 (?_) rfl
        refine q2 i j a aw w _ rfl rfl (by omega) (by omega) ha ha8 haw haw32 (by omega) hw (fun k hk => ?_)
        by_cases hk6 : k = 106
        · subst hk6; rw [jSf_s, jSf_s]; rfl
        · rw [jSf_n hk6, jSf_n hk6, jSf_n (by omega)]
      · refine j_aload_n (pc := 40) dX12_step_40 rfl ?_
        refine j_goI (pc := 41) (j_runV k_X12_214 m_X12_no (c_no X I3) dX12_step_41 rfl (by decide) rfl (by decide) (by decide) rfl rfl (Nat.le_of_ble_eq_true rfl)) (fun r4 I4 h4 => ?_)
        obtain ⟨rfl, rfl⟩ := h4
        exact j_reti dX12_step_44 (q1 i j a rfl rfl (by omega) (by omega) ha ha8 (by omega)) rfl
    · exact kbad (by omega)
theorem c_mwaits (X : jX) (I : jMI) (n : Int) (q : Int → jMI → Prop) (hn : -2147483648 ≤ n ∧ n < 2147483648) (u : Nat) (hu : I 105 16 = u) (hu8 : u ≤ 8) (hok : okSt (I 106))
    (q0 : ¬ (1 ≤ n ∧ n ≤ 59) → q (-2) (mRef I 0)) (q1 : (1 ≤ n ∧ n ≤ 59) → q (min59 (I 106 0 + n)) (jSf (mNote I u) 106 (jU (I 106) 0 (min59 (I 106 0 + n))))) : C_X12_waits X [jR 105, jI n] I q := by
  refine CG.of (by decide) [some (jR 105), some (jI n)] rfl (Nat.le_of_ble_eq_true rfl) ?_
  have h0 := okSt_0 hok
  refine j_iload_n (pc := 0) dX12_waits_0 rfl ?_
  refine j_i2l (pc := 1) dX12_waits_1 (by omega) ?_
  refine j_lconst1 (pc := 2) dX12_waits_2 ?_
  refine j_ldc2 (pc := 3) cl_X12_79 dX12_waits_3 ?_
  refine j_goI (pc := 6) (j_runS k_X12_75 m_X12_in (c_in X I n 1 59 hn (by omega) (by omega)) dX12_waits_6 (by decide) rfl rfl (Nat.le_of_ble_eq_true rfl)) (fun r1 I1 h1 => ?_)
  obtain ⟨rfl, rfl⟩ := h1
  refine j_if_ne (pc := 9) 17 dX12_waits_9 (by decide) (by omega) (fun h_9 => ?_) (fun h_9 => ?_)
  · refine j_aload_n (pc := 17) dX12_waits_17 rfl ?_
    refine j_goV (pc := 18) (j_runV k_X12_217 m_X12_note (c_note X I1 u hu hu8) dX12_waits_18 rfl (by decide) rfl (by decide) (by decide) rfl rfl (Nat.le_of_ble_eq_true rfl)) (fun I5 h5 => ?_)
    subst h5
    have e6 : mNote I1 u 106 = I1 106 := by unfold mNote; rw [jSf_n (by decide), jSf_n (by decide)]
    refine j_aload_n (pc := 21) dX12_waits_21 rfl ?_
    refine j_iload_n (pc := 22) dX12_waits_22 rfl ?_
    refine j_goV (pc := 23) (j_runV k_X12_223 m_X12_passes (c_passes X (mNote I1 u) n (by omega) (by rw [e6]; exact h0)) dX12_waits_23 rfl (by decide) rfl (by decide) (by decide) rfl rfl (Nat.le_of_ble_eq_true rfl)) (fun I7 h7 => ?_)
    rw [e6] at h7
    subst h7
    refine j_aload_n (pc := 26) dX12_waits_26 rfl ?_
    refine j_getR (pc := 27) f_X12_7 dX12_waits_27 rfl rfl (by decide) rfl ?_
    refine j_iconst (pc := 30) dX12_waits_30 ?_
    refine j_iald_a (pc := 31) (0) dX12_waits_31 rfl (by decide) (by decide) (by omega) (by omega) ?_
    rw [jU_s]
    exact j_reti dX12_waits_32 (q1 (by omega)) rfl
  · refine j_aload_n (pc := 12) dX12_waits_12 rfl ?_
    refine j_goI (pc := 13) (j_runV k_X12_95 m_X12_bad (c_bad X I1) dX12_waits_13 rfl (by decide) rfl (by decide) (by decide) rfl rfl (Nat.le_of_ble_eq_true rfl)) (fun r9 I9 h9 => ?_)
    obtain ⟨rfl, rfl⟩ := h9
    exact j_reti dX12_waits_16 (q0 (by omega)) rfl
def mUndo (I : jMI) (u : Nat) : jMI := jSf (jSf I 105 (jU (I 105) 16 ((u : Int) - 1))) 106 (fun j => if j < 5 then I 111 (5 * (u - 1) + j) else I 106 j)
theorem c_mundo (X : jX) (I : jMI) (q : Int → jMI → Prop) (u : Nat) (hu : I 105 16 = u) (hu8 : u ≤ 8) (q0 : u = 0 → q (-3) (mRef I 1)) (q1 : 0 < u → q (I 111 (5 * (u - 1))) (mUndo I u)) : C_X12_undo X [jR 105] I q := by
  refine CG.of (by decide) [some (jR 105), none] rfl (Nat.le_of_ble_eq_true rfl) ?_
  have key : 0 < u → ∀ (k : Nat) (f : Nat → Int), k ≤ 5 → (∀ j, f j = if j < k then I 111 (5 * (u - 1) + j) else I 106 j) → S_X12_undo X 24 [some (jR 105), some (jI k)] [] (jSf (jSf I 105 (jU (I 105) 16 ((u : Int) - 1))) 106 f) q := by
    intro hu0
    refine mu2 (fun k _ => 5 - k) _ (fun k f ih hk hf => ?_)
    refine j_iload_n (pc := 24) dX12_undo_24 rfl ?_
    refine j_iconst (pc := 25) dX12_undo_25 ?_
    refine j_icmp_ge (pc := 26) 54 dX12_undo_26 (by decide) (by omega) (by omega) (fun h_26 => ?_) (fun h_26 => ?_)
    · refine j_aload_n (pc := 54) dX12_undo_54 rfl ?_
      refine j_getR (pc := 55) f_X12_7 dX12_undo_55 rfl rfl (by decide) rfl ?_
      refine j_iconst (pc := 58) dX12_undo_58 ?_
      refine j_iald_a (pc := 59) (0) dX12_undo_59 rfl (by decide) (by decide) (by omega) (by omega) ?_
      refine j_reti dX12_undo_60 (?_) rfl
      obtain rfl : k = 5 := by omega
      have h1 := q1 hu0
      rw [hf 0, if_pos (by omega)]
      unfold mUndo at h1
      rw [show f = (fun j => if j < 5 then I 111 (5 * (u - 1) + j) else I 106 j) from funext hf]
      exact h1
    · refine j_aload_n (pc := 29) dX12_undo_29 rfl ?_
      refine j_getR (pc := 30) f_X12_7 dX12_undo_30 rfl rfl (by decide) rfl ?_
      refine j_iload_n (pc := 33) dX12_undo_33 rfl ?_
      refine j_aload_n (pc := 34) dX12_undo_34 rfl ?_
      refine j_getR (pc := 35) f_X12_29 dX12_undo_35 rfl rfl (by decide) rfl ?_
      refine j_iconst (pc := 38) dX12_undo_38 ?_
      refine j_aload_n (pc := 39) dX12_undo_39 rfl ?_
      refine j_getI_c (pc := 40) f_X12_81 dX12_undo_40 rfl rfl (by decide) (by decide) ?_
      rw [jSf_s, jU_s]
      refine j_imul (pc := 43) dX12_undo_43 ?_
      refine j_iload_n (pc := 44) dX12_undo_44 rfl ?_
      refine j_iadd (pc := 45) dX12_undo_45 ?_
      refine j_iald_c (pc := 46) (5 * (u - 1) + k) dX12_undo_46 rfl (by decide) (by decide) (by omega) (by omega) (by decide) ?_
      rw [jSf_n (by decide)]
      refine j_iast_a (pc := 47) (k) dX12_undo_47 rfl (by decide) (by decide) (by omega) (by omega) ?_
      refine j_iinc1 (pc := 48) dX12_undo_48 (by decide) rfl ?_
      refine j_goto (pc := 51) 24 dX12_undo_51 (by decide) ?_
      refine ih (k + 1) _ (by omega) (by omega) (fun j => ?_)
      by_cases hj : j = k
      · subst hj
        rw [jU_s, if_pos (by omega)]
      · rw [jU_n hj, hf j]
        repeat' split
        all_goals first | rfl | omega
  refine j_aload_n (pc := 0) dX12_undo_0 rfl ?_
  refine j_getI (pc := 1) f_X12_81 dX12_undo_1 rfl rfl (by decide) ?_
  rw [hu]
  refine j_if_ne (pc := 4) 12 dX12_undo_4 (by decide) (by omega) (fun h_4 => ?_) (fun h_4 => ?_)
  · refine j_aload_n (pc := 12) dX12_undo_12 rfl ?_
    refine j_dupR (pc := 13) dX12_undo_13 ?_
    refine j_getI (pc := 14) f_X12_81 dX12_undo_14 rfl rfl (by decide) ?_
    rw [hu]
    refine j_iconst (pc := 17) dX12_undo_17 ?_
    refine j_isub (pc := 18) dX12_undo_18 ?_
    refine j_putI_b (pc := 19) f_X12_81 dX12_undo_19 rfl rfl rfl (by decide) ?_
    refine j_iconst (pc := 22) dX12_undo_22 ?_
    refine j_istore_n1 (pc := 23) dX12_undo_23 (by decide) rfl ?_
    have hk := key (by omega) 0 (I 106) (by omega) (fun j => by rw [if_neg (by omega)])
    rw [show I 106 = (jSf I 105 (jU (I 105) 16 ((u : Int) - 1))) 106 from (jSf_n (by decide)).symm, jSf_i] at hk
    exact hk
  · refine j_aload_n (pc := 7) dX12_undo_7 rfl ?_
    refine j_goI (pc := 8) (j_runV k_X12_214 m_X12_no (c_no X I) dX12_undo_8 rfl (by decide) rfl (by decide) (by decide) rfl rfl (Nat.le_of_ble_eq_true rfl)) (fun r9 I9 h9 => ?_)
    obtain ⟨rfl, rfl⟩ := h9
    exact j_reti dX12_undo_11 (q0 (by omega)) rfl
theorem c_mof (X : jX) (I : jMI) (s w : Int) (q : Int → jMI → Prop) (hs : -2147483648 ≤ s ∧ s < 2147483648) (hw : -2147483648 ≤ w ∧ w < 2147483648) (hok : okSt (I 106))
    (q0 : ¬ ((0 ≤ s ∧ s < I 106 5) ∧ (0 ≤ w ∧ w ≤ 3)) → q (-2) (mRef I 0))
    (q1 : ∀ i aw : Nat, s = i → (i : Int) < I 106 5 → (0 ≤ w ∧ w ≤ 3) → I 106 1 = aw → aw < 32 → q (if w = 0 then I 106 (6 + i) else if w = 1 then I 106 (11 + i) else if w = 2 then I 106 (16 + i) else if aw.testBit i then 1 else 0) I) : C_X12_of X [jR 105, jI s, jI w] I q := by
  refine CG.of (by decide) [some (jR 105), some (jI s), some (jI w)] rfl (Nat.le_of_ble_eq_true rfl) ?_
  obtain ⟨m, hm, hm5⟩ := okSt_5 hok
  obtain ⟨aw, haw, haw32⟩ := okSt_1 hok
  have kbad : ¬ ((0 ≤ s ∧ s < I 106 5) ∧ (0 ≤ w ∧ w ≤ 3)) → S_X12_of X 20 [some (jR 105), some (jI s), some (jI w)] [] I q := by
    intro hz
    refine j_aload_n (pc := 20) dX12_of_20 rfl ?_
    refine j_goI (pc := 21) (j_runV k_X12_95 m_X12_bad (c_bad X I) dX12_of_21 rfl (by decide) rfl (by decide) (by decide) rfl rfl (Nat.le_of_ble_eq_true rfl)) (fun r9 I9 h9 => ?_)
    obtain ⟨rfl, rfl⟩ := h9
    exact j_reti dX12_of_24 (q0 hz) rfl
  refine j_aload_n (pc := 0) dX12_of_0 rfl ?_
  refine j_iload_n (pc := 1) dX12_of_1 rfl ?_
  refine j_goI (pc := 2) (j_runV k_X12_226 m_X12_isSleeper (c_isSleeper X I s hs (by omega)) dX12_of_2 rfl (by decide) rfl (by decide) (by decide) rfl rfl (Nat.le_of_ble_eq_true rfl)) (fun r1 I1 h1 => ?_)
  obtain ⟨rfl, rfl⟩ := h1
  refine j_if_eq (pc := 5) 20 dX12_of_5 (by decide) (by omega) (fun h_5 => ?_) (fun h_5 => ?_)
  · exact kbad (by omega)
  · refine j_iload_n (pc := 8) dX12_of_8 rfl ?_
    refine j_i2l (pc := 9) dX12_of_9 (by omega) ?_
    refine j_lconst0 (pc := 10) dX12_of_10 ?_
    refine j_ldc2 (pc := 11) cl_X12_229 dX12_of_11 ?_
    refine j_goI (pc := 14) (j_runS k_X12_75 m_X12_in (c_in X I1 w 0 3 hw (by omega) (by omega)) dX12_of_14 (by decide) rfl rfl (Nat.le_of_ble_eq_true rfl)) (fun r2 I2 h2 => ?_)
    obtain ⟨rfl, rfl⟩ := h2
    refine j_if_ne (pc := 17) 25 dX12_of_17 (by decide) (by omega) (fun h_17 => ?_) (fun h_17 => ?_)
    · obtain ⟨i, rfl⟩ := Int.eq_ofNat_of_zero_le (show 0 ≤ s by omega)
      have hq := q1 i aw rfl (by omega) (by omega) haw haw32
      refine j_iload_n (pc := 25) dX12_of_25 rfl ?_
      refine j_if_ne (pc := 26) 41 dX12_of_26 (by decide) (by omega) (fun h_26 => ?_) (fun h_26 => ?_)
      · refine j_iload_n (pc := 41) dX12_of_41 rfl ?_
        refine j_iconst (pc := 42) dX12_of_42 ?_
        refine j_icmp_ne (pc := 43) 58 dX12_of_43 (by decide) (by omega) (by omega) (fun h_43 => ?_) (fun h_43 => ?_)
        · refine j_iload_n (pc := 58) dX12_of_58 rfl ?_
          refine j_iconst (pc := 59) dX12_of_59 ?_
          refine j_icmp_ne (pc := 60) 75 dX12_of_60 (by decide) (by omega) (by omega) (fun h_60 => ?_) (fun h_60 => ?_)
          · refine j_aload_n (pc := 75) dX12_of_75 rfl ?_
            refine j_getR (pc := 76) f_X12_7 dX12_of_76 rfl rfl (by decide) rfl ?_
            refine j_iconst (pc := 79) dX12_of_79 ?_
            refine j_iald_b (pc := 80) (1) dX12_of_80 rfl (by decide) (by decide) (by omega) (by omega) ?_
            rw [haw]
            refine j_iload_n (pc := 81) dX12_of_81 rfl ?_
            refine j_ishr (pc := 82) dX12_of_82 ?_
            refine j_iconst (pc := 83) dX12_of_83 ?_
            refine j_iand (pc := 84) dX12_of_84 ?_
            try rw [jbit (by omega) (by omega)]
            refine j_reti dX12_of_85 (?_) rfl
            first
              | (rw [if_pos (by omega)] at hq; exact hq)
              | (rw [if_neg (by omega), if_pos (by omega)] at hq; exact hq)
              | (rw [if_neg (by omega), if_neg (by omega), if_pos (by omega)] at hq; exact hq)
              | (rw [if_neg (by omega), if_neg (by omega), if_neg (by omega)] at hq; exact hq)
          · refine j_aload_n (pc := 63) dX12_of_63 rfl ?_
            refine j_getR (pc := 64) f_X12_7 dX12_of_64 rfl rfl (by decide) rfl ?_
            refine j_bipush (pc := 67) dX12_of_67 (by decide) ?_
            refine j_iload_n (pc := 69) dX12_of_69 rfl ?_
            refine j_iadd (pc := 70) dX12_of_70 ?_
            refine j_iald_b (pc := 71) (16 + i) dX12_of_71 rfl (by decide) (by decide) (by omega) (by omega) ?_
            refine j_goto (pc := 72) 85 dX12_of_72 (by decide) ?_
            try rw [jbit (by omega) (by omega)]
            refine j_reti dX12_of_85 (?_) rfl
            first
              | (rw [if_pos (by omega)] at hq; exact hq)
              | (rw [if_neg (by omega), if_pos (by omega)] at hq; exact hq)
              | (rw [if_neg (by omega), if_neg (by omega), if_pos (by omega)] at hq; exact hq)
              | (rw [if_neg (by omega), if_neg (by omega), if_neg (by omega)] at hq; exact hq)
        · refine j_aload_n (pc := 46) dX12_of_46 rfl ?_
          refine j_getR (pc := 47) f_X12_7 dX12_of_47 rfl rfl (by decide) rfl ?_
          refine j_bipush (pc := 50) dX12_of_50 (by decide) ?_
          refine j_iload_n (pc := 52) dX12_of_52 rfl ?_
          refine j_iadd (pc := 53) dX12_of_53 ?_
          refine j_iald_b (pc := 54) (11 + i) dX12_of_54 rfl (by decide) (by decide) (by omega) (by omega) ?_
          refine j_goto (pc := 55) 85 dX12_of_55 (by decide) ?_
          try rw [jbit (by omega) (by omega)]
          refine j_reti dX12_of_85 (?_) rfl
          first
            | (rw [if_pos (by omega)] at hq; exact hq)
            | (rw [if_neg (by omega), if_pos (by omega)] at hq; exact hq)
            | (rw [if_neg (by omega), if_neg (by omega), if_pos (by omega)] at hq; exact hq)
            | (rw [if_neg (by omega), if_neg (by omega), if_neg (by omega)] at hq; exact hq)
      · refine j_aload_n (pc := 29) dX12_of_29 rfl ?_
        refine j_getR (pc := 30) f_X12_7 dX12_of_30 rfl rfl (by decide) rfl ?_
        refine j_bipush (pc := 33) dX12_of_33 (by decide) ?_
        refine j_iload_n (pc := 35) dX12_of_35 rfl ?_
        refine j_iadd (pc := 36) dX12_of_36 ?_
        refine j_iald_b (pc := 37) (6 + i) dX12_of_37 rfl (by decide) (by decide) (by omega) (by omega) ?_
        refine j_goto (pc := 38) 85 dX12_of_38 (by decide) ?_
        try rw [jbit (by omega) (by omega)]
        refine j_reti dX12_of_85 (?_) rfl
        first
          | (rw [if_pos (by omega)] at hq; exact hq)
          | (rw [if_neg (by omega), if_pos (by omega)] at hq; exact hq)
          | (rw [if_neg (by omega), if_neg (by omega), if_pos (by omega)] at hq; exact hq)
          | (rw [if_neg (by omega), if_neg (by omega), if_neg (by omega)] at hq; exact hq)
    · exact kbad (by omega)
theorem c_mwhere (X : jX) (I : jMI) (p : Int) (q : Int → jMI → Prop) (hp : -2147483648 ≤ p ∧ p < 2147483648) (q0 : ¬ (0 ≤ p ∧ p ≤ 2) → q (-2) (mRef I 0)) (q1 : ∀ i : Nat, p = i → i < 3 → q (I 106 (2 + i)) I) : C_X12_where X [jR 105, jI p] I q := by
  refine CG.of (by decide) [some (jR 105), some (jI p)] rfl (Nat.le_of_ble_eq_true rfl) ?_
  refine j_iload_n (pc := 0) dX12_where_0 rfl ?_
  refine j_i2l (pc := 1) dX12_where_1 (by omega) ?_
  refine j_lconst0 (pc := 2) dX12_where_2 ?_
  refine j_ldc2 (pc := 3) cl_X12_118 dX12_where_3 ?_
  refine j_goI (pc := 6) (j_runS k_X12_75 m_X12_in (c_in X I p 0 2 hp (by omega) (by omega)) dX12_where_6 (by decide) rfl rfl (Nat.le_of_ble_eq_true rfl)) (fun r1 I1 h1 => ?_)
  obtain ⟨rfl, rfl⟩ := h1
  refine j_if_eq (pc := 9) 23 dX12_where_9 (by decide) (by omega) (fun h_9 => ?_) (fun h_9 => ?_)
  · refine j_aload_n (pc := 23) dX12_where_23 rfl ?_
    refine j_goI (pc := 24) (j_runV k_X12_95 m_X12_bad (c_bad X I1) dX12_where_24 rfl (by decide) rfl (by decide) (by decide) rfl rfl (Nat.le_of_ble_eq_true rfl)) (fun r9 I9 h9 => ?_)
    obtain ⟨rfl, rfl⟩ := h9
    exact j_reti dX12_where_27 (by first | exact q0 (by omega) | exact q1 _ rfl (by omega)) rfl
  · obtain ⟨i, rfl⟩ := Int.eq_ofNat_of_zero_le (show 0 ≤ p by omega)
    refine j_aload_n (pc := 12) dX12_where_12 rfl ?_
    refine j_getR (pc := 13) f_X12_7 dX12_where_13 rfl rfl (by decide) rfl ?_
    refine j_iconst (pc := 16) dX12_where_16 ?_
    refine j_iload_n (pc := 17) dX12_where_17 rfl ?_
    refine j_iadd (pc := 18) dX12_where_18 ?_
    refine j_iald_b (pc := 19) (2 + i) dX12_where_19 rfl (by decide) (by decide) (by omega) (by omega) ?_
    refine j_goto (pc := 20) 27 dX12_where_20 (by decide) ?_
    exact j_reti dX12_where_27 (by first | exact q0 (by omega) | exact q1 _ rfl (by omega)) rfl
