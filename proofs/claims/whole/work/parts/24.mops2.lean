/-! ===== the reference: sleepers, things, owners, text ===== -/
def mAddSl (f : Nat → Int) (s : Nat) (kind room ears : Int) : Nat → Int := jU (jU (jU (jU f (6 + s) kind) (11 + s) room) (16 + s) ears) 5 ((s : Int) + 1)
theorem c_addSleeper (X : jX) (I : jMI) (s : Nat) (k r e : Int) (hs : I 106 5 = s) (hs5 : s < 5) : C_X12_addSleeper X [jR 105, jI k, jI r, jI e] I (fun I' => I' = jSf I 106 (mAddSl (I 106) s k r e)) := by
  refine CG.of (by decide) [some (jR 105), some (jI k), some (jI r), some (jI e), none] rfl (Nat.le_of_ble_eq_true rfl) ?_
  refine j_aload_n (pc := 0) dX12_addSleeper_0 rfl ?_
  refine j_getR (pc := 1) f_X12_7 dX12_addSleeper_1 rfl rfl (by decide) rfl ?_
  refine j_iconst (pc := 4) dX12_addSleeper_4 ?_
  refine j_iald_b (pc := 5) (5) dX12_addSleeper_5 rfl (by decide) (by decide) (by omega) (by omega) ?_
  rw [hs]
  refine j_istore4 (pc := 6) dX12_addSleeper_6 (by decide) rfl ?_
  refine j_aload_n (pc := 8) dX12_addSleeper_8 rfl ?_
  refine j_getR (pc := 9) f_X12_7 dX12_addSleeper_9 rfl rfl (by decide) rfl ?_
  refine j_bipush (pc := 12) dX12_addSleeper_12 (by decide) ?_
  refine j_iload (pc := 14) dX12_addSleeper_14 rfl ?_
  refine j_iadd (pc := 16) dX12_addSleeper_16 ?_
  refine j_iload_n (pc := 17) dX12_addSleeper_17 rfl ?_
  refine j_iast_b (pc := 18) (6 + s) dX12_addSleeper_18 rfl (by decide) (by decide) (by omega) (by omega) ?_
  refine j_aload_n (pc := 19) dX12_addSleeper_19 rfl ?_
  refine j_getR (pc := 20) f_X12_7 dX12_addSleeper_20 rfl rfl (by decide) rfl ?_
  refine j_bipush (pc := 23) dX12_addSleeper_23 (by decide) ?_
  refine j_iload (pc := 25) dX12_addSleeper_25 rfl ?_
  refine j_iadd (pc := 27) dX12_addSleeper_27 ?_
  refine j_iload_n (pc := 28) dX12_addSleeper_28 rfl ?_
  refine j_iast_a (pc := 29) (11 + s) dX12_addSleeper_29 rfl (by decide) (by decide) (by omega) (by omega) ?_
  refine j_aload_n (pc := 30) dX12_addSleeper_30 rfl ?_
  refine j_getR (pc := 31) f_X12_7 dX12_addSleeper_31 rfl rfl (by decide) rfl ?_
  refine j_bipush (pc := 34) dX12_addSleeper_34 (by decide) ?_
  refine j_iload (pc := 36) dX12_addSleeper_36 rfl ?_
  refine j_iadd (pc := 38) dX12_addSleeper_38 ?_
  refine j_iload_n (pc := 39) dX12_addSleeper_39 rfl ?_
  refine j_iast_a (pc := 40) (16 + s) dX12_addSleeper_40 rfl (by decide) (by decide) (by omega) (by omega) ?_
  refine j_aload_n (pc := 41) dX12_addSleeper_41 rfl ?_
  refine j_getR (pc := 42) f_X12_7 dX12_addSleeper_42 rfl rfl (by decide) rfl ?_
  refine j_iconst (pc := 45) dX12_addSleeper_45 ?_
  refine j_dup2 (pc := 46) dX12_addSleeper_46 ?_
  refine j_iald_a (pc := 47) (5) dX12_addSleeper_47 rfl (by decide) (by decide) (by omega) (by omega) ?_
  rw [jU_n (by omega), jU_n (by omega), jU_n (by omega), hs]
  refine j_iconst (pc := 48) dX12_addSleeper_48 ?_
  refine j_iadd (pc := 49) dX12_addSleeper_49 ?_
  refine j_iast_a (pc := 50) (5) dX12_addSleeper_50 rfl (by decide) (by decide) (by omega) (by omega) ?_
  exact j_retv dX12_addSleeper_51 (rfl) rfl
theorem c_msleeper (X : jX) (I : jMI) (k r e : Int) (q : Int → jMI → Prop) (hk : -2147483648 ≤ k ∧ k < 2147483648) (hr : -2147483648 ≤ r ∧ r < 2147483648) (he : -2147483648 ≤ e ∧ e < 2147483648) (s : Nat) (hs : I 106 5 = s) (hs5 : s ≤ 5)
    (q0 : ¬ ((0 ≤ k ∧ k ≤ 5) ∧ (0 ≤ r ∧ r ≤ 7) ∧ (0 ≤ e ∧ e ≤ 9)) → q (-2) (mRef I 0)) (q1 : (0 ≤ k ∧ k ≤ 5) → (0 ≤ r ∧ r ≤ 7) → (0 ≤ e ∧ e ≤ 9) → s = 5 → q (-4) (mRef I 2))
    (q2 : (0 ≤ k ∧ k ≤ 5) → (0 ≤ r ∧ r ≤ 7) → (0 ≤ e ∧ e ≤ 9) → s < 5 → q s (jSf (jSf I 106 (mAddSl (I 106) s k r e)) 105 (jU (I 105) 16 0))) : C_X12_sleeper X [jR 105, jI k, jI r, jI e] I q := by
  refine CG.of (by decide) [some (jR 105), some (jI k), some (jI r), some (jI e)] rfl (Nat.le_of_ble_eq_true rfl) ?_
  have kbad : ¬ ((0 ≤ k ∧ k ≤ 5) ∧ (0 ≤ r ∧ r ≤ 7) ∧ (0 ≤ e ∧ e ≤ 9)) → S_X12_sleeper X 31 [some (jR 105), some (jI k), some (jI r), some (jI e)] [] I q := by
    intro hz
    refine j_aload_n (pc := 31) dX12_sleeper_31 rfl ?_
    refine j_goI (pc := 32) (j_runV k_X12_95 m_X12_bad (c_bad X I) dX12_sleeper_32 rfl (by decide) rfl (by decide) (by decide) rfl rfl (Nat.le_of_ble_eq_true rfl)) (fun r9 I9 h9 => ?_)
    obtain ⟨rfl, rfl⟩ := h9
    exact j_reti dX12_sleeper_35 (q0 hz) rfl
  refine j_iload_n (pc := 0) dX12_sleeper_0 rfl ?_
  refine j_i2l (pc := 1) dX12_sleeper_1 (by omega) ?_
  refine j_lconst0 (pc := 2) dX12_sleeper_2 ?_
  refine j_ldc2 (pc := 3) cl_X12_102 dX12_sleeper_3 ?_
  refine j_goI (pc := 6) (j_runS k_X12_75 m_X12_in (c_in X I k 0 5 hk (by omega) (by omega)) dX12_sleeper_6 (by decide) rfl rfl (Nat.le_of_ble_eq_true rfl)) (fun r1 I1 h1 => ?_)
  obtain ⟨rfl, rfl⟩ := h1
  refine j_if_eq (pc := 9) 31 dX12_sleeper_9 (by decide) (by omega) (fun h_9 => ?_) (fun h_9 => ?_)
  · exact kbad (by omega)
  · refine j_iload_n (pc := 12) dX12_sleeper_12 rfl ?_
    refine j_goI (pc := 13) (j_runS k_X12_89 m_X12_isRoom (c_mRoom X I1 r hr) dX12_sleeper_13 (by decide) rfl rfl (Nat.le_of_ble_eq_true rfl)) (fun r2 I2 h2 => ?_)
    obtain ⟨rfl, rfl⟩ := h2
    refine j_if_eq (pc := 16) 31 dX12_sleeper_16 (by decide) (by omega) (fun h_16 => ?_) (fun h_16 => ?_)
    · exact kbad (by omega)
    · refine j_iload_n (pc := 19) dX12_sleeper_19 rfl ?_
      refine j_i2l (pc := 20) dX12_sleeper_20 (by omega) ?_
      refine j_lconst0 (pc := 21) dX12_sleeper_21 ?_
      refine j_ldc2 (pc := 22) cl_X12_93 dX12_sleeper_22 ?_
      refine j_goI (pc := 25) (j_runS k_X12_75 m_X12_in (c_in X I2 e 0 9 he (by omega) (by omega)) dX12_sleeper_25 (by decide) rfl rfl (Nat.le_of_ble_eq_true rfl)) (fun r3 I3 h3 => ?_)
      obtain ⟨rfl, rfl⟩ := h3
      refine j_if_ne (pc := 28) 36 dX12_sleeper_28 (by decide) (by omega) (fun h_28 => ?_) (fun h_28 => ?_)
      · refine j_aload_n (pc := 36) dX12_sleeper_36 rfl ?_
        refine j_getR (pc := 37) f_X12_7 dX12_sleeper_37 rfl rfl (by decide) rfl ?_
        refine j_iconst (pc := 40) dX12_sleeper_40 ?_
        refine j_iald_b (pc := 41) (5) dX12_sleeper_41 rfl (by decide) (by decide) (by omega) (by omega) ?_
        rw [hs]
        refine j_iconst (pc := 42) dX12_sleeper_42 ?_
        refine j_icmp_ne (pc := 43) 51 dX12_sleeper_43 (by decide) (by omega) (by omega) (fun h_43 => ?_) (fun h_43 => ?_)
        · refine j_aload_n (pc := 51) dX12_sleeper_51 rfl ?_
          refine j_iload_n (pc := 52) dX12_sleeper_52 rfl ?_
          refine j_iload_n (pc := 53) dX12_sleeper_53 rfl ?_
          refine j_iload_n (pc := 54) dX12_sleeper_54 rfl ?_
          refine j_goV (pc := 55) (j_runV k_X12_107 m_X12_addSleeper (c_addSleeper X I3 s k r e hs (by omega)) dX12_sleeper_55 rfl (by decide) rfl (by decide) (by decide) rfl rfl (Nat.le_of_ble_eq_true rfl)) (fun I5 h5 => ?_)
          subst h5
          refine j_aload_n (pc := 58) dX12_sleeper_58 rfl ?_
          refine j_iconst (pc := 59) dX12_sleeper_59 ?_
          refine j_putI_b (pc := 60) f_X12_81 dX12_sleeper_60 rfl rfl rfl (by decide) ?_
          refine j_aload_n (pc := 63) dX12_sleeper_63 rfl ?_
          refine j_getR (pc := 64) f_X12_7 dX12_sleeper_64 rfl rfl (by decide) rfl ?_
          refine j_iconst (pc := 67) dX12_sleeper_67 ?_
          rw [jSf_n (by decide)]
          refine j_iald_c (pc := 68) (5) dX12_sleeper_68 rfl (by decide) (by decide) (by omega) (by omega) (by decide) ?_
          rw [jSf_s]
          unfold mAddSl
          rw [jU_s]
          refine j_iconst (pc := 69) dX12_sleeper_69 ?_
          refine j_isub (pc := 70) dX12_sleeper_70 ?_
          rw [show ((s : Int) + 1 - 1) = s by omega]
          exact j_reti dX12_sleeper_71 (q2 (by omega) (by omega) (by omega) (by omega)) rfl
        · refine j_aload_n (pc := 46) dX12_sleeper_46 rfl ?_
          refine j_goI (pc := 47) (j_runV k_X12_104 m_X12_full (c_full X I3) dX12_sleeper_47 rfl (by decide) rfl (by decide) (by decide) rfl rfl (Nat.le_of_ble_eq_true rfl)) (fun r4 I4 h4 => ?_)
          obtain ⟨rfl, rfl⟩ := h4
          exact j_reti dX12_sleeper_50 (q1 (by omega) (by omega) (by omega) (by omega)) rfl
      · exact kbad (by omega)
def mAddTh (f : Nat → Int) (t : Nat) (home : Int) : Nat → Int := jU (jU (jU f (22 + t) home) (27 + t) 0) 21 ((t : Int) + 1)
theorem c_addThing (X : jX) (I : jMI) (t : Nat) (h : Int) (ht : I 106 21 = t) (ht5 : t < 5) : C_X12_addThing X [jR 105, jI h] I (fun I' => I' = jSf I 106 (mAddTh (I 106) t h)) := by
  refine CG.of (by decide) [some (jR 105), some (jI h)] rfl (Nat.le_of_ble_eq_true rfl) ?_
  refine j_aload_n (pc := 0) dX12_addThing_0 rfl ?_
  refine j_getR (pc := 1) f_X12_7 dX12_addThing_1 rfl rfl (by decide) rfl ?_
  refine j_bipush (pc := 4) dX12_addThing_4 (by decide) ?_
  refine j_aload_n (pc := 6) dX12_addThing_6 rfl ?_
  refine j_getR (pc := 7) f_X12_7 dX12_addThing_7 rfl rfl (by decide) rfl ?_
  refine j_bipush (pc := 10) dX12_addThing_10 (by decide) ?_
  refine j_iald_b (pc := 12) (21) dX12_addThing_12 rfl (by decide) (by decide) (by omega) (by omega) ?_
  rw [ht]
  refine j_iadd (pc := 13) dX12_addThing_13 ?_
  refine j_iload_n (pc := 14) dX12_addThing_14 rfl ?_
  refine j_iast_b (pc := 15) (22 + t) dX12_addThing_15 rfl (by decide) (by decide) (by omega) (by omega) ?_
  refine j_aload_n (pc := 16) dX12_addThing_16 rfl ?_
  refine j_getR (pc := 17) f_X12_7 dX12_addThing_17 rfl rfl (by decide) rfl ?_
  refine j_bipush (pc := 20) dX12_addThing_20 (by decide) ?_
  refine j_aload_n (pc := 22) dX12_addThing_22 rfl ?_
  refine j_getR (pc := 23) f_X12_7 dX12_addThing_23 rfl rfl (by decide) rfl ?_
  refine j_bipush (pc := 26) dX12_addThing_26 (by decide) ?_
  refine j_iald_a (pc := 28) (21) dX12_addThing_28 rfl (by decide) (by decide) (by omega) (by omega) ?_
  rw [jU_n (by omega), ht]
  refine j_iadd (pc := 29) dX12_addThing_29 ?_
  refine j_iconst (pc := 30) dX12_addThing_30 ?_
  refine j_iast_a (pc := 31) (27 + t) dX12_addThing_31 rfl (by decide) (by decide) (by omega) (by omega) ?_
  refine j_aload_n (pc := 32) dX12_addThing_32 rfl ?_
  refine j_getR (pc := 33) f_X12_7 dX12_addThing_33 rfl rfl (by decide) rfl ?_
  refine j_bipush (pc := 36) dX12_addThing_36 (by decide) ?_
  refine j_dup2 (pc := 38) dX12_addThing_38 ?_
  refine j_iald_a (pc := 39) (21) dX12_addThing_39 rfl (by decide) (by decide) (by omega) (by omega) ?_
  rw [jU_n (by omega), jU_n (by omega), ht]
  refine j_iconst (pc := 40) dX12_addThing_40 ?_
  refine j_iadd (pc := 41) dX12_addThing_41 ?_
  refine j_iast_a (pc := 42) (21) dX12_addThing_42 rfl (by decide) (by decide) (by omega) (by omega) ?_
  exact j_retv dX12_addThing_43 (rfl) rfl
theorem c_mthing (X : jX) (I : jMI) (h : Int) (q : Int → jMI → Prop) (hh : -2147483648 ≤ h ∧ h < 2147483648) (t : Nat) (ht : I 106 21 = t) (ht5 : t ≤ 5)
    (q0 : ¬ (0 ≤ h ∧ h ≤ 7) → q (-2) (mRef I 0)) (q1 : (0 ≤ h ∧ h ≤ 7) → t = 5 → q (-4) (mRef I 2)) (q2 : (0 ≤ h ∧ h ≤ 7) → t < 5 → q t (jSf I 106 (mAddTh (I 106) t h))) : C_X12_thing X [jR 105, jI h] I q := by
  refine CG.of (by decide) [some (jR 105), some (jI h)] rfl (Nat.le_of_ble_eq_true rfl) ?_
  refine j_iload_n (pc := 0) dX12_thing_0 rfl ?_
  refine j_goI (pc := 1) (j_runS k_X12_89 m_X12_isRoom (c_mRoom X I h hh) dX12_thing_1 (by decide) rfl rfl (Nat.le_of_ble_eq_true rfl)) (fun r1 I1 h1 => ?_)
  obtain ⟨rfl, rfl⟩ := h1
  refine j_if_ne (pc := 4) 12 dX12_thing_4 (by decide) (by omega) (fun h_4 => ?_) (fun h_4 => ?_)
  · refine j_aload_n (pc := 12) dX12_thing_12 rfl ?_
    refine j_getR (pc := 13) f_X12_7 dX12_thing_13 rfl rfl (by decide) rfl ?_
    refine j_bipush (pc := 16) dX12_thing_16 (by decide) ?_
    refine j_iald_b (pc := 18) (21) dX12_thing_18 rfl (by decide) (by decide) (by omega) (by omega) ?_
    rw [ht]
    refine j_iconst (pc := 19) dX12_thing_19 ?_
    refine j_icmp_ne (pc := 20) 28 dX12_thing_20 (by decide) (by omega) (by omega) (fun h_20 => ?_) (fun h_20 => ?_)
    · refine j_aload_n (pc := 28) dX12_thing_28 rfl ?_
      refine j_iload_n (pc := 29) dX12_thing_29 rfl ?_
      refine j_goV (pc := 30) (j_runV k_X12_111 m_X12_addThing (c_addThing X I1 t h ht (by omega)) dX12_thing_30 rfl (by decide) rfl (by decide) (by decide) rfl rfl (Nat.le_of_ble_eq_true rfl)) (fun I5 h5 => ?_)
      subst h5
      refine j_aload_n (pc := 33) dX12_thing_33 rfl ?_
      refine j_getR (pc := 34) f_X12_7 dX12_thing_34 rfl rfl (by decide) rfl ?_
      refine j_bipush (pc := 37) dX12_thing_37 (by decide) ?_
      refine j_iald_a (pc := 39) (21) dX12_thing_39 rfl (by decide) (by decide) (by omega) (by omega) ?_
      unfold mAddTh
      rw [jU_s]
      refine j_iconst (pc := 40) dX12_thing_40 ?_
      refine j_isub (pc := 41) dX12_thing_41 ?_
      rw [show ((t : Int) + 1 - 1) = t by omega]
      exact j_reti dX12_thing_42 (q2 (by omega) (by omega)) rfl
    · refine j_aload_n (pc := 23) dX12_thing_23 rfl ?_
      refine j_goI (pc := 24) (j_runV k_X12_104 m_X12_full (c_full X I1) dX12_thing_24 rfl (by decide) rfl (by decide) (by decide) rfl rfl (Nat.le_of_ble_eq_true rfl)) (fun r4 I4 h4 => ?_)
      obtain ⟨rfl, rfl⟩ := h4
      exact j_reti dX12_thing_27 (q1 (by omega) (by omega)) rfl
  · refine j_aload_n (pc := 7) dX12_thing_7 rfl ?_
    refine j_goI (pc := 8) (j_runV k_X12_95 m_X12_bad (c_bad X I1) dX12_thing_8 rfl (by decide) rfl (by decide) (by decide) rfl rfl (Nat.le_of_ble_eq_true rfl)) (fun r2 I2 h2 => ?_)
    obtain ⟨rfl, rfl⟩ := h2
    exact j_reti dX12_thing_11 (q0 (by omega)) rfl
/-- the last owner by the reference's row -/
def lastF (f : Nat → Int) (t : Nat) : Int := if f (27 + t) = 0 then -1 else f (32 + 4 * t + (f (27 + t)).toNat - 1)
theorem c_mlast (X : jX) (I : jMI) (t c : Nat) (ht : t < 5) (hc : I 106 (27 + t) = c) (hc4 : c ≤ 4) : C_X12_lastOwner X [jR 105, jI t] I (fun r I' => r = lastF (I 106) t ∧ I' = I) := by
  refine CG.of (by decide) [some (jR 105), some (jI t)] rfl (Nat.le_of_ble_eq_true rfl) ?_
  refine j_aload_n (pc := 0) dX12_lastOwner_0 rfl ?_
  refine j_getR (pc := 1) f_X12_7 dX12_lastOwner_1 rfl rfl (by decide) rfl ?_
  refine j_bipush (pc := 4) dX12_lastOwner_4 (by decide) ?_
  refine j_iload_n (pc := 6) dX12_lastOwner_6 rfl ?_
  refine j_iadd (pc := 7) dX12_lastOwner_7 ?_
  refine j_iald_b (pc := 8) (27 + t) dX12_lastOwner_8 rfl (by decide) (by decide) (by omega) (by omega) ?_
  rw [hc]
  refine j_if_ne (pc := 9) 16 dX12_lastOwner_9 (by decide) (by omega) (fun h_9 => ?_) (fun h_9 => ?_)
  · refine j_aload_n (pc := 16) dX12_lastOwner_16 rfl ?_
    refine j_getR (pc := 17) f_X12_7 dX12_lastOwner_17 rfl rfl (by decide) rfl ?_
    refine j_bipush (pc := 20) dX12_lastOwner_20 (by decide) ?_
    refine j_iconst (pc := 22) dX12_lastOwner_22 ?_
    refine j_iload_n (pc := 23) dX12_lastOwner_23 rfl ?_
    refine j_imul (pc := 24) dX12_lastOwner_24 ?_
    refine j_iadd (pc := 25) dX12_lastOwner_25 ?_
    refine j_aload_n (pc := 26) dX12_lastOwner_26 rfl ?_
    refine j_getR (pc := 27) f_X12_7 dX12_lastOwner_27 rfl rfl (by decide) rfl ?_
    refine j_bipush (pc := 30) dX12_lastOwner_30 (by decide) ?_
    refine j_iload_n (pc := 32) dX12_lastOwner_32 rfl ?_
    refine j_iadd (pc := 33) dX12_lastOwner_33 ?_
    refine j_iald_b (pc := 34) (27 + t) dX12_lastOwner_34 rfl (by decide) (by decide) (by omega) (by omega) ?_
    rw [hc]
    refine j_iadd (pc := 35) dX12_lastOwner_35 ?_
    refine j_iconst (pc := 36) dX12_lastOwner_36 ?_
    refine j_isub (pc := 37) dX12_lastOwner_37 ?_
    refine j_iald_b (pc := 38) (32 + 4 * t + c - 1) dX12_lastOwner_38 rfl (by decide) (by decide) (by omega) (by omega) ?_
    exact j_reti dX12_lastOwner_39 (⟨by unfold lastF; rw [hc]; split <;> first | rfl | omega, rfl⟩) rfl
  · refine j_iconst (pc := 12) dX12_lastOwner_12 ?_
    refine j_goto (pc := 13) 39 dX12_lastOwner_13 (by decide) ?_
    exact j_reti dX12_lastOwner_39 (⟨by unfold lastF; rw [hc]; split <;> first | rfl | omega, rfl⟩) rfl
def mAddOw (f : Nat → Int) (t c : Nat) (p : Int) : Nat → Int := jU (jU f (32 + 4 * t + c) p) (27 + t) ((c : Int) + 1)
theorem c_addOwner (X : jX) (I : jMI) (t c : Nat) (p : Int) (ht : t < 5) (hc : I 106 (27 + t) = c) (hc4 : c < 4) : C_X12_addOwner X [jR 105, jI t, jI p] I (fun I' => I' = jSf I 106 (mAddOw (I 106) t c p)) := by
  refine CG.of (by decide) [some (jR 105), some (jI t), some (jI p)] rfl (Nat.le_of_ble_eq_true rfl) ?_
  refine j_aload_n (pc := 0) dX12_addOwner_0 rfl ?_
  refine j_getR (pc := 1) f_X12_7 dX12_addOwner_1 rfl rfl (by decide) rfl ?_
  refine j_bipush (pc := 4) dX12_addOwner_4 (by decide) ?_
  refine j_iconst (pc := 6) dX12_addOwner_6 ?_
  refine j_iload_n (pc := 7) dX12_addOwner_7 rfl ?_
  refine j_imul (pc := 8) dX12_addOwner_8 ?_
  refine j_iadd (pc := 9) dX12_addOwner_9 ?_
  refine j_aload_n (pc := 10) dX12_addOwner_10 rfl ?_
  refine j_getR (pc := 11) f_X12_7 dX12_addOwner_11 rfl rfl (by decide) rfl ?_
  refine j_bipush (pc := 14) dX12_addOwner_14 (by decide) ?_
  refine j_iload_n (pc := 16) dX12_addOwner_16 rfl ?_
  refine j_iadd (pc := 17) dX12_addOwner_17 ?_
  refine j_iald_b (pc := 18) (27 + t) dX12_addOwner_18 rfl (by decide) (by decide) (by omega) (by omega) ?_
  rw [hc]
  refine j_iadd (pc := 19) dX12_addOwner_19 ?_
  refine j_iload_n (pc := 20) dX12_addOwner_20 rfl ?_
  refine j_iast_b (pc := 21) (32 + 4 * t + c) dX12_addOwner_21 rfl (by decide) (by decide) (by omega) (by omega) ?_
  refine j_aload_n (pc := 22) dX12_addOwner_22 rfl ?_
  refine j_getR (pc := 23) f_X12_7 dX12_addOwner_23 rfl rfl (by decide) rfl ?_
  refine j_bipush (pc := 26) dX12_addOwner_26 (by decide) ?_
  refine j_iload_n (pc := 28) dX12_addOwner_28 rfl ?_
  refine j_iadd (pc := 29) dX12_addOwner_29 ?_
  refine j_dup2 (pc := 30) dX12_addOwner_30 ?_
  refine j_iald_a (pc := 31) (27 + t) dX12_addOwner_31 rfl (by decide) (by decide) (by omega) (by omega) ?_
  rw [jU_n (by omega), hc]
  refine j_iconst (pc := 32) dX12_addOwner_32 ?_
  refine j_iadd (pc := 33) dX12_addOwner_33 ?_
  refine j_iast_a (pc := 34) (27 + t) dX12_addOwner_34 rfl (by decide) (by decide) (by omega) (by omega) ?_
  exact j_retv dX12_addOwner_35 (rfl) rfl
theorem c_mowner (X : jX) (I : jMI) (t p : Int) (q : Int → jMI → Prop) (hT : -2147483648 ≤ t ∧ t < 2147483648) (hp : -2147483648 ≤ p ∧ p < 2147483648) (g : Nat) (hg : I 106 21 = g) (hg5 : g ≤ 5) (hok : okSt (I 106))
    (q0 : ¬ (0 ≤ t ∧ t < g) ∨ ¬ (0 ≤ p ∧ p ≤ 2) → q (-2) (mRef I 0)) (q0' : ∀ i : Nat, t = i → i < g → (0 ≤ p ∧ p ≤ 2) → lastF (I 106) i = p → q (-2) (mRef I 0))
    (q1 : ∀ i : Nat, t = i → i < g → (0 ≤ p ∧ p ≤ 2) → ¬ lastF (I 106) i = p → I 106 (27 + i) = 4 → q (-4) (mRef I 2))
    (q2 : ∀ i c : Nat, t = i → i < g → (0 ≤ p ∧ p ≤ 2) → ¬ lastF (I 106) i = p → I 106 (27 + i) = c → c < 4 → q ((c : Int) + 1) (jSf I 106 (mAddOw (I 106) i c p))) : C_X12_owner X [jR 105, jI t, jI p] I q := by
  refine CG.of (by decide) [some (jR 105), some (jI t), some (jI p)] rfl (Nat.le_of_ble_eq_true rfl) ?_
  have kbad : q (-2) (mRef I 0) → S_X12_owner X 29 [some (jR 105), some (jI t), some (jI p)] [] I q := by
    intro hz
    refine j_aload_n (pc := 29) dX12_owner_29 rfl ?_
    refine j_goI (pc := 30) (j_runV k_X12_95 m_X12_bad (c_bad X I) dX12_owner_30 rfl (by decide) rfl (by decide) (by decide) rfl rfl (Nat.le_of_ble_eq_true rfl)) (fun r9 I9 h9 => ?_)
    obtain ⟨rfl, rfl⟩ := h9
    exact j_reti dX12_owner_33 (hz) rfl
  refine j_aload_n (pc := 0) dX12_owner_0 rfl ?_
  refine j_iload_n (pc := 1) dX12_owner_1 rfl ?_
  refine j_goI (pc := 2) (j_runV k_X12_115 m_X12_isThing (c_isThing X I t hT (by omega)) dX12_owner_2 rfl (by decide) rfl (by decide) (by decide) rfl rfl (Nat.le_of_ble_eq_true rfl)) (fun r1 I1 h1 => ?_)
  obtain ⟨rfl, rfl⟩ := h1
  refine j_if_eq (pc := 5) 29 dX12_owner_5 (by decide) (by omega) (fun h_5 => ?_) (fun h_5 => ?_)
  · exact kbad (q0 (Or.inl (by omega)))
  · refine j_iload_n (pc := 8) dX12_owner_8 rfl ?_
    refine j_i2l (pc := 9) dX12_owner_9 (by omega) ?_
    refine j_lconst0 (pc := 10) dX12_owner_10 ?_
    refine j_ldc2 (pc := 11) cl_X12_118 dX12_owner_11 ?_
    refine j_goI (pc := 14) (j_runS k_X12_75 m_X12_in (c_in X I1 p 0 2 hp (by omega) (by omega)) dX12_owner_14 (by decide) rfl rfl (Nat.le_of_ble_eq_true rfl)) (fun r2 I2 h2 => ?_)
    obtain ⟨rfl, rfl⟩ := h2
    refine j_if_eq (pc := 17) 29 dX12_owner_17 (by decide) (by omega) (fun h_17 => ?_) (fun h_17 => ?_)
    · exact kbad (q0 (Or.inr (by omega)))
    · obtain ⟨i, rfl⟩ := Int.eq_ofNat_of_zero_le (show 0 ≤ t by omega)
      have hc0 := hok (27 + i) (by omega)
      unfold stLo stHi at hc0
      obtain ⟨c, hc⟩ := Int.eq_ofNat_of_zero_le (show 0 ≤ I2 106 (27 + i) by omega)
      have hl : -1 ≤ lastF (I2 106) i ∧ lastF (I2 106) i ≤ 2 := by
        unfold lastF
        rw [hc]
        split
        · omega
        · have h0 := hok (32 + 4 * i + (c : Int).toNat - 1) (by omega)
          unfold stLo stHi at h0
          omega
      refine j_aload_n (pc := 20) dX12_owner_20 rfl ?_
      refine j_iload_n (pc := 21) dX12_owner_21 rfl ?_
      refine j_goI (pc := 22) (j_runV k_X12_120 m_X12_lastOwner (c_mlast X I2 i c (by omega) hc (by omega)) dX12_owner_22 rfl (by decide) rfl (by decide) (by decide) rfl rfl (Nat.le_of_ble_eq_true rfl)) (fun r3 I3 h3 => ?_)
      obtain ⟨rfl, rfl⟩ := h3
      refine j_iload_n (pc := 25) dX12_owner_25 rfl ?_
      refine j_icmp_ne (pc := 26) 34 dX12_owner_26 (by decide) (by omega) (by omega) (fun h_26 => ?_) (fun h_26 => ?_)
      · refine j_aload_n (pc := 34) dX12_owner_34 rfl ?_
        refine j_getR (pc := 35) f_X12_7 dX12_owner_35 rfl rfl (by decide) rfl ?_
        refine j_bipush (pc := 38) dX12_owner_38 (by decide) ?_
        refine j_iload_n (pc := 40) dX12_owner_40 rfl ?_
        refine j_iadd (pc := 41) dX12_owner_41 ?_
        refine j_iald_b (pc := 42) (27 + i) dX12_owner_42 rfl (by decide) (by decide) (by omega) (by omega) ?_
        rw [hc]
        refine j_iconst (pc := 43) dX12_owner_43 ?_
        refine j_icmp_ne (pc := 44) 52 dX12_owner_44 (by decide) (by omega) (by omega) (fun h_44 => ?_) (fun h_44 => ?_)
        · refine j_aload_n (pc := 52) dX12_owner_52 rfl ?_
          refine j_iload_n (pc := 53) dX12_owner_53 rfl ?_
          refine j_iload_n (pc := 54) dX12_owner_54 rfl ?_
          refine j_goV (pc := 55) (j_runV k_X12_124 m_X12_addOwner (c_addOwner X I3 i c p (by omega) hc (by omega)) dX12_owner_55 rfl (by decide) rfl (by decide) (by decide) rfl rfl (Nat.le_of_ble_eq_true rfl)) (fun I5 h5 => ?_)
          subst h5
          refine j_aload_n (pc := 58) dX12_owner_58 rfl ?_
          refine j_getR (pc := 59) f_X12_7 dX12_owner_59 rfl rfl (by decide) rfl ?_
          refine j_bipush (pc := 62) dX12_owner_62 (by decide) ?_
          refine j_iload_n (pc := 64) dX12_owner_64 rfl ?_
          refine j_iadd (pc := 65) dX12_owner_65 ?_
          refine j_iald_a (pc := 66) (27 + i) dX12_owner_66 rfl (by decide) (by decide) (by omega) (by omega) ?_
          unfold mAddOw
          rw [jU_s]
          exact j_reti dX12_owner_67 (q2 i c rfl (by omega) (by omega) (by omega) hc (by omega)) rfl
        · refine j_aload_n (pc := 47) dX12_owner_47 rfl ?_
          refine j_goI (pc := 48) (j_runV k_X12_104 m_X12_full (c_full X I3) dX12_owner_48 rfl (by decide) rfl (by decide) (by decide) rfl rfl (Nat.le_of_ble_eq_true rfl)) (fun r4 I4 h4 => ?_)
          obtain ⟨rfl, rfl⟩ := h4
          exact j_reti dX12_owner_51 (q1 i rfl (by omega) (by omega) (by omega) (by omega)) rfl
      · exact kbad (q0' i rfl (by omega) (by omega) (by omega))
theorem c_mtype (X : jX) (I : jMI) (c : Int) (q : Int → jMI → Prop) (hc : -2147483648 ≤ c ∧ c < 2147483648) (b : Nat) (hb : I 105 5 = b) (hb5 : b ≤ 150)
    (q0 : ¬ (0 ≤ c ∧ c ≤ 127) → q (-2) (mRef I 0)) (q1 : (0 ≤ c ∧ c ≤ 127) → b = 150 → q (-4) (mRef I 2)) (q2 : (0 ≤ c ∧ c ≤ 127) → b < 150 → q ((b : Int) + 1) (jSf (jSf I 108 (jU (I 108) b c)) 105 (jU (I 105) 5 ((b : Int) + 1)))) : C_X12_type X [jR 105, jI c] I q := by
  refine CG.of (by decide) [some (jR 105), some (jI c)] rfl (Nat.le_of_ble_eq_true rfl) ?_
  refine j_iload_n (pc := 0) dX12_type_0 rfl ?_
  refine j_i2l (pc := 1) dX12_type_1 (by omega) ?_
  refine j_lconst0 (pc := 2) dX12_type_2 ?_
  refine j_ldc2 (pc := 3) cl_X12_128 dX12_type_3 ?_
  refine j_goI (pc := 6) (j_runS k_X12_75 m_X12_in (c_in X I c 0 127 hc (by omega) (by omega)) dX12_type_6 (by decide) rfl rfl (Nat.le_of_ble_eq_true rfl)) (fun r1 I1 h1 => ?_)
  obtain ⟨rfl, rfl⟩ := h1
  refine j_if_ne (pc := 9) 17 dX12_type_9 (by decide) (by omega) (fun h_9 => ?_) (fun h_9 => ?_)
  · refine j_aload_n (pc := 17) dX12_type_17 rfl ?_
    refine j_getI (pc := 18) f_X12_130 dX12_type_18 rfl rfl (by decide) ?_
    rw [hb]
    refine j_sipush (pc := 21) dX12_type_21 (by decide) ?_
    refine j_icmp_ne (pc := 24) 32 dX12_type_24 (by decide) (by omega) (by omega) (fun h_24 => ?_) (fun h_24 => ?_)
    · refine j_aload_n (pc := 32) dX12_type_32 rfl ?_
      refine j_getR (pc := 33) f_X12_20 dX12_type_33 rfl rfl (by decide) rfl ?_
      refine j_aload_n (pc := 36) dX12_type_36 rfl ?_
      refine j_getI (pc := 37) f_X12_130 dX12_type_37 rfl rfl (by decide) ?_
      rw [hb]
      refine j_iload_n (pc := 40) dX12_type_40 rfl ?_
      refine j_iast_b (pc := 41) (b) dX12_type_41 rfl (by decide) (by decide) (by omega) (by omega) ?_
      refine j_aload_n (pc := 42) dX12_type_42 rfl ?_
      refine j_dupR (pc := 43) dX12_type_43 ?_
      refine j_getI_c (pc := 44) f_X12_130 dX12_type_44 rfl rfl (by decide) (by decide) ?_
      rw [hb]
      refine j_iconst (pc := 47) dX12_type_47 ?_
      refine j_iadd (pc := 48) dX12_type_48 ?_
      refine j_putI_b (pc := 49) f_X12_130 dX12_type_49 rfl rfl rfl (by decide) ?_
      rw [jSf_n (by decide)]
      refine j_aload_n (pc := 52) dX12_type_52 rfl ?_
      refine j_getI_a (pc := 53) f_X12_130 dX12_type_53 rfl rfl (by decide) ?_
      rw [jU_s]
      exact j_reti dX12_type_56 (q2 (by omega) (by omega)) rfl
    · refine j_aload_n (pc := 27) dX12_type_27 rfl ?_
      refine j_goI (pc := 28) (j_runV k_X12_104 m_X12_full (c_full X I1) dX12_type_28 rfl (by decide) rfl (by decide) (by decide) rfl rfl (Nat.le_of_ble_eq_true rfl)) (fun r4 I4 h4 => ?_)
      obtain ⟨rfl, rfl⟩ := h4
      exact j_reti dX12_type_31 (q1 (by omega) (by omega)) rfl
  · refine j_aload_n (pc := 12) dX12_type_12 rfl ?_
    refine j_goI (pc := 13) (j_runV k_X12_95 m_X12_bad (c_bad X I1) dX12_type_13 rfl (by decide) rfl (by decide) (by decide) rfl rfl (Nat.le_of_ble_eq_true rfl)) (fun r2 I2 h2 => ?_)
    obtain ⟨rfl, rfl⟩ := h2
    exact j_reti dX12_type_16 (q0 (by omega)) rfl
theorem c_mclear (X : jX) (I : jMI) (q : Int → jMI → Prop) (h : q (I 105 5) (jSf I 105 (jU (I 105) 5 0))) : C_X12_clear X [jR 105] I q := by
  refine CG.of (by decide) [some (jR 105), none] rfl (Nat.le_of_ble_eq_true rfl) ?_
  refine j_aload_n (pc := 0) dX12_clear_0 rfl ?_
  refine j_getI (pc := 1) f_X12_130 dX12_clear_1 rfl rfl (by decide) ?_
  refine j_istore_n1 (pc := 4) dX12_clear_4 (by decide) rfl ?_
  refine j_aload_n (pc := 5) dX12_clear_5 rfl ?_
  refine j_iconst (pc := 6) dX12_clear_6 ?_
  refine j_putI_b (pc := 7) f_X12_130 dX12_clear_7 rfl rfl rfl (by decide) ?_
  refine j_iload_n (pc := 10) dX12_clear_10 rfl ?_
  exact j_reti dX12_clear_11 (h) rfl
theorem c_mhouse (X : jX) (I : jMI) (q : Int → jMI → Prop) (h : q (I 106 5) (mAnew I)) : C_X12_house X [jR 105] I q := by
  refine CG.of (by decide) [some (jR 105), none] rfl (Nat.le_of_ble_eq_true rfl) ?_
  refine j_aload_n (pc := 0) dX12_house_0 rfl ?_
  refine j_getR (pc := 1) f_X12_7 dX12_house_1 rfl rfl (by decide) rfl ?_
  refine j_iconst (pc := 4) dX12_house_4 ?_
  refine j_iald_b (pc := 5) (5) dX12_house_5 rfl (by decide) (by decide) (by omega) (by omega) ?_
  refine j_istore_n1 (pc := 6) dX12_house_6 (by decide) rfl ?_
  refine j_aload_n (pc := 7) dX12_house_7 rfl ?_
  refine j_goV (pc := 8) (j_runV k_X12_70 m_X12_anew (c_anew X I) dX12_house_8 rfl (by decide) rfl (by decide) (by decide) rfl rfl (Nat.le_of_ble_eq_true rfl)) (fun I1 h1 => ?_)
  subst h1
  refine j_iload_n (pc := 11) dX12_house_11 rfl ?_
  exact j_reti dX12_house_12 (h) rfl
