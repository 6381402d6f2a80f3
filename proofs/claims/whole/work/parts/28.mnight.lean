/-! ===== the reference: a night ===== -/
theorem jU_u {g : Nat → Int} {j : Nat} {v w : Int} : jU (jU g j v) j w = jU g j w := by
  funext i
  unfold jU
  split <;> rfl
theorem jSf_3 {I : jMI} {k k' : Nat} {g g' h : Nat → Int} (e : k ≠ k') : jSf (jSf (jSf I k g) k' h) k g' = jSf (jSf I k' h) k g' := by
  rw [jSf_c (I := I) e, jSf_f]
/-- only what is made anew by each call differs -/
def mSc (I I' : jMI) : Prop := ∀ k, (k < 110 ∨ k = 111 ∨ 119 < k) → I' k = I k
theorem mSc.rf {I : jMI} : mSc I I := fun _ _ => rfl
theorem mSc.tr {I I1 I2 : jMI} (h1 : mSc I I1) (h2 : mSc I1 I2) : mSc I I2 := fun k hk => (h2 k hk).trans (h1 k hk)
theorem mSc_f {I : jMI} {k : Nat} {g : Nat → Int} (h : k = 110 ∨ (112 ≤ k ∧ k ≤ 119)) : mSc I (jSf I k g) := fun q hq => jSf_n (by omega)
theorem c_mfar (X : jX) (I : jMI) (a b : Int) (q : Int → jMI → Prop) (ha : -2147483648 ≤ a ∧ a < 2147483648) (hb : -2147483648 ≤ b ∧ b < 2147483648) (hok : okSt (I 106))
    (q0 : ¬ ((0 ≤ a ∧ a ≤ 7) ∧ (0 ≤ b ∧ b ≤ 7)) → q (-2) (mRef I 0)) (q1 : ∀ (i j : Nat) (I' : jMI), a = i → b = j → i < 8 → j < 8 → mSc I I' → q (if dst (I 106) i j = 99 then -1 else dst (I 106) i j) I') : C_X12_far X [jR 105, jI a, jI b] I q := by
  refine CG.of (by decide) [some (jR 105), some (jI a), some (jI b)] rfl (Nat.le_of_ble_eq_true rfl) ?_
  have kbad : ¬ ((0 ≤ a ∧ a ≤ 7) ∧ (0 ≤ b ∧ b ≤ 7)) → S_X12_far X 14 [some (jR 105), some (jI a), some (jI b)] [] I q := by
    intro hz
    refine j_aload_n (pc := 14) dX12_far_14 rfl ?_
    refine j_goI (pc := 15) (j_runV k_X12_95 m_X12_bad (c_bad X I) dX12_far_15 rfl (by decide) rfl (by decide) (by decide) rfl rfl (Nat.le_of_ble_eq_true rfl)) (fun r9 I9 h9 => ?_)
    obtain ⟨rfl, rfl⟩ := h9
    exact j_reti dX12_far_18 (q0 hz) rfl
  refine j_iload_n (pc := 0) dX12_far_0 rfl ?_
  refine j_goI (pc := 1) (j_runS k_X12_89 m_X12_isRoom (c_mRoom X I a ha) dX12_far_1 (by decide) rfl rfl (Nat.le_of_ble_eq_true rfl)) (fun r1 I1 h1 => ?_)
  obtain ⟨rfl, rfl⟩ := h1
  refine j_if_eq (pc := 4) 14 dX12_far_4 (by decide) (by omega) (fun h_4 => ?_) (fun h_4 => ?_)
  · exact kbad (by omega)
  · refine j_iload_n (pc := 7) dX12_far_7 rfl ?_
    refine j_goI (pc := 8) (j_runS k_X12_89 m_X12_isRoom (c_mRoom X I1 b hb) dX12_far_8 (by decide) rfl rfl (Nat.le_of_ble_eq_true rfl)) (fun r2 I2 h2 => ?_)
    obtain ⟨rfl, rfl⟩ := h2
    refine j_if_ne (pc := 11) 19 dX12_far_11 (by decide) (by omega) (fun h_11 => ?_) (fun h_11 => ?_)
    · obtain ⟨i, rfl⟩ := Int.eq_ofNat_of_zero_le (show 0 ≤ a by omega)
      obtain ⟨j, rfl⟩ := Int.eq_ofNat_of_zero_le (show 0 ≤ b by omega)
      refine j_aload_n (pc := 19) dX12_far_19 rfl ?_
      refine j_iload_n (pc := 20) dX12_far_20 rfl ?_
      refine j_goV (pc := 21) (j_runV k_X12_199 m_X12_findFar (c_findFar X I2 i (by omega) hok) dX12_far_21 rfl (by decide) rfl (by decide) (by decide) rfl rfl (Nat.le_of_ble_eq_true rfl)) (fun I3 h3 => ?_)
      obtain ⟨g, rfl, hg⟩ := h3
      have hd := dst_eq (by omega) (hg j (by omega))
      have hr := dst_rng (I2 106) (a := i) j (by omega)
      refine j_aload_n (pc := 24) dX12_far_24 rfl ?_
      refine j_getR (pc := 25) f_X12_26 dX12_far_25 rfl rfl (by decide) rfl ?_
      refine j_iload_n (pc := 28) dX12_far_28 rfl ?_
      refine j_iald_a (pc := 29) (j) dX12_far_29 rfl (by decide) (by decide) (by omega) (by omega) ?_
      refine j_bipush (pc := 30) dX12_far_30 (by decide) ?_
      refine j_icmp_ne (pc := 32) 39 dX12_far_32 (by decide) (by omega) (by omega) (fun h_32 => ?_) (fun h_32 => ?_)
      · refine j_aload_n (pc := 39) dX12_far_39 rfl ?_
        refine j_getR (pc := 40) f_X12_26 dX12_far_40 rfl rfl (by decide) rfl ?_
        refine j_iload_n (pc := 43) dX12_far_43 rfl ?_
        refine j_iald_a (pc := 44) (j) dX12_far_44 rfl (by decide) (by decide) (by omega) (by omega) ?_
        refine j_reti dX12_far_45 (?_) rfl
        rw [hd] at *
        have := q1 i j (jSf I2 110 g) rfl rfl (by omega) (by omega) (mSc_f (Or.inl rfl))
        first | (rw [if_pos (by omega)] at this; exact this) | (rw [if_neg (by omega)] at this; exact this)
      · refine j_iconst (pc := 35) dX12_far_35 ?_
        refine j_goto (pc := 36) 45 dX12_far_36 (by decide) ?_
        refine j_reti dX12_far_45 (?_) rfl
        rw [hd] at *
        have := q1 i j (jSf I2 110 g) rfl rfl (by omega) (by omega) (mSc_f (Or.inl rfl))
        first | (rw [if_pos (by omega)] at this; exact this) | (rw [if_neg (by omega)] at this; exact this)
    · exact kbad (by omega)
theorem c_mwakes (X : jX) (I : jMI) (n a m : Int) (q : Int → jMI → Prop) (hn : -2147483648 ≤ n ∧ n < 2147483648) (ha : -2147483648 ≤ a ∧ a < 2147483648) (hm : -2147483648 ≤ m ∧ m < 2147483648) (hok : okSt (I 106))
    (q0 : ¬ ((0 ≤ n ∧ n ≤ 30) ∧ (0 ≤ a ∧ a ≤ 7) ∧ (0 ≤ m ∧ m ≤ 59)) → q (-2) (mRef I 0)) (q1 : ∀ (i w : Nat) (I' : jMI), (0 ≤ n ∧ n ≤ 30) → a = i → i < 8 → (0 ≤ m ∧ m ≤ 59) → isW (I 106) n i m w → mSc I I' → q w I') : C_X12_wakes X [jR 105, jI n, jI a, jI m] I q := by
  refine CG.of (by decide) [some (jR 105), some (jI n), some (jI a), some (jI m)] rfl (Nat.le_of_ble_eq_true rfl) ?_
  have kbad : ¬ ((0 ≤ n ∧ n ≤ 30) ∧ (0 ≤ a ∧ a ≤ 7) ∧ (0 ≤ m ∧ m ≤ 59)) → S_X12_wakes X 36 [some (jR 105), some (jI n), some (jI a), some (jI m)] [] I q := by
    intro hz
    refine j_aload_n (pc := 36) dX12_wakes_36 rfl ?_
    refine j_goI (pc := 37) (j_runV k_X12_95 m_X12_bad (c_bad X I) dX12_wakes_37 rfl (by decide) rfl (by decide) (by decide) rfl rfl (Nat.le_of_ble_eq_true rfl)) (fun r9 I9 h9 => ?_)
    obtain ⟨rfl, rfl⟩ := h9
    exact j_reti dX12_wakes_40 (q0 hz) rfl
  refine j_iload_n (pc := 0) dX12_wakes_0 rfl ?_
  refine j_i2l (pc := 1) dX12_wakes_1 (by omega) ?_
  refine j_lconst0 (pc := 2) dX12_wakes_2 ?_
  refine j_ldc2 (pc := 3) cl_X12_206 dX12_wakes_3 ?_
  refine j_goI (pc := 6) (j_runS k_X12_75 m_X12_in (c_in X I n 0 30 hn (by omega) (by omega)) dX12_wakes_6 (by decide) rfl rfl (Nat.le_of_ble_eq_true rfl)) (fun r1 I1 h1 => ?_)
  obtain ⟨rfl, rfl⟩ := h1
  refine j_if_eq (pc := 9) 36 dX12_wakes_9 (by decide) (by omega) (fun h_9 => ?_) (fun h_9 => ?_)
  · exact kbad (by omega)
  · refine j_iload_n (pc := 12) dX12_wakes_12 rfl ?_
    refine j_goI (pc := 13) (j_runS k_X12_89 m_X12_isRoom (c_mRoom X I1 a ha) dX12_wakes_13 (by decide) rfl rfl (Nat.le_of_ble_eq_true rfl)) (fun r2 I2 h2 => ?_)
    obtain ⟨rfl, rfl⟩ := h2
    refine j_if_eq (pc := 16) 36 dX12_wakes_16 (by decide) (by omega) (fun h_16 => ?_) (fun h_16 => ?_)
    · exact kbad (by omega)
    · refine j_iload_n (pc := 19) dX12_wakes_19 rfl ?_
      refine j_goI (pc := 20) (j_runS k_X12_208 m_X12_isMinute (c_isMinute X I2 m hm) dX12_wakes_20 (by decide) rfl rfl (Nat.le_of_ble_eq_true rfl)) (fun r3 I3 h3 => ?_)
      obtain ⟨rfl, rfl⟩ := h3
      refine j_if_eq (pc := 23) 36 dX12_wakes_23 (by decide) (by omega) (fun h_23 => ?_) (fun h_23 => ?_)
      · exact kbad (by omega)
      · obtain ⟨i, rfl⟩ := Int.eq_ofNat_of_zero_le (show 0 ≤ a by omega)
        refine j_aload_n (pc := 26) dX12_wakes_26 rfl ?_
        refine j_iload_n (pc := 27) dX12_wakes_27 rfl ?_
        refine j_iload_n (pc := 28) dX12_wakes_28 rfl ?_
        refine j_iload_n (pc := 29) dX12_wakes_29 rfl ?_
        refine j_goI (pc := 30) (j_runV k_X12_211 m_X12_wakesBy (c_wakesBy X I3 n i m (by omega) (by omega) (by omega) hok) dX12_wakes_30 rfl (by decide) rfl (by decide) (by decide) rfl rfl (Nat.le_of_ble_eq_true rfl)) (fun r4 I4 h4 => ?_)
        obtain ⟨w, g, rfl, rfl, hw⟩ := h4
        refine j_goto (pc := 33) 40 dX12_wakes_33 (by decide) ?_
        exact j_reti dX12_wakes_40 (q1 i w _ (by omega) rfl (by omega) (by omega) hw (mSc_f (Or.inl rfl))) rfl
/-- the greatest noise by which nobody wakes -/
def isLd (f : Nat → Int) (room : Nat) (mi : Int) (v : Int) : Prop := 0 ≤ v ∧ v ≤ 30 ∧ (0 < v → isW f v room mi 0) ∧ ∀ n : Int, v < n → n ≤ 30 → ¬ isW f n room mi 0
theorem c_mloud (X : jX) (I : jMI) (a m : Int) (q : Int → jMI → Prop) (ha : -2147483648 ≤ a ∧ a < 2147483648) (hm : -2147483648 ≤ m ∧ m < 2147483648) (hok : okSt (I 106))
    (q0 : ¬ ((0 ≤ a ∧ a ≤ 7) ∧ (0 ≤ m ∧ m ≤ 59)) → q (-2) (mRef I 0)) (q1 : ∀ (i : Nat) (v : Int) (I' : jMI), a = i → i < 8 → (0 ≤ m ∧ m ≤ 59) → isLd (I 106) i m v → mSc I I' → q v I') : C_X12_loud X [jR 105, jI a, jI m] I q := by
  refine CG.of (by decide) [some (jR 105), some (jI a), some (jI m), none, none] rfl (Nat.le_of_ble_eq_true rfl) ?_
  have kbad : ¬ ((0 ≤ a ∧ a ≤ 7) ∧ (0 ≤ m ∧ m ≤ 59)) → S_X12_loud X 14 [some (jR 105), some (jI a), some (jI m), none, none] [] I q := by
    intro hz
    refine j_aload_n (pc := 14) dX12_loud_14 rfl ?_
    refine j_goI (pc := 15) (j_runV k_X12_95 m_X12_bad (c_bad X I) dX12_loud_15 rfl (by decide) rfl (by decide) (by decide) rfl rfl (Nat.le_of_ble_eq_true rfl)) (fun r9 I9 h9 => ?_)
    obtain ⟨rfl, rfl⟩ := h9
    exact j_reti dX12_loud_18 (q0 hz) rfl
  have key : ∀ (i : Nat), a = i → i < 8 → (0 ≤ m ∧ m ≤ 59) → ∀ (k : Nat) (v : Int) (J0 : jMI), 1 ≤ k → k ≤ 31 → mSc I J0 → (0 ≤ v ∧ v < k ∧ (0 < v → isW (I 106) v i m 0) ∧ ∀ n : Int, v < n → n < k → ¬ isW (I 106) n i m 0) → S_X12_loud X 24 [some (jR 105), some (jI i), some (jI m), some (jI v), some (jI k)] [] J0 q := by
    intro i hai hi hm1
    refine mu3 (fun k _ _ => 31 - k) _ (fun k v J0 ih hk1 hk hsc hv => ?_)
    have e6 : J0 106 = I 106 := hsc 106 (by omega)
    refine j_iload (pc := 24) dX12_loud_24 rfl ?_
    refine j_bipush (pc := 26) dX12_loud_26 (by decide) ?_
    refine j_icmp_gt (pc := 28) 55 dX12_loud_28 (by decide) (by omega) (by omega) (fun h_28 => ?_) (fun h_28 => ?_)
    · refine j_iload_n (pc := 55) dX12_loud_55 rfl ?_
      exact j_reti dX12_loud_56 (q1 i v J0 hai hi hm1 ⟨hv.1, by omega, hv.2.2.1, fun n h1 h2 => hv.2.2.2 n h1 (by omega)⟩ hsc) rfl
    · refine j_aload_n (pc := 31) dX12_loud_31 rfl ?_
      refine j_iload (pc := 32) dX12_loud_32 rfl ?_
      refine j_iload_n (pc := 34) dX12_loud_34 rfl ?_
      refine j_iload_n (pc := 35) dX12_loud_35 rfl ?_
      refine j_goI (pc := 36) (j_runV k_X12_211 m_X12_wakesBy (c_wakesBy X J0 k i m (by omega) hi hm1 (by rw [e6]; exact hok)) dX12_loud_36 rfl (by decide) rfl (by decide) (by decide) rfl rfl (Nat.le_of_ble_eq_true rfl)) (fun r4 I4 h4 => ?_)
      obtain ⟨w, g, rfl, rfl, hw⟩ := h4
      rw [e6] at hw
      have hw32 := hw.1
      refine j_if_ne (pc := 39) 47 dX12_loud_39 (by decide) (by omega) (fun h_39 => ?_) (fun h_39 => ?_)
      · refine j_iload_n (pc := 47) dX12_loud_47 rfl ?_
        refine j_istore_n3 (pc := 48) dX12_loud_48 (by decide) rfl ?_
        refine j_iinc4 (pc := 49) dX12_loud_49 (by decide) rfl ?_
        refine j_goto (pc := 52) 24 dX12_loud_52 (by decide) ?_
        refine ih (k + 1) _ _ (by omega) (by omega) (by omega) (hsc.tr (mSc_f (Or.inl rfl))) ?_
        first
          | (obtain rfl : w = 0 := by omega
             exact ⟨by omega, by omega, fun _ => hw, fun n h1 h2 => by omega⟩)
          | exact ⟨hv.1, by omega, hv.2.2.1, fun n h1 h2 hn => by
              by_cases hnk : n = k
              · subst hnk
                have := isW_uniq hn hw
                omega
              · exact hv.2.2.2 n h1 (by omega) hn⟩
      · refine j_iload (pc := 42) dX12_loud_42 rfl ?_
        refine j_goto (pc := 44) 48 dX12_loud_44 (by decide) ?_
        refine j_istore_n3 (pc := 48) dX12_loud_48 (by decide) rfl ?_
        refine j_iinc4 (pc := 49) dX12_loud_49 (by decide) rfl ?_
        refine j_goto (pc := 52) 24 dX12_loud_52 (by decide) ?_
        refine ih (k + 1) _ _ (by omega) (by omega) (by omega) (hsc.tr (mSc_f (Or.inl rfl))) ?_
        first
          | (obtain rfl : w = 0 := by omega
             exact ⟨by omega, by omega, fun _ => hw, fun n h1 h2 => by omega⟩)
          | exact ⟨hv.1, by omega, hv.2.2.1, fun n h1 h2 hn => by
              by_cases hnk : n = k
              · subst hnk
                have := isW_uniq hn hw
                omega
              · exact hv.2.2.2 n h1 (by omega) hn⟩
  refine j_iload_n (pc := 0) dX12_loud_0 rfl ?_
  refine j_goI (pc := 1) (j_runS k_X12_89 m_X12_isRoom (c_mRoom X I a ha) dX12_loud_1 (by decide) rfl rfl (Nat.le_of_ble_eq_true rfl)) (fun r1 I1 h1 => ?_)
  obtain ⟨rfl, rfl⟩ := h1
  refine j_if_eq (pc := 4) 14 dX12_loud_4 (by decide) (by omega) (fun h_4 => ?_) (fun h_4 => ?_)
  · exact kbad (by omega)
  · refine j_iload_n (pc := 7) dX12_loud_7 rfl ?_
    refine j_goI (pc := 8) (j_runS k_X12_208 m_X12_isMinute (c_isMinute X I1 m hm) dX12_loud_8 (by decide) rfl rfl (Nat.le_of_ble_eq_true rfl)) (fun r2 I2 h2 => ?_)
    obtain ⟨rfl, rfl⟩ := h2
    refine j_if_ne (pc := 11) 19 dX12_loud_11 (by decide) (by omega) (fun h_11 => ?_) (fun h_11 => ?_)
    · obtain ⟨i, rfl⟩ := Int.eq_ofNat_of_zero_le (show 0 ≤ a by omega)
      refine j_iconst (pc := 19) dX12_loud_19 ?_
      refine j_istore_n3 (pc := 20) dX12_loud_20 (by decide) rfl ?_
      refine j_iconst (pc := 21) dX12_loud_21 ?_
      refine j_istore4 (pc := 22) dX12_loud_22 (by decide) rfl ?_
      exact key i rfl (by omega) (by omega) 1 0 I2 (by omega) (by omega) mSc.rf ⟨by omega, by omega, fun h => by omega, fun n h1 h2 => by omega⟩
    · exact kbad (by omega)
