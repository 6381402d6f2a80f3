/-! ===== the reference: may, ways, listen ===== -/
theorem hdK_sc {I J : jMI} (h : hdK I J) : mSc I J := fun k hk => h k (by omega) (by omega) (by omega) (by omega)
theorem jcmp_0 {a : Int} (ha : 0 ≤ a ∧ a ≤ 9000000000000000000) : jcmp a 0 = if 0 < a then 1 else 0 := by
  rw [jcmp_lt (by omega) (by omega)]
  split
  · rfl
  · rw [if_pos (by omega)]
def isMy (f : Nat → Int) (m : Nat) (w : Nat) : Prop := ∀ r, w.testBit r = true ↔ (r < 8 ∧ 0 < cm f m r ∧ 0 < onF f (12 - m) r)
set_option maxHeartbeats 4000000 in
theorem c_mmay (X : jX) (I : jMI) (m : Int) (q : Int → jMI → Prop) (hm : -2147483648 ≤ m ∧ m < 2147483648) (hok : okSt (I 106)) (q0 : ¬ (0 ≤ m ∧ m ≤ 12) → q (-2) (mRef I 0)) (q1 : ∀ (i w : Nat) (I' : jMI), m = i → i ≤ 12 → isMy (I 106) i w → mSc I I' → q w I') : C_X12_may X [jR 105, jI m] I q := by
  refine CG.of (by decide) [some (jR 105), some (jI m), none, none] rfl (Nat.le_of_ble_eq_true rfl) ?_
  have key : ∀ (i : Nat), m = i → i ≤ 12 → ∀ (J0 : jMI), mSc I J0 → (∀ m a, m ≤ 12 → a < 8 → J0 116 (8 * m + a) = cm (I 106) m a) → (∀ m a, m ≤ 12 → a < 8 → J0 117 (8 * m + a) = onF (I 106) (12 - m) a) → ∀ (r w : Nat), r ≤ 8 → w < 2 ^ 8 → (∀ z, w.testBit z = true ↔ (z < r ∧ 0 < cm (I 106) i z ∧ 0 < onF (I 106) (12 - i) z)) → S_X12_may X 25 [some (jR 105), some (jI i), some (jI w), some (jI r)] [] J0 q := by
    intro i hmi hi J0 hsc hC hN
    refine mu2 (fun r _ => 8 - r) _ (fun r w ih hr hw hb => ?_)
    have h1 := cm_small (I 106) hi r
    have h2 := onF_small (I 106) (show 12 - i ≤ 12 by omega) r
    have j1 := jcmp_0 (a := cm (I 106) i r) (by omega)
    have j2 := jcmp_0 (a := onF (I 106) (12 - i) r) (by omega)
    have k71 : r < 8 → ∀ v : Int, ((v = ((2 ^ r : Nat) : Int) ∧ (0 < cm (I 106) i r ∧ 0 < onF (I 106) (12 - i) r)) ∨ (v = 0 ∧ ¬ (0 < cm (I 106) i r ∧ 0 < onF (I 106) (12 - i) r))) → S_X12_may X 71 [some (jR 105), some (jI i), some (jI w), some (jI r)] [jI v, jI w] J0 q := by
      intro hr8 v hv
      obtain ⟨w', e1, e2, e3⟩ := bor_step (n := 8) (s := r) (by omega) hw hr8 (show v = ((2 ^ r : Nat) : Int) ∨ v = 0 by rcases hv with ⟨h, -⟩ | ⟨h, -⟩ <;> simp [h])
      have hp2t : (0 : Int) < ((2 ^ r : Nat) : Int) := by have := Nat.two_pow_pos r; omega
      refine j_ior (pc := 71) dX12_may_71 ?_
      rw [e1]
      refine j_istore_n2 (pc := 72) dX12_may_72 (by decide) rfl ?_
      refine j_iinc3 (pc := 73) dX12_may_73 (by decide) rfl ?_
      refine j_goto (pc := 76) 25 dX12_may_76 (by decide) ?_
      refine ih (r + 1) w' (by omega) (by omega) e2 ?_
      rcases e3 with ⟨e3, rfl⟩ | ⟨e3, rfl⟩
      · refine bt_set hb (fun z => ?_)
        have hx : 0 < cm (I 106) i r ∧ 0 < onF (I 106) (12 - i) r := by rcases hv with ⟨-, h⟩ | ⟨h, -⟩ <;> first | exact h | omega
        constructor
        · rintro ⟨h1, h2⟩
          by_cases hit : z = r
          · exact Or.inr hit
          · exact Or.inl ⟨by omega, h2⟩
        · rintro (⟨h1, h2⟩ | rfl)
          · exact ⟨by omega, h2⟩
          · exact ⟨by omega, hx⟩
      · intro z
        rw [hb z]
        have hx : ¬ (0 < cm (I 106) i r ∧ 0 < onF (I 106) (12 - i) r) := by rcases hv with ⟨h, -⟩ | ⟨-, h⟩ <;> first | exact h | omega
        constructor
        · rintro ⟨g1, g2⟩; exact ⟨by omega, g2⟩
        · rintro ⟨g1, g2⟩
          by_cases hit : z = r
          · subst hit; exact absurd g2 hx
          · exact ⟨by omega, g2⟩
    refine j_iload_n (pc := 25) dX12_may_25 rfl ?_
    refine j_bipush (pc := 26) dX12_may_26 (by decide) ?_
    refine j_icmp_ge (pc := 28) 79 dX12_may_28 (by decide) (by omega) (by omega) (fun h_28 => ?_) (fun h_28 => ?_)
    · refine j_iload_n (pc := 79) dX12_may_79 rfl ?_
      exact j_reti dX12_may_80 (q1 i w J0 hmi hi (fun z => by rw [hb z]; exact ⟨fun h => ⟨by omega, h.2⟩, fun h => ⟨by omega, h.2⟩⟩) hsc) rfl
    · refine j_iload_n (pc := 31) dX12_may_31 rfl ?_
      refine j_aload_n (pc := 32) dX12_may_32 rfl ?_
      refine j_getR (pc := 33) f_X12_45 dX12_may_33 rfl rfl (by decide) rfl ?_
      refine j_bipush (pc := 36) dX12_may_36 (by decide) ?_
      refine j_iload_n (pc := 38) dX12_may_38 rfl ?_
      refine j_imul (pc := 39) dX12_may_39 ?_
      refine j_iload_n (pc := 40) dX12_may_40 rfl ?_
      refine j_iadd (pc := 41) dX12_may_41 ?_
      refine j_lald_b (pc := 42) (8 * i + r) dX12_may_42 rfl (by decide) (by decide) (by omega) (by omega) ?_
      rw [hC i r hi (by omega)]
      refine j_lconst0 (pc := 43) dX12_may_43 ?_
      refine j_lcmp (pc := 44) dX12_may_44 ?_
      refine j_if_le (pc := 45) 70 dX12_may_45 (by decide) (by omega) (fun h_45 => ?_) (fun h_45 => ?_)
      · refine j_iconst (pc := 70) dX12_may_70 ?_
        exact k71 (by omega) _ (by first | exact Or.inl ⟨rfl, by omega, by omega⟩ | exact Or.inr ⟨rfl, by omega⟩)
      · refine j_aload_n (pc := 48) dX12_may_48 rfl ?_
        refine j_getR (pc := 49) f_X12_49 dX12_may_49 rfl rfl (by decide) rfl ?_
        refine j_bipush (pc := 52) dX12_may_52 (by decide) ?_
        refine j_iload_n (pc := 54) dX12_may_54 rfl ?_
        refine j_imul (pc := 55) dX12_may_55 ?_
        refine j_iload_n (pc := 56) dX12_may_56 rfl ?_
        refine j_iadd (pc := 57) dX12_may_57 ?_
        refine j_lald_b (pc := 58) (8 * i + r) dX12_may_58 rfl (by decide) (by decide) (by omega) (by omega) ?_
        rw [hN i r hi (by omega)]
        refine j_lconst0 (pc := 59) dX12_may_59 ?_
        refine j_lcmp (pc := 60) dX12_may_60 ?_
        refine j_if_le (pc := 61) 70 dX12_may_61 (by decide) (by omega) (fun h_61 => ?_) (fun h_61 => ?_)
        · refine j_iconst (pc := 70) dX12_may_70 ?_
          exact k71 (by omega) _ (by first | exact Or.inl ⟨rfl, by omega, by omega⟩ | exact Or.inr ⟨rfl, by omega⟩)
        · refine j_iconst (pc := 64) dX12_may_64 ?_
          refine j_iload_n (pc := 65) dX12_may_65 rfl ?_
          refine j_ishl (pc := 66) dX12_may_66 ?_
          rw [jshl_n (by omega)]
          refine j_goto (pc := 67) 71 dX12_may_67 (by decide) ?_
          exact k71 (by omega) _ (by first | exact Or.inl ⟨rfl, by omega, by omega⟩ | exact Or.inr ⟨rfl, by omega⟩)
  refine j_iload_n (pc := 0) dX12_may_0 rfl ?_
  refine j_i2l (pc := 1) dX12_may_1 (by omega) ?_
  refine j_lconst0 (pc := 2) dX12_may_2 ?_
  refine j_ldc2 (pc := 3) cl_X12_247 dX12_may_3 ?_
  refine j_goI (pc := 6) (j_runS k_X12_75 m_X12_in (c_in X I m 0 12 hm (by omega) (by omega)) dX12_may_6 (by decide) rfl rfl (Nat.le_of_ble_eq_true rfl)) (fun r1 I1 h1 => ?_)
  obtain ⟨rfl, rfl⟩ := h1
  refine j_if_ne (pc := 9) 17 dX12_may_9 (by decide) (by omega) (fun h_9 => ?_) (fun h_9 => ?_)
  · obtain ⟨i, rfl⟩ := Int.eq_ofNat_of_zero_le (show 0 ≤ m by omega)
    refine j_aload_n (pc := 17) dX12_may_17 rfl ?_
    refine j_goV (pc := 18) (j_runV k_X12_255 m_X12_findHeard (c_findHeard X I1 hok) dX12_may_18 rfl (by decide) rfl (by decide) (by decide) rfl rfl (Nat.le_of_ble_eq_true rfl)) (fun I2 h2 => ?_)
    obtain ⟨h2, h3, h4, h5⟩ := h2
    refine j_iconst (pc := 21) dX12_may_21 ?_
    refine j_istore_n2 (pc := 22) dX12_may_22 (by decide) rfl ?_
    refine j_iconst (pc := 23) dX12_may_23 ?_
    refine j_istore_n3 (pc := 24) dX12_may_24 (by decide) rfl ?_
    exact key i rfl (by omega) I2 (hdK_sc h5) h3 h4 0 0 (by omega) (by omega) (fun z => by simp)
  · refine j_aload_n (pc := 12) dX12_may_12 rfl ?_
    refine j_goI (pc := 13) (j_runV k_X12_95 m_X12_bad (c_bad X I1) dX12_may_13 rfl (by decide) rfl (by decide) (by decide) rfl rfl (Nat.le_of_ble_eq_true rfl)) (fun r9 I9 h9 => ?_)
    obtain ⟨rfl, rfl⟩ := h9
    exact j_reti dX12_may_16 (q0 (by omega)) rfl
theorem c_mways (X : jX) (I : jMI) (q : Int → jMI → Prop) (hok : okSt (I 106)) (q1 : ∀ I', mSc I I' → q (onF (I 106) 12 0) I') : C_X12_ways X [jR 105] I q := by
  refine CG.of (by decide) [some (jR 105)] rfl (Nat.le_of_ble_eq_true rfl) ?_
  refine j_aload_n (pc := 0) dX12_ways_0 rfl ?_
  refine j_goV (pc := 1) (j_runV k_X12_255 m_X12_findHeard (c_findHeard X I hok) dX12_ways_1 rfl (by decide) rfl (by decide) (by decide) rfl rfl (Nat.le_of_ble_eq_true rfl)) (fun I2 h2 => ?_)
  obtain ⟨h2, h3, h4, h5⟩ := h2
  refine j_aload_n (pc := 4) dX12_ways_4 rfl ?_
  refine j_getR (pc := 5) f_X12_49 dX12_ways_5 rfl rfl (by decide) rfl ?_
  refine j_iconst (pc := 8) dX12_ways_8 ?_
  refine j_lald_b (pc := 9) (0) dX12_ways_9 rfl (by decide) (by decide) (by omega) (by omega) ?_
  rw [show I2 117 0 = onF (I 106) 12 0 from h4 0 0 (by omega) (by omega)]
  exact j_retl dX12_ways_10 (q1 I2 (hdK_sc h5)) rfl
/-- the rows in which sleeper s hears the step of minute m -/
noncomputable def yesF (f : Nat → Int) (m s : Nat) : Int := sumTo 8 (fun a => sumTo 8 (fun b => ind (ldP f m a b ∧ hbP f m a b s) * (cm f m a * onF f (11 - m) b)))
/-- the same, pair by pair -/
noncomputable def yesT (f : Nat → Int) (m s k : Nat) : Int := sumTo k (fun i => ind (ldP f m (i / 8) (i % 8) ∧ hbP f m (i / 8) (i % 8) s) * (cm f m (i / 8) * onF f (11 - m) (i % 8)))
theorem yesT_blk (G : Nat → Nat → Int) : ∀ (n j : Nat), j ≤ 8 → sumTo (8 * n + j) (fun i => G (i / 8) (i % 8)) = sumTo n (fun a => sumTo 8 (fun b => G a b)) + sumTo j (fun b => G n b)
  | 0, 0, _ => rfl
  | n + 1, 0, _ => by
    have := yesT_blk G n 8 (by omega)
    rw [show 8 * (n + 1) + 0 = 8 * n + 8 by omega, this]
    show _ = (sumTo n (fun a => sumTo 8 (fun b => G a b)) + sumTo 8 (fun b => G n b)) + 0
    omega
  | n, j + 1, h => by
    have := yesT_blk G n j (by omega)
    rw [show 8 * n + (j + 1) = (8 * n + j) + 1 by omega]
    show sumTo (8 * n + j) (fun i => G (i / 8) (i % 8)) + G ((8 * n + j) / 8) ((8 * n + j) % 8) = sumTo n (fun a => sumTo 8 (fun b => G a b)) + (sumTo j (fun b => G n b) + G n j)
    rw [this, show (8 * n + j) / 8 = n by omega, show (8 * n + j) % 8 = j by omega]
    omega
theorem yesT_64 (f : Nat → Int) (m s : Nat) : yesT f m s 64 = yesF f m s := by
  have := yesT_blk (fun a b => ind (ldP f m a b ∧ hbP f m a b s) * (cm f m a * onF f (11 - m) b)) 8 0 (by omega)
  unfold yesT yesF
  rw [this]
  simp [sumTo]
theorem yes_rng (f : Nat → Int) {m : Nat} (hm : m ≤ 11) (s : Nat) : 0 ≤ yesF f m s ∧ yesF f m s ≤ onF f 12 0 := by
  have hp : ∀ a b, 0 ≤ cm f m a * onF f (11 - m) b := fun a b => Int.mul_nonneg (cm_rng f m a).1 (onF_rng f (11 - m) b).1
  refine ⟨sumTo_nn 8 (fun a _ => sumTo_nn 8 (fun b _ => (ind_mul ⟨hp a b, Int.le_refl _⟩).1)), ?_⟩
  have h1 : yesF f m s ≤ sumTo 8 (fun a => cm f m a * onF f (12 - m) a) := by
    refine sumTo_le2 8 (fun a _ => ?_)
    rw [show 12 - m = (11 - m) + 1 by omega]
    simp only [onF]
    rw [show 11 - (11 - m) = m by omega, ← sumTo_mul]
    refine sumTo_le2 8 (fun b _ => ?_)
    by_cases hl : ldP f m a b
    · rw [ind_t hl, Int.one_mul]
      exact (ind_mul ⟨hp a b, Int.le_refl _⟩).2
    · rw [ind_f hl, ind_f (fun h => hl h.1)]
      simp
  rw [tot_m f m (by omega)] at h1
  exact h1
noncomputable def partF (f : Nat → Int) (m s : Nat) : Int := if yesF f m s > onF f 12 0 - yesF f m s then yesF f m s else onF f 12 0 - yesF f m s
def isLs (f : Nat → Int) (m : Nat) (r : Int) : Prop := (r = -1 ∧ (f 5 = 0 ∨ onF f 12 0 = 0)) ∨ ∃ s : Nat, r = s ∧ (s : Int) < f 5 ∧ 0 < onF f 12 0 ∧ (∀ z : Nat, (z : Int) < f 5 → partF f m s ≤ partF f m z) ∧ ∀ z, z < s → partF f m s < partF f m z
theorem isLs_uniq {f : Nat → Int} {m : Nat} {r r' : Int} (h5 : 0 ≤ f 5) (h : isLs f m r) (h' : isLs f m r') : r = r' := by
  rcases h with ⟨h, n⟩ | ⟨s, h, h1, h2, h3, h4⟩ <;> rcases h' with ⟨h', n'⟩ | ⟨s', h', h1', h2', h3', h4'⟩
  · omega
  · omega
  · omega
  · rcases Nat.lt_trichotomy s s' with hlt | heq | hgt
    · have := h4' s hlt; have := h3 s' h1'; omega
    · omega
    · have := h4 s' hgt; have := h3' s h1; omega
theorem c_has (X : jX) (I : jMI) (w s : Nat) (hw : w < 32) (hs : s < 5) : C_X12_has X [jI w, jI s] I (fun r I' => r = (if w.testBit s then 1 else 0) ∧ I' = I) := by
  refine CG.of (by decide) [some (jI w), some (jI s)] rfl (Nat.le_of_ble_eq_true rfl) ?_
  have hb := jbit (a := w) (s := s) (by omega) (by omega)
  refine j_iload_n (pc := 0) dX12_has_0 rfl ?_
  refine j_iload_n (pc := 1) dX12_has_1 rfl ?_
  refine j_ishr (pc := 2) dX12_has_2 ?_
  refine j_iconst (pc := 3) dX12_has_3 ?_
  refine j_iand (pc := 4) dX12_has_4 ?_
  rw [hb]
  refine j_iconst (pc := 5) dX12_has_5 ?_
  refine j_icmp_ne (pc := 6) 13 dX12_has_6 (by decide) (by omega) (by omega) (fun h_6 => ?_) (fun h_6 => ?_)
  · refine j_iconst (pc := 13) dX12_has_13 ?_
    exact j_retz dX12_has_14 (by omega) (⟨by split at * <;> omega, rfl⟩) rfl
  · refine j_iconst (pc := 9) dX12_has_9 ?_
    refine j_goto (pc := 10) 14 dX12_has_10 (by decide) ?_
    exact j_retz dX12_has_14 (by omega) (⟨by split at * <;> omega, rfl⟩) rfl
set_option maxHeartbeats 8000000 in
theorem c_mlisten (X : jX) (I : jMI) (m : Int) (q : Int → jMI → Prop) (hm : -2147483648 ≤ m ∧ m < 2147483648) (hok : okSt (I 106)) (q0 : ¬ (0 ≤ m ∧ m ≤ 11) → q (-2) (mRef I 0)) (q1 : ∀ (i : Nat) (r : Int) (I' : jMI), m = i → i ≤ 11 → isLs (I 106) i r → mSc I I' → q r I') : C_X12_listen X [jR 105, jI m] I q := by
  refine CG.of (by decide) [some (jR 105), some (jI m), none, none, none, none, none, none, none, none, none, none] rfl (Nat.le_of_ble_eq_true rfl) ?_
  obtain ⟨n5, hn5, hn55⟩ := okSt_5 hok
  generalize hf : I 106 = f at *
  have htot := onF_small f (show 12 ≤ 12 by omega) 0
  have key : ∀ (i : Nat), m = i → i ≤ 11 → ∀ (s1 : Nat) (best least : Int) (J0 : jMI), s1 ≤ n5 → mSc I J0 → isOp f (J0 118) 12 → (∀ m a, m ≤ 12 → a < 8 → J0 116 (8 * m + a) = cm f m a) → (∀ m a, m ≤ 12 → a < 8 → J0 117 (8 * m + a) = onF f (12 - m) a) →
      ((best = -1 ∧ least = onF f 12 0 ∧ s1 = n5) ∨ ∃ s : Nat, best = s ∧ s1 ≤ s ∧ s < n5 ∧ least = partF f i s ∧ 0 < onF f 12 0 ∧ (∀ z : Nat, s1 ≤ z → z < n5 → partF f i s ≤ partF f i z) ∧ ∀ z : Nat, s1 ≤ z → z < s → partF f i s < partF f i z) →
      ∀ x6 x7 x8 x9 x10 x11, S_X12_listen X 40 [some (jR 105), some (jI i), some (jI best), some (jL least), none, some (jI ((s1 : Int) - 1)), x6, x7, x8, x9, x10, x11] [] J0 q := by
    intro i hmi hi
    refine mu4 (fun s1 _ _ _ => s1) _ (fun s1 best least J0 ih hs1 hsc hO hC hN hbl x6 x7 x8 x9 x10 x11 => ?_)
    have e0 : J0 117 0 = onF f 12 0 := hN 0 0 (by omega) (by omega)
    have jt := jcmp_0 (a := onF f 12 0) (by omega)
    -- behind the sum
    have k169 : ∀ (s : Nat), s1 = s + 1 → 0 < onF f 12 0 → ∀ (J1 : jMI), mSc I J1 → isOp f (J1 118) 12 → (∀ m a, m ≤ 12 → a < 8 → J1 116 (8 * m + a) = cm f m a) → (∀ m a, m ≤ 12 → a < 8 → J1 117 (8 * m + a) = onF f (12 - m) a) → ∀ x8 x9 x10 x11, S_X12_listen X 169 [some (jR 105), some (jI i), some (jI best), some (jL least), none, some (jI s), some (jL (yesF f i s)), none, x8, x9, x10, x11] [] J1 q := by
      intro s hs ht J1 hsc1 hO1 hC1 hN1 x8 x9 x10 x11
      have e1 : J1 117 0 = onF f 12 0 := hN1 0 0 (by omega) (by omega)
      have hy := yes_rng f hi s
      have jy := jcmp_lt (a := yesF f i s) (b := onF f 12 0 - yesF f i s) (by omega) (by omega)
      have hleast : 0 ≤ least ∧ least ≤ onF f 12 0 := by
        rcases hbl with ⟨-, h, -⟩ | ⟨z, -, -, -, h, -⟩
        · omega
        · have hz := yes_rng f hi z
          unfold partF at h
          split at h <;> omega
      have hpr : 0 ≤ partF f i s ∧ partF f i s ≤ onF f 12 0 := by unfold partF; split <;> omega
      have jl := jcmp_lt (a := partF f i s) (b := least) (by omega) (by omega)
      have k198 : ∀ v, v = partF f i s → ∀ x8 x9, S_X12_listen X 198 [some (jR 105), some (jI i), some (jI best), some (jL least), none, some (jI s), some (jL (yesF f i s)), none, x8, x9, x10, x11] [jL v] J1 q := by
        intro v hv x8 x9
        subst hv
        refine j_lstore8 (pc := 198) dX12_listen_198 (by decide) rfl ?_
        refine j_lload (pc := 200) dX12_listen_200 rfl ?_
        refine j_lload_n (pc := 202) dX12_listen_202 rfl ?_
        refine j_lcmp (pc := 203) dX12_listen_203 ?_
        refine j_if_gt (pc := 204) 213 dX12_listen_204 (by decide) (by omega) (fun h_204 => ?_) (fun h_204 => ?_)
        · refine j_iinc5 (pc := 213) dX12_listen_213 (by decide) rfl ?_
          refine j_goto (pc := 216) 40 dX12_listen_216 (by decide) ?_
          refine ih s _ _ J1 (by omega) (by omega) hsc1 hO1 hC1 hN1 ?_ _ _ _ _ _ _
          first
            | (refine Or.inr ⟨s, rfl, by omega, by omega, rfl, ht, fun z h1 h2 => ?_, fun z h1 h2 => by omega⟩
               have hps : partF f i s ≤ least := by rw [jl] at h_204; split at h_204 <;> omega
               by_cases hzs : z = s
               · subst hzs; omega
               · rcases hbl with ⟨e1, e2, e3⟩ | ⟨t, e1, e2, e3, e4, e5, e6, e7⟩
                 · omega
                 · have := e6 z (by omega) h2
                   omega)
            | (have hps : least < partF f i s := by rw [jl] at h_204; split at h_204 <;> first | omega | (split at h_204 <;> omega)
               rcases hbl with ⟨e1, e2, e3⟩ | ⟨t, e1, e2, e3, e4, e5, e6, e7⟩
               · omega
               · refine Or.inr ⟨t, e1, by omega, e3, e4, e5, fun z h1 h2 => ?_, fun z h1 h2 => ?_⟩
                 · by_cases hzs : z = s
                   · subst hzs; omega
                   · exact e6 z (by omega) h2
                 · by_cases hzs : z = s
                   · subst hzs; omega
                   · exact e7 z (by omega) h2)
        · refine j_iload (pc := 207) dX12_listen_207 rfl ?_
          refine j_istore_n2 (pc := 209) dX12_listen_209 (by decide) rfl ?_
          refine j_lload (pc := 210) dX12_listen_210 rfl ?_
          refine j_lstore_n3 (pc := 212) dX12_listen_212 (by decide) rfl ?_
          refine j_iinc5 (pc := 213) dX12_listen_213 (by decide) rfl ?_
          refine j_goto (pc := 216) 40 dX12_listen_216 (by decide) ?_
          refine ih s _ _ J1 (by omega) (by omega) hsc1 hO1 hC1 hN1 ?_ _ _ _ _ _ _
          first
            | (refine Or.inr ⟨s, rfl, by omega, by omega, rfl, ht, fun z h1 h2 => ?_, fun z h1 h2 => by omega⟩
               have hps : partF f i s ≤ least := by rw [jl] at h_204; split at h_204 <;> omega
               by_cases hzs : z = s
               · subst hzs; omega
               · rcases hbl with ⟨e1, e2, e3⟩ | ⟨t, e1, e2, e3, e4, e5, e6, e7⟩
                 · omega
                 · have := e6 z (by omega) h2
                   omega)
            | (have hps : least < partF f i s := by rw [jl] at h_204; split at h_204 <;> first | omega | (split at h_204 <;> omega)
               rcases hbl with ⟨e1, e2, e3⟩ | ⟨t, e1, e2, e3, e4, e5, e6, e7⟩
               · omega
               · refine Or.inr ⟨t, e1, by omega, e3, e4, e5, fun z h1 h2 => ?_, fun z h1 h2 => ?_⟩
                 · by_cases hzs : z = s
                   · subst hzs; omega
                   · exact e6 z (by omega) h2
                 · by_cases hzs : z = s
                   · subst hzs; omega
                   · exact e7 z (by omega) h2)
      refine j_lload (pc := 169) dX12_listen_169 rfl ?_
      refine j_aload_n (pc := 171) dX12_listen_171 rfl ?_
      refine j_getR (pc := 172) f_X12_49 dX12_listen_172 rfl rfl (by decide) rfl ?_
      refine j_iconst (pc := 175) dX12_listen_175 ?_
      refine j_lald_b (pc := 176) (0) dX12_listen_176 rfl (by decide) (by decide) (by omega) (by omega) ?_
      rw [e1]
      refine j_lload (pc := 177) dX12_listen_177 rfl ?_
      refine j_lsub (pc := 179) dX12_listen_179 ?_
      refine j_lcmp (pc := 180) dX12_listen_180 ?_
      refine j_if_le (pc := 181) 189 dX12_listen_181 (by decide) (by omega) (fun h_181 => ?_) (fun h_181 => ?_)
      · refine j_aload_n (pc := 189) dX12_listen_189 rfl ?_
        refine j_getR (pc := 190) f_X12_49 dX12_listen_190 rfl rfl (by decide) rfl ?_
        refine j_iconst (pc := 193) dX12_listen_193 ?_
        refine j_lald_b (pc := 194) (0) dX12_listen_194 rfl (by decide) (by decide) (by omega) (by omega) ?_
        rw [e1]
        refine j_lload (pc := 195) dX12_listen_195 rfl ?_
        refine j_lsub (pc := 197) dX12_listen_197 ?_
        refine k198 _ ?_ _ _
        unfold partF
        rw [jy] at h_181
        split
        · first | rfl | (exfalso; rw [if_pos (by omega)] at h_181; omega)
        · first | rfl | (exfalso; rw [if_neg (by omega)] at h_181; split at h_181 <;> omega)
      · refine j_lload (pc := 184) dX12_listen_184 rfl ?_
        refine j_goto (pc := 186) 198 dX12_listen_186 (by decide) ?_
        refine k198 _ ?_ _ _
        unfold partF
        rw [jy] at h_181
        split
        · first | rfl | (exfalso; rw [if_pos (by omega)] at h_181; omega)
        · first | rfl | (exfalso; rw [if_neg (by omega)] at h_181; split at h_181 <;> omega)
    -- the sum
    have k62 : ∀ (s : Nat), s1 = s + 1 → 0 < onF f 12 0 → ∀ (k : Nat) (J1 : jMI), k ≤ 64 → mSc I J1 → isOp f (J1 118) 12 → (∀ m a, m ≤ 12 → a < 8 → J1 116 (8 * m + a) = cm f m a) → (∀ m a, m ≤ 12 → a < 8 → J1 117 (8 * m + a) = onF f (12 - m) a) → ∀ x9 x10 x11, S_X12_listen X 62 [some (jR 105), some (jI i), some (jI best), some (jL least), none, some (jI s), some (jL (yesT f i s k)), none, some (jI k), x9, x10, x11] [] J1 q := by
      intro s hs ht
      refine mu2 (fun k _ => 64 - k) _ (fun k J1 ihk hk hsc1 hO1 hC1 hN1 x9 x10 x11 => ?_)
      have k120 : k < 64 → ∀ (v : Int) (J2 : jMI), mSc I J2 → isOp f (J2 118) 12 → (∀ m a, m ≤ 12 → a < 8 → J2 116 (8 * m + a) = cm f m a) → (∀ m a, m ≤ 12 → a < 8 → J2 117 (8 * m + a) = onF f (12 - m) a) → ((v = 1 ∧ (ldP f i (k / 8) (k % 8) ∧ hbP f i (k / 8) (k % 8) s)) ∨ (v = 0 ∧ ¬ (ldP f i (k / 8) (k % 8) ∧ hbP f i (k / 8) (k % 8) s))) → ∀ x11, S_X12_listen X 120 [some (jR 105), some (jI i), some (jI best), some (jL least), none, some (jI s), some (jL (yesT f i s k)), none, some (jI k), some (jI ((k / 8 : Nat) : Int)), some (jI ((k % 8 : Nat) : Int)), x11] [jI v] J2 q := by
        intro hk64 v J2 hsc2 hO2 hC2 hN2 hv x11
        refine j_istore11 (pc := 120) dX12_listen_120 (by decide) rfl ?_
        refine j_lload (pc := 122) dX12_listen_122 rfl ?_
        refine j_iload (pc := 124) dX12_listen_124 rfl ?_
        refine j_if_eq (pc := 126) 159 dX12_listen_126 (by decide) (by omega) (fun h_126 => ?_) (fun h_126 => ?_)
        · refine j_lconst0 (pc := 159) dX12_listen_159 ?_
          refine j_ladd (pc := 160) dX12_listen_160 ?_
          refine j_lstore6 (pc := 161) dX12_listen_161 (by decide) rfl ?_
          refine j_iinc8 (pc := 163) dX12_listen_163 (by decide) rfl ?_
          refine j_goto (pc := 166) 62 dX12_listen_166 (by decide) ?_
          have hn := ihk (k + 1) J2 (by omega) (by omega) hsc2 hO2 hC2 hN2 (some (jI ((k / 8 : Nat) : Int))) (some (jI ((k % 8 : Nat) : Int))) (some (jI v))
          have hyk : yesT f i s (k + 1) = yesT f i s k + ind (ldP f i (k / 8) (k % 8) ∧ hbP f i (k / 8) (k % 8) s) * (cm f i (k / 8) * onF f (11 - i) (k % 8)) := rfl
          rw [hyk] at hn
          rcases hv with ⟨e1, e2⟩ | ⟨e1, e2⟩
          · first
              | omega
              | (rw [ind_t e2, Int.one_mul] at hn; exact hn)
          · first
              | omega
              | (rw [ind_f e2, Int.zero_mul] at hn; exact hn)
        · refine j_aload_n (pc := 129) dX12_listen_129 rfl ?_
          refine j_getR (pc := 130) f_X12_45 dX12_listen_130 rfl rfl (by decide) rfl ?_
          refine j_bipush (pc := 133) dX12_listen_133 (by decide) ?_
          refine j_iload_n (pc := 135) dX12_listen_135 rfl ?_
          refine j_imul (pc := 136) dX12_listen_136 ?_
          refine j_iload (pc := 137) dX12_listen_137 rfl ?_
          refine j_iadd (pc := 139) dX12_listen_139 ?_
          refine j_lald_b (pc := 140) (8 * i + k / 8) dX12_listen_140 rfl (by decide) (by decide) (by omega) (by omega) ?_
          rw [hC2 i (k / 8) (by omega) (by omega)]
          refine j_aload_n (pc := 141) dX12_listen_141 rfl ?_
          refine j_getR (pc := 142) f_X12_49 dX12_listen_142 rfl rfl (by decide) rfl ?_
          refine j_bipush (pc := 145) dX12_listen_145 (by decide) ?_
          refine j_iload_n (pc := 147) dX12_listen_147 rfl ?_
          refine j_iconst (pc := 148) dX12_listen_148 ?_
          refine j_iadd (pc := 149) dX12_listen_149 ?_
          refine j_imul (pc := 150) dX12_listen_150 ?_
          refine j_iload (pc := 151) dX12_listen_151 rfl ?_
          refine j_iadd (pc := 153) dX12_listen_153 ?_
          refine j_lald_b (pc := 154) (8 * (i + 1) + k % 8) dX12_listen_154 rfl (by decide) (by decide) (by omega) (by omega) ?_
          rw [hN2 (i + 1) (k % 8) (by omega) (by omega), show 12 - (i + 1) = 11 - i by omega]
          refine j_lmul (pc := 155) dX12_listen_155 ?_
          refine j_goto (pc := 156) 160 dX12_listen_156 (by decide) ?_
          refine j_ladd (pc := 160) dX12_listen_160 ?_
          refine j_lstore6 (pc := 161) dX12_listen_161 (by decide) rfl ?_
          refine j_iinc8 (pc := 163) dX12_listen_163 (by decide) rfl ?_
          refine j_goto (pc := 166) 62 dX12_listen_166 (by decide) ?_
          have hn := ihk (k + 1) J2 (by omega) (by omega) hsc2 hO2 hC2 hN2 (some (jI ((k / 8 : Nat) : Int))) (some (jI ((k % 8 : Nat) : Int))) (some (jI v))
          have hyk : yesT f i s (k + 1) = yesT f i s k + ind (ldP f i (k / 8) (k % 8) ∧ hbP f i (k / 8) (k % 8) s) * (cm f i (k / 8) * onF f (11 - i) (k % 8)) := rfl
          rw [hyk] at hn
          rcases hv with ⟨e1, e2⟩ | ⟨e1, e2⟩
          · first
              | omega
              | (rw [ind_t e2, Int.one_mul] at hn; exact hn)
          · first
              | omega
              | (rw [ind_f e2, Int.zero_mul] at hn; exact hn)
      refine j_iload (pc := 62) dX12_listen_62 rfl ?_
      refine j_bipush (pc := 64) dX12_listen_64 (by decide) ?_
      refine j_icmp_ge (pc := 66) 169 dX12_listen_66 (by decide) (by omega) (by omega) (fun h_66 => ?_) (fun h_66 => ?_)
      · obtain rfl : k = 64 := by omega
        rw [yesT_64]
        exact k169 s hs ht J1 hsc1 hO1 hC1 hN1 _ _ _ _
      · refine j_iload (pc := 69) dX12_listen_69 rfl ?_
        refine j_bipush (pc := 71) dX12_listen_71 (by decide) ?_
        refine j_idiv (pc := 73) dX12_listen_73 (by omega) (by omega) ?_
        rw [show (k : Int) / 8 = ((k / 8 : Nat) : Int) by omega]
        refine j_istore9 (pc := 74) dX12_listen_74 (by decide) rfl ?_
        refine j_iload (pc := 76) dX12_listen_76 rfl ?_
        refine j_bipush (pc := 78) dX12_listen_78 (by decide) ?_
        refine j_irem (pc := 80) dX12_listen_80 (by omega) (by omega) ?_
        rw [show (k : Int) % 8 = ((k % 8 : Nat) : Int) by omega]
        refine j_istore10 (pc := 81) dX12_listen_81 (by decide) rfl ?_
        refine j_aload_n (pc := 83) dX12_listen_83 rfl ?_
        refine j_getR (pc := 84) f_X12_52 dX12_listen_84 rfl rfl (by decide) rfl ?_
        refine j_bipush (pc := 87) dX12_listen_87 (by decide) ?_
        refine j_iload_n (pc := 89) dX12_listen_89 rfl ?_
        refine j_imul (pc := 90) dX12_listen_90 ?_
        refine j_iload (pc := 91) dX12_listen_91 rfl ?_
        refine j_iadd (pc := 93) dX12_listen_93 ?_
        have hop := isOp_at hO1 (show i < 12 by omega) (show k < 64 by omega)
        have e61 : J1 106 = f := (hsc1 106 (by omega)).trans hf
        refine j_zald_b (pc := 94) (64 * i + k) dX12_listen_94 rfl (by decide) (by decide) (by omega) (by omega) ?_
        refine j_if_eq (pc := 95) 119 dX12_listen_95 (by decide) (by omega) (fun h_95 => ?_) (fun h_95 => ?_)
        · refine j_iconst (pc := 119) dX12_listen_119 ?_
          first
            | (refine k120 (by omega) _ I2 hsc2 (by rw [hw3 118 (by omega)]; exact hO1) (by rw [hw3 116 (by omega)]; exact hC1) (by rw [hw3 117 (by omega)]; exact hN1) ?_ _
               have hws := hw2 s
               by_cases hbb : w.testBit s = true
               · have hh := hws.mp hbb
                 first | exact Or.inl ⟨rfl, hld, hh⟩ | (exfalso; rw [if_pos hbb] at h_112; omega)
               · first | exact Or.inr ⟨rfl, fun h => hbb (hws.mpr h.2)⟩ | (exfalso; rw [if_neg hbb] at h_112; omega))
            | (refine k120 (by omega) _ J1 hsc1 hO1 hC1 hN1 (Or.inr ⟨rfl, fun h => ?_⟩) _
               rcases hop with ⟨e, -⟩ | ⟨-, e⟩
               · omega
               · exact e h.1)
        · have hld : ldP f i (k / 8) (k % 8) := by rcases hop with ⟨-, h⟩ | ⟨h, -⟩ <;> first | exact h | omega
          refine j_aload_n (pc := 98) dX12_listen_98 rfl ?_
          refine j_iload (pc := 99) dX12_listen_99 rfl ?_
          refine j_iload (pc := 101) dX12_listen_101 rfl ?_
          refine j_iload_n (pc := 103) dX12_listen_103 rfl ?_
          refine j_goI (pc := 104) (j_runV k_X12_249 m_X12_heardBy (c_heardBy X J1 (k / 8) (k % 8) i (by omega) (by omega) (by omega) (by rw [e61]; exact hld.1) (by rw [e61]; exact hok)) dX12_listen_104 rfl (by decide) rfl (by decide) (by decide) rfl rfl (Nat.le_of_ble_eq_true rfl)) (fun r1 I1 h1 => ?_)
          obtain ⟨w, rfl, hw1, hw2, hw3⟩ := h1
          rw [e61] at hw2
          have hsc2 : mSc I I1 := fun z hz => (hw3 z (by omega)).trans (hsc1 z hz)
          refine j_iload (pc := 107) dX12_listen_107 rfl ?_
          refine j_goI (pc := 109) (j_runS k_X12_260 m_X12_has (c_has X I1 w s hw1 (by omega)) dX12_listen_109 (by decide) rfl rfl (Nat.le_of_ble_eq_true rfl)) (fun r2 I2 h2 => ?_)
          obtain ⟨rfl, rfl⟩ := h2
          refine j_if_eq (pc := 112) 119 dX12_listen_112 (by decide) (by omega) (fun h_112 => ?_) (fun h_112 => ?_)
          · refine j_iconst (pc := 119) dX12_listen_119 ?_
            first
              | (refine k120 (by omega) _ I2 hsc2 (by rw [hw3 118 (by omega)]; exact hO1) (by rw [hw3 116 (by omega)]; exact hC1) (by rw [hw3 117 (by omega)]; exact hN1) ?_ _
                 have hws := hw2 s
                 by_cases hbb : w.testBit s = true
                 · have hh := hws.mp hbb
                   first | exact Or.inl ⟨rfl, hld, hh⟩ | (exfalso; rw [if_pos hbb] at h_112; omega)
                 · first | exact Or.inr ⟨rfl, fun h => hbb (hws.mpr h.2)⟩ | (exfalso; rw [if_neg hbb] at h_112; omega))
              | (refine k120 (by omega) _ J1 hsc1 hO1 hC1 hN1 (Or.inr ⟨rfl, fun h => ?_⟩) _
                 rcases hop with ⟨e, -⟩ | ⟨-, e⟩
                 · omega
                 · exact e h.1)
          · refine j_iconst (pc := 115) dX12_listen_115 ?_
            refine j_goto (pc := 116) 120 dX12_listen_116 (by decide) ?_
            first
              | (refine k120 (by omega) _ I2 hsc2 (by rw [hw3 118 (by omega)]; exact hO1) (by rw [hw3 116 (by omega)]; exact hC1) (by rw [hw3 117 (by omega)]; exact hN1) ?_ _
                 have hws := hw2 s
                 by_cases hbb : w.testBit s = true
                 · have hh := hws.mp hbb
                   first | exact Or.inl ⟨rfl, hld, hh⟩ | (exfalso; rw [if_pos hbb] at h_112; omega)
                 · first | exact Or.inr ⟨rfl, fun h => hbb (hws.mpr h.2)⟩ | (exfalso; rw [if_neg hbb] at h_112; omega))
              | (refine k120 (by omega) _ J1 hsc1 hO1 hC1 hN1 (Or.inr ⟨rfl, fun h => ?_⟩) _
                 rcases hop with ⟨e, -⟩ | ⟨-, e⟩
                 · omega
                 · exact e h.1)
    refine j_iload (pc := 40) dX12_listen_40 rfl ?_
    refine j_if_lt (pc := 42) 219 dX12_listen_42 (by decide) (by omega) (fun h_42 => ?_) (fun h_42 => ?_)
    · refine j_iload_n (pc := 219) dX12_listen_219 rfl ?_
      refine j_reti dX12_listen_220 (?_) rfl
      refine q1 i best J0 hmi hi ?_ hsc
      rcases hbl with ⟨e1, e2, e3⟩ | ⟨t, e1, e2, e3, e4, e5, e6, e7⟩
      · refine Or.inl ⟨e1, ?_⟩
        first
          | (left; omega)
          | (right; rw [jt] at h_53; split at h_53 <;> omega)
      · first
          | (refine Or.inr ⟨t, e1, by omega, e5, fun z hz => e6 z (by omega) (by omega), fun z hz => e7 z (by omega) hz⟩)
          | (exfalso; rw [jt] at h_53; rw [if_pos e5] at h_53; omega)
    · refine j_aload_n (pc := 45) dX12_listen_45 rfl ?_
      refine j_getR (pc := 46) f_X12_49 dX12_listen_46 rfl rfl (by decide) rfl ?_
      refine j_iconst (pc := 49) dX12_listen_49 ?_
      refine j_lald_b (pc := 50) (0) dX12_listen_50 rfl (by decide) (by decide) (by omega) (by omega) ?_
      rw [e0]
      refine j_lconst0 (pc := 51) dX12_listen_51 ?_
      refine j_lcmp (pc := 52) dX12_listen_52 ?_
      refine j_if_le (pc := 53) 219 dX12_listen_53 (by decide) (by omega) (fun h_53 => ?_) (fun h_53 => ?_)
      · refine j_iload_n (pc := 219) dX12_listen_219 rfl ?_
        refine j_reti dX12_listen_220 (?_) rfl
        refine q1 i best J0 hmi hi ?_ hsc
        rcases hbl with ⟨e1, e2, e3⟩ | ⟨t, e1, e2, e3, e4, e5, e6, e7⟩
        · refine Or.inl ⟨e1, ?_⟩
          first
            | (left; omega)
            | (right; rw [jt] at h_53; split at h_53 <;> omega)
        · first
            | (refine Or.inr ⟨t, e1, by omega, e5, fun z hz => e6 z (by omega) (by omega), fun z hz => e7 z (by omega) hz⟩)
            | (exfalso; rw [jt] at h_53; rw [if_pos e5] at h_53; omega)
      · refine j_lconst0 (pc := 56) dX12_listen_56 ?_
        refine j_lstore6 (pc := 57) dX12_listen_57 (by decide) rfl ?_
        refine j_iconst (pc := 59) dX12_listen_59 ?_
        refine j_istore8 (pc := 60) dX12_listen_60 (by decide) rfl ?_
        obtain ⟨s, rfl⟩ : ∃ s, s1 = s + 1 := ⟨s1 - 1, by omega⟩
        rw [show (((s + 1 : Nat) : Int) - 1) = (s : Int) by omega]
        exact k62 s rfl (by rw [jt] at h_53; split at h_53 <;> omega) 0 J0 (by omega) hsc hO hC hN _ _ _
  refine j_iload_n (pc := 0) dX12_listen_0 rfl ?_
  refine j_i2l (pc := 1) dX12_listen_1 (by omega) ?_
  refine j_lconst0 (pc := 2) dX12_listen_2 ?_
  refine j_ldc2 (pc := 3) cl_X12_258 dX12_listen_3 ?_
  refine j_goI (pc := 6) (j_runS k_X12_75 m_X12_in (c_in X I m 0 11 hm (by omega) (by omega)) dX12_listen_6 (by decide) rfl rfl (Nat.le_of_ble_eq_true rfl)) (fun r1 I1 h1 => ?_)
  obtain ⟨rfl, rfl⟩ := h1
  refine j_if_ne (pc := 9) 17 dX12_listen_9 (by decide) (by omega) (fun h_9 => ?_) (fun h_9 => ?_)
  · obtain ⟨i, rfl⟩ := Int.eq_ofNat_of_zero_le (show 0 ≤ m by omega)
    refine j_aload_n (pc := 17) dX12_listen_17 rfl ?_
    refine j_goV (pc := 18) (j_runV k_X12_255 m_X12_findHeard (c_findHeard X I1 (by rw [hf]; exact hok)) dX12_listen_18 rfl (by decide) rfl (by decide) (by decide) rfl rfl (Nat.le_of_ble_eq_true rfl)) (fun I2 h2 => ?_)
    obtain ⟨h2, h3, h4, h5⟩ := h2
    rw [hf] at h2 h3 h4
    refine j_iconst (pc := 21) dX12_listen_21 ?_
    refine j_istore_n2 (pc := 22) dX12_listen_22 (by decide) rfl ?_
    refine j_aload_n (pc := 23) dX12_listen_23 rfl ?_
    refine j_getR (pc := 24) f_X12_49 dX12_listen_24 rfl rfl (by decide) rfl ?_
    refine j_iconst (pc := 27) dX12_listen_27 ?_
    refine j_lald_b (pc := 28) (0) dX12_listen_28 rfl (by decide) (by decide) (by omega) (by omega) ?_
    rw [show I2 117 0 = onF f 12 0 from h4 0 0 (by omega) (by omega)]
    refine j_lstore_n3 (pc := 29) dX12_listen_29 (by decide) rfl ?_
    refine j_aload_n (pc := 30) dX12_listen_30 rfl ?_
    refine j_getR (pc := 31) f_X12_7 dX12_listen_31 rfl rfl (by decide) rfl ?_
    refine j_iconst (pc := 34) dX12_listen_34 ?_
    refine j_iald_b (pc := 35) (5) dX12_listen_35 rfl (by decide) (by decide) (by omega) (by omega) ?_
    rw [show I2 106 5 = (n5 : Int) by rw [hdK_sc h5 106 (by omega), hf, hn5]]
    refine j_iconst (pc := 36) dX12_listen_36 ?_
    refine j_isub (pc := 37) dX12_listen_37 ?_
    refine j_istore5 (pc := 38) dX12_listen_38 (by decide) rfl ?_
    exact key i rfl (by omega) n5 (-1) (onF f 12 0) I2 (by omega) (hdK_sc h5) h2 h3 h4 (Or.inl ⟨rfl, rfl, rfl⟩) _ _ _ _ _ _
  · refine j_aload_n (pc := 12) dX12_listen_12 rfl ?_
    refine j_goI (pc := 13) (j_runV k_X12_95 m_X12_bad (c_bad X I1) dX12_listen_13 rfl (by decide) rfl (by decide) (by decide) rfl rfl (Nat.le_of_ble_eq_true rfl)) (fun r9 I9 h9 => ?_)
    obtain ⟨rfl, rfl⟩ := h9
    exact j_reti dX12_listen_16 (q0 (by omega)) rfl
