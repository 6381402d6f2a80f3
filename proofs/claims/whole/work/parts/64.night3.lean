/-! ===== the class: what a night tells ===== -/
/-- of whom it is told that they heard a minute's step, or did not -/
def tdP (f : Nat → Int) (m g : Int) (k : Nat) (s : Nat) : Prop := ∃ i : Nat, i < k ∧ f (54 + 3 * i) = m ∧ f (55 + 3 * i) = g ∧ f (53 + 3 * i) = (s : Int)
theorem okSt_h3 {f : Nat → Int} (h : okSt f) {i : Nat} (hi : i < 6) : (0 ≤ f (53 + 3 * i) ∧ f (53 + 3 * i) ≤ 4) ∧ (0 ≤ f (54 + 3 * i) ∧ f (54 + 3 * i) ≤ 12) ∧ (0 ≤ f (55 + 3 * i) ∧ f (55 + 3 * i) ≤ 1) := by
  have h1 := h (53 + 3 * i) (by omega)
  have h2 := h (54 + 3 * i) (by omega)
  have h3 := h (55 + 3 * i) (by omega)
  unfold stLo stHi at h1 h2 h3
  refine ⟨by omega, by omega, by omega⟩
theorem c_told (X : jX) (I : jMI) (f ah : Nat → Int) (u : Nat) (m g : Int) (hN : nR f ah u I 1) (hok : okSt f) (hm : 0 ≤ m ∧ m ≤ 59) (hg : 0 ≤ g ∧ g ≤ 1) : C_X4_toldOf X [jR 1, jI m, jI g] I (fun v I' => ∃ (w H : Nat), v = w ∧ w < 32 ∧ f 52 = H ∧ (∀ s, w.testBit s = true ↔ tdP f m g H s) ∧ I' = I) := by
  refine CG.of (by decide) [some (jR 1), some (jI m), some (jI g), none, none] rfl (Nat.le_of_ble_eq_true rfl) ?_
  obtain ⟨n1, n2, n3, n4, n5, n6, n7, n8⟩ := hN
  obtain ⟨H, hH, hH6⟩ := okSt_52 hok
  have key : ∀ (k w : Nat), k ≤ H → w < 2 ^ 5 → (∀ s, w.testBit s = true ↔ tdP f m g k s) → S_X4_toldOf X 5 [some (jR 1), some (jI m), some (jI g), some (jI w), some (jI k)] [] I (fun v I' => ∃ (w H : Nat), v = w ∧ w < 32 ∧ f 52 = H ∧ (∀ s, w.testBit s = true ↔ tdP f m g H s) ∧ I' = I) := by
    refine mu2 (fun k _ => 6 - k) _ (fun k w ih hk hw hb => ?_)
    refine j_iload (pc := 5) dX4_toldOf_5 rfl ?_
    refine j_aload_n (pc := 7) dX4_toldOf_7 rfl ?_
    refine j_getI (pc := 8) f_X4_53 dX4_toldOf_8 rfl rfl (by decide) ?_
    rw [show I 1 12 = (H : Int) from n5.trans hH]
    refine j_icmp_ge (pc := 11) 54 dX4_toldOf_11 (by decide) (by omega) (by omega) (fun h_11 => ?_) (fun h_11 => ?_)
    · refine j_iload_n (pc := 54) dX4_toldOf_54 rfl ?_
      refine j_reti dX4_toldOf_55 (?_) rfl
      obtain rfl : k = H := by omega
      exact ⟨w, k, rfl, by omega, hH, hb, rfl⟩
    · obtain ⟨e1, e2, e3⟩ := n8 k (by omega)
      obtain ⟨r1, r2, r3⟩ := okSt_h3 hok (show k < 6 by omega)
      obtain ⟨z, hz⟩ := Int.eq_ofNat_of_zero_le r1.1
      refine j_aload_n (pc := 14) dX4_toldOf_14 rfl ?_
      refine j_getR (pc := 15) f_X4_37 dX4_toldOf_15 rfl rfl (by decide) rfl ?_
      refine j_iload (pc := 18) dX4_toldOf_18 rfl ?_
      refine j_iald_b (pc := 20) (k) dX4_toldOf_20 rfl (by decide) (by decide) (by omega) (by omega) ?_
      rw [show I 24 k = f (54 + 3 * k) from e2]
      refine j_iload_n (pc := 21) dX4_toldOf_21 rfl ?_
      refine j_icmp_ne (pc := 22) 48 dX4_toldOf_22 (by decide) (by omega) (by omega) (fun h_22 => ?_) (fun h_22 => ?_)
      · refine j_iinc4 (pc := 48) dX4_toldOf_48 (by decide) rfl ?_
        refine j_goto (pc := 51) 5 dX4_toldOf_51 (by decide) ?_
        first
          | (refine ih (k + 1) (w ||| 2 ^ z) (by omega) (by omega) (lt_or_pow hw (by omega)) (bt_set hb (fun s => ?_))
             constructor
             · rintro ⟨i, h1, h2, h3, h4⟩
               by_cases e : i = k
               · subst e; right; omega
               · exact Or.inl ⟨i, by omega, h2, h3, h4⟩
             · rintro (⟨i, h1, h2, h3, h4⟩ | rfl)
               · exact ⟨i, by omega, h2, h3, h4⟩
               · exact ⟨k, by omega, by omega, by omega, hz⟩)
          | (refine ih (k + 1) w (by omega) (by omega) hw (fun s => ?_)
             rw [hb s]
             constructor
             · rintro ⟨i, h1, h2, h3, h4⟩
               exact ⟨i, by omega, h2, h3, h4⟩
             · rintro ⟨i, h1, h2, h3, h4⟩
               by_cases e : i = k
               · subst e; omega
               · exact ⟨i, by omega, h2, h3, h4⟩)
      · refine j_aload_n (pc := 25) dX4_toldOf_25 rfl ?_
        refine j_getR (pc := 26) f_X4_40 dX4_toldOf_26 rfl rfl (by decide) rfl ?_
        refine j_iload (pc := 29) dX4_toldOf_29 rfl ?_
        refine j_iald_b (pc := 31) (k) dX4_toldOf_31 rfl (by decide) (by decide) (by omega) (by omega) ?_
        rw [show I 25 k = f (55 + 3 * k) from e3]
        refine j_iload_n (pc := 32) dX4_toldOf_32 rfl ?_
        refine j_icmp_ne (pc := 33) 48 dX4_toldOf_33 (by decide) (by omega) (by omega) (fun h_33 => ?_) (fun h_33 => ?_)
        · refine j_iinc4 (pc := 48) dX4_toldOf_48 (by decide) rfl ?_
          refine j_goto (pc := 51) 5 dX4_toldOf_51 (by decide) ?_
          first
            | (refine ih (k + 1) (w ||| 2 ^ z) (by omega) (by omega) (lt_or_pow hw (by omega)) (bt_set hb (fun s => ?_))
               constructor
               · rintro ⟨i, h1, h2, h3, h4⟩
                 by_cases e : i = k
                 · subst e; right; omega
                 · exact Or.inl ⟨i, by omega, h2, h3, h4⟩
               · rintro (⟨i, h1, h2, h3, h4⟩ | rfl)
                 · exact ⟨i, by omega, h2, h3, h4⟩
                 · exact ⟨k, by omega, by omega, by omega, hz⟩)
            | (refine ih (k + 1) w (by omega) (by omega) hw (fun s => ?_)
               rw [hb s]
               constructor
               · rintro ⟨i, h1, h2, h3, h4⟩
                 exact ⟨i, by omega, h2, h3, h4⟩
               · rintro ⟨i, h1, h2, h3, h4⟩
                 by_cases e : i = k
                 · subst e; omega
                 · exact ⟨i, by omega, h2, h3, h4⟩)
        · refine j_iload_n (pc := 36) dX4_toldOf_36 rfl ?_
          refine j_iconst (pc := 37) dX4_toldOf_37 ?_
          refine j_aload_n (pc := 38) dX4_toldOf_38 rfl ?_
          refine j_getR (pc := 39) f_X4_34 dX4_toldOf_39 rfl rfl (by decide) rfl ?_
          refine j_iload (pc := 42) dX4_toldOf_42 rfl ?_
          refine j_iald_b (pc := 44) (k) dX4_toldOf_44 rfl (by decide) (by decide) (by omega) (by omega) ?_
          rw [show I 23 k = (z : Int) from e1.trans hz]
          refine j_ishl (pc := 45) dX4_toldOf_45 ?_
          rw [jshl_n (by omega)]
          refine j_ior (pc := 46) dX4_toldOf_46 ?_
          rw [jbor_n (by omega) (by have := Nat.pow_lt_pow_right (a := 2) (by omega) (show z < 5 by omega); omega)]
          refine j_istore_n3 (pc := 47) dX4_toldOf_47 (by decide) rfl ?_
          refine j_iinc4 (pc := 48) dX4_toldOf_48 (by decide) rfl ?_
          refine j_goto (pc := 51) 5 dX4_toldOf_51 (by decide) ?_
          first
            | (refine ih (k + 1) (w ||| 2 ^ z) (by omega) (by omega) (lt_or_pow hw (by omega)) (bt_set hb (fun s => ?_))
               constructor
               · rintro ⟨i, h1, h2, h3, h4⟩
                 by_cases e : i = k
                 · subst e; right; omega
                 · exact Or.inl ⟨i, by omega, h2, h3, h4⟩
               · rintro (⟨i, h1, h2, h3, h4⟩ | rfl)
                 · exact ⟨i, by omega, h2, h3, h4⟩
                 · exact ⟨k, by omega, by omega, by omega, hz⟩)
            | (refine ih (k + 1) w (by omega) (by omega) hw (fun s => ?_)
               rw [hb s]
               constructor
               · rintro ⟨i, h1, h2, h3, h4⟩
                 exact ⟨i, by omega, h2, h3, h4⟩
               · rintro ⟨i, h1, h2, h3, h4⟩
                 by_cases e : i = k
                 · subst e; omega
                 · exact ⟨i, by omega, h2, h3, h4⟩)
  refine j_iconst (pc := 0) dX4_toldOf_0 ?_
  refine j_istore_n3 (pc := 1) dX4_toldOf_1 (by decide) rfl ?_
  refine j_iconst (pc := 2) dX4_toldOf_2 ?_
  refine j_istore4 (pc := 3) dX4_toldOf_3 (by decide) rfl ?_
  refine key 0 0 (by omega) (by omega) (fun s => ?_)
  constructor
  · intro h; simp at h
  · rintro ⟨i, h1, -⟩; omega
set_option maxHeartbeats 4000000 in
theorem c_after (X : jX) (I : jMI) (f ah : Nat → Int) (u k : Nat) (x : Int) (hN : nR f ah u I 1) (hok : okSt f) (hx : 0 ≤ x ∧ x ≤ 999999) (hk : k ≤ 59) : C_X4_awakeAfter X [jR 1, jI x, jI k] I (fun v I' => v = pop5 ((nRun f x k).1 1).toNat ∧ ∀ z, z ≠ 19 → I' z = I z) := by
  refine CG.of (by decide) [some (jR 1), some (jI x), some (jI k), none, none, none, none, none, none, none, none] rfl (Nat.le_of_ble_eq_true rfl) ?_
  obtain ⟨n1, n2, n3, n4, n5, n6, n7, n8⟩ := hN
  have k32 : ∀ (i : Nat) (g : Nat → Int), i ≤ k → (0 ≤ (nRun f x i).2 ∧ (nRun f x i).2 < 2147483648) → okSt (nRun f x i).1 → (∀ z, 5 ≤ z → (nRun f x i).1 z = f z) → (∀ p, p < 3 → g p = (nRun f x i).1 (2 + p)) → ∀ x8 x9 x10, S_X4_awakeAfter X 32 [some (jR 1), some (jI x), some (jI k), some (jL (nRun f x i).2), none, some (jI ((nRun f x i).1 1)), some (jI ((nRun f x i).1 0)), some (jI i), x8, x9, x10] [] (jSf I 19 g) (fun v I' => v = pop5 ((nRun f x k).1 1).toNat ∧ ∀ z, z ≠ 19 → I' z = I z) := by
    refine mu2 (fun i _ => 60 - i) _ (fun i g ih hi hr hs h5 hg x8 x9 x10 => ?_)
    have k41 : i < k → ∀ (p : Nat) (g : Nat → Int), p ≤ 3 → (0 ≤ (nPs f (nRun f x i) p).2 ∧ (nPs f (nRun f x i) p).2 < 2147483648) → okSt (nPs f (nRun f x i) p).1 → (∀ z, 5 ≤ z → (nPs f (nRun f x i) p).1 z = f z) → (∀ q, q < 3 → g q = (nPs f (nRun f x i) p).1 (2 + q)) → (nPs f (nRun f x i) p).1 0 = (nRun f x i).1 0 → ∀ x9 x10, S_X4_awakeAfter X 41 [some (jR 1), some (jI x), some (jI k), some (jL (nPs f (nRun f x i) p).2), none, some (jI ((nPs f (nRun f x i) p).1 1)), some (jI ((nRun f x i).1 0)), some (jI i), some (jI p), x9, x10] [] (jSf I 19 g) (fun v I' => v = pop5 ((nRun f x k).1 1).toNat ∧ ∀ z, z ≠ 19 → I' z = I z) := by
      intro hik
      refine mu2 (fun p _ => 3 - p) _ (fun p g ihp hp hr hs h5 hg h0e x9 x10 => ?_)
      have hsucc : nPs f (nRun f x i) (p + 1) = nPu f p (nPs f (nRun f x i) p) := rfl
      have hfin : nRun f x (i + 1) = (jU (nPs f (nRun f x i) 3).1 0 (min59 ((nPs f (nRun f x i) 3).1 0 + 1)), (nPs f (nRun f x i) 3).2) := rfl
      generalize hs' : nPs f (nRun f x i) p = s at *
      obtain ⟨h, y⟩ := s
      dsimp only at hr hs h5 hg h0e ⊢
      rw [← h0e]
      have hn1 := nx_rng y
      have hn2 := nr_lt (nx y)
      have hn3 := nr_eq (nx y)
      have hn4 : (y * 1103515245 + 12345) % 2147483648 = nx y := rfl
      have h0 := okSt_0 hs
      have hcf := cr_congr h5
      obtain ⟨aw, haw, haw32⟩ := okSt_1 hs
      refine j_iload (pc := 41) dX4_awakeAfter_41 rfl ?_
      refine j_iconst (pc := 43) dX4_awakeAfter_43 ?_
      refine j_icmp_ge (pc := 44) 133 dX4_awakeAfter_44 (by decide) (by omega) (by omega) (fun h_44 => ?_) (fun h_44 => ?_)
      · refine j_iload (pc := 133) dX4_awakeAfter_133 rfl ?_
        refine j_iconst (pc := 135) dX4_awakeAfter_135 ?_
        refine j_iadd (pc := 136) dX4_awakeAfter_136 ?_
        refine j_bipush (pc := 137) dX4_awakeAfter_137 (by decide) ?_
        refine j_goI (pc := 139) (j_runS k_X4_73 m_J9_min_7cf53 (c_min X (jSf I 19 g) (h 0 + 1) 59 (by omega) (by omega)) dX4_awakeAfter_139 (by decide) rfl rfl (Nat.le_of_ble_eq_true rfl)) (fun r3 I3 h3 => ?_)
        obtain ⟨h3, rfl⟩ := h3
        refine j_istore6 (pc := 142) dX4_awakeAfter_142 (by decide) rfl ?_
        refine j_iinc7 (pc := 144) dX4_awakeAfter_144 (by decide) rfl ?_
        refine j_goto (pc := 147) 32 dX4_awakeAfter_147 (by decide) ?_
        obtain rfl : p = 3 := by omega
        have hmn : r3 = min59 (h 0 + 1) := by rw [h3]; unfold min59; split <;> split <;> omega
        rw [hs'] at hfin
        have hy := ih (i + 1) g (by omega) (by omega)
        rw [hfin] at hy
        have hy2 := hy hr (okSt_mi hs (show 0 ≤ min59 (h 0 + 1) ∧ min59 (h 0 + 1) ≤ 59 by unfold min59; split <;> omega)) (fun z hz => by show jU h 0 _ z = f z; rw [jU_n (by omega)]; exact h5 z hz) (fun q hq => by show g q = jU h 0 _ (2 + q); rw [jU_n (by omega)]; exact hg q hq) (some (jI ((3 : Nat) : Int))) x9 x10
        dsimp only at hy2
        rw [jU_s, jU_n (by omega), ← hmn] at hy2
        exact hy2
      · refine j_lload_n (pc := 47) dX4_awakeAfter_47 rfl ?_
        refine j_ldc2 (pc := 48) cl_X4_82 dX4_awakeAfter_48 ?_
        refine j_lmul (pc := 51) dX4_awakeAfter_51 ?_
        refine j_ldc2 (pc := 52) cl_X4_84 dX4_awakeAfter_52 ?_
        refine j_ladd (pc := 55) dX4_awakeAfter_55 ?_
        refine j_ldc2 (pc := 56) cl_X4_86 dX4_awakeAfter_56 ?_
        refine j_lrem (pc := 59) dX4_awakeAfter_59 (by omega) (by omega) ?_
        rw [hn4]
        refine j_lstore_n3 (pc := 60) dX4_awakeAfter_60 (by decide) rfl ?_
        refine j_lload_n (pc := 61) dX4_awakeAfter_61 rfl ?_
        refine j_ldc2 (pc := 62) cl_X4_88 dX4_awakeAfter_62 ?_
        refine j_ldiv (pc := 65) dX4_awakeAfter_65 (by omega) (by omega) ?_
        refine j_ldc2 (pc := 66) cl_X4_90 dX4_awakeAfter_66 ?_
        refine j_lrem (pc := 69) dX4_awakeAfter_69 (by omega) (by omega) ?_
        rw [hn3]
        refine j_l2i (pc := 70) dX4_awakeAfter_70 ?_
        refine j_istore9 (pc := 71) dX4_awakeAfter_71 (by decide) rfl ?_
        obtain ⟨a, ha, ha8⟩ := okSt_2 hs (show p < 3 by omega)
        have hcr := cr_rng hs ha8 hn2
        have hpu : nPu f p (h, y) = if 0 ≤ cr f (h (2 + p)).toNat (nr (nx y)) then (mGo h p (nr (nx y)) (wF f (cr f (h (2 + p)).toNat (nr (nx y))) (nr (nx y)) (h 0)) (h 1).toNat, nx y) else (h, nx y) := rfl
        rw [ha, haw, Int.toNat_natCast, Int.toNat_natCast] at hpu
        rw [hcf] at hcr
        refine j_aload_n (pc := 73) dX4_awakeAfter_73 rfl ?_
        refine j_getR (pc := 74) f_X4_12 dX4_awakeAfter_74 rfl rfl (by decide) rfl ?_
        refine j_getR (pc := 77) f_X4_92 dX4_awakeAfter_77 rfl rfl (by decide) rfl ?_
        refine j_aload_n (pc := 80) dX4_awakeAfter_80 rfl ?_
        refine j_getR (pc := 81) f_X4_22 dX4_awakeAfter_81 rfl rfl (by decide) rfl ?_
        refine j_iload (pc := 84) dX4_awakeAfter_84 rfl ?_
        refine j_iald_a (pc := 86) (p) dX4_awakeAfter_86 rfl (by decide) (by decide) (by omega) (by omega) ?_
        rw [show g p = (a : Int) from (hg p (by omega)).trans ha]
        refine j_iload (pc := 87) dX4_awakeAfter_87 rfl ?_
        refine j_goI (pc := 89) (j_runSN k_X4_95 m_X11_pair (c_pair X (jSf I 19 g) a (nr (nx y))) dX4_awakeAfter_89 (by decide) rfl rfl (Nat.le_of_ble_eq_true rfl)) (fun r1 I1 h1 => ?_)
        obtain ⟨rfl, rfl⟩ := h1
        refine j_iald_c (pc := 92) (8 * a + nr (nx y)) dX4_awakeAfter_92 rfl (by decide) (by decide) (by omega) (by omega) (by decide) ?_
        rw [show I 10 (8 * a + nr (nx y)) = cr f a (nr (nx y)) from n1.2.2.1 a (nr (nx y)) ha8 hn2]
        refine j_istore10 (pc := 93) dX4_awakeAfter_93 (by decide) rfl ?_
        refine j_iload (pc := 95) dX4_awakeAfter_95 rfl ?_
        refine j_if_lt (pc := 97) 127 dX4_awakeAfter_97 (by decide) (by omega) (fun h_97 => ?_) (fun h_97 => ?_)
        · refine j_iinc8 (pc := 127) dX4_awakeAfter_127 (by decide) rfl ?_
          refine j_goto (pc := 130) 41 dX4_awakeAfter_130 (by decide) ?_
          first
            | (rw [if_pos (by omega), wF_eq hw] at hpu
               rw [hpu] at hsucc
               have hy := ihp (p + 1) (jU g p (nr (nx y) : Nat)) (by omega) (by omega)
               rw [hsucc] at hy
               have e1 : mGo h p (nr (nx y)) w aw 1 = ((aw ||| w : Nat) : Int) := by unfold mGo; rw [jU_s]
               have e0 : mGo h p (nr (nx y)) w aw 0 = h 0 := by unfold mGo; rw [jU_n (by omega), jU_n (by omega)]
               have hy2 := hy hn1 (okSt_go hs (by omega) hn2 hw.1 haw32) (fun z hz => by show mGo h p (nr (nx y)) w aw z = f z; unfold mGo; rw [jU_n (by omega), jU_n (by omega)]; exact h5 z hz) (fun q hq => by
                 show jU g p _ q = mGo h p (nr (nx y)) w aw (2 + q)
                 unfold mGo
                 rw [jU_n (show 2 + q ≠ 1 by omega)]
                 by_cases e : q = p
                 · subst e; rw [jU_s, jU_s]
                 · rw [jU_n e, jU_n (by omega)]; exact hg q hq) (by show mGo h p (nr (nx y)) w aw 0 = _; rw [e0]; exact h0e) (some (jI (nr (nx y) : Nat))) (some (jI (cr f a (nr (nx y)))))
               dsimp only at hy2
               rw [e1, ← h0e] at hy2
               exact hy2)
            | (rw [if_neg (by omega)] at hpu
               rw [hpu] at hsucc
               have hy := ihp (p + 1) g (by omega) (by omega)
               rw [hsucc] at hy
               have hy2 := hy hn1 hs h5 hg h0e (some (jI (nr (nx y) : Nat))) (some (jI (cr f a (nr (nx y)))))
               dsimp only at hy2
               rw [← h0e] at hy2
               exact hy2)
        · refine j_iload (pc := 100) dX4_awakeAfter_100 rfl ?_
          refine j_aload_n (pc := 102) dX4_awakeAfter_102 rfl ?_
          refine j_getR (pc := 103) f_X4_12 dX4_awakeAfter_103 rfl rfl (by decide) rfl ?_
          refine j_iload (pc := 106) dX4_awakeAfter_106 rfl ?_
          refine j_iload (pc := 108) dX4_awakeAfter_108 rfl ?_
          refine j_iload (pc := 110) dX4_awakeAfter_110 rfl ?_
          refine j_goI (pc := 112) (j_runV k_X4_69 m_X2_wakers (c_wakers X (jSf I 19 g) f (cr f a (nr (nx y))) (nr (nx y)) (h 0) (hR_fr n1 (fun z hz => jSf_n (by omega))) hok (by omega) hn2 h0) dX4_awakeAfter_112 rfl (by decide) rfl (by decide) (by decide) rfl rfl (Nat.le_of_ble_eq_true rfl)) (fun r2 I2 h2 => ?_)
          obtain ⟨w, rfl, hw, rfl⟩ := h2
          rw [haw]
          refine j_ior (pc := 115) dX4_awakeAfter_115 ?_
          rw [jbor_n (by omega) (by have := hw.1; omega)]
          refine j_istore5 (pc := 116) dX4_awakeAfter_116 (by decide) rfl ?_
          refine j_aload_n (pc := 118) dX4_awakeAfter_118 rfl ?_
          refine j_getR (pc := 119) f_X4_22 dX4_awakeAfter_119 rfl rfl (by decide) rfl ?_
          refine j_iload (pc := 122) dX4_awakeAfter_122 rfl ?_
          refine j_iload (pc := 124) dX4_awakeAfter_124 rfl ?_
          refine j_iast_a (pc := 126) (p) dX4_awakeAfter_126 rfl (by decide) (by decide) (by omega) (by omega) ?_
          refine j_iinc8 (pc := 127) dX4_awakeAfter_127 (by decide) rfl ?_
          refine j_goto (pc := 130) 41 dX4_awakeAfter_130 (by decide) ?_
          first
            | (rw [if_pos (by omega), wF_eq hw] at hpu
               rw [hpu] at hsucc
               have hy := ihp (p + 1) (jU g p (nr (nx y) : Nat)) (by omega) (by omega)
               rw [hsucc] at hy
               have e1 : mGo h p (nr (nx y)) w aw 1 = ((aw ||| w : Nat) : Int) := by unfold mGo; rw [jU_s]
               have e0 : mGo h p (nr (nx y)) w aw 0 = h 0 := by unfold mGo; rw [jU_n (by omega), jU_n (by omega)]
               have hy2 := hy hn1 (okSt_go hs (by omega) hn2 hw.1 haw32) (fun z hz => by show mGo h p (nr (nx y)) w aw z = f z; unfold mGo; rw [jU_n (by omega), jU_n (by omega)]; exact h5 z hz) (fun q hq => by
                 show jU g p _ q = mGo h p (nr (nx y)) w aw (2 + q)
                 unfold mGo
                 rw [jU_n (show 2 + q ≠ 1 by omega)]
                 by_cases e : q = p
                 · subst e; rw [jU_s, jU_s]
                 · rw [jU_n e, jU_n (by omega)]; exact hg q hq) (by show mGo h p (nr (nx y)) w aw 0 = _; rw [e0]; exact h0e) (some (jI (nr (nx y) : Nat))) (some (jI (cr f a (nr (nx y)))))
               dsimp only at hy2
               rw [e1, ← h0e] at hy2
               exact hy2)
            | (rw [if_neg (by omega)] at hpu
               rw [hpu] at hsucc
               have hy := ihp (p + 1) g (by omega) (by omega)
               rw [hsucc] at hy
               have hy2 := hy hn1 hs h5 hg h0e (some (jI (nr (nx y) : Nat))) (some (jI (cr f a (nr (nx y)))))
               dsimp only at hy2
               rw [← h0e] at hy2
               exact hy2)
    obtain ⟨aw, haw, haw32⟩ := okSt_1 hs
    refine j_iload (pc := 32) dX4_awakeAfter_32 rfl ?_
    refine j_iload_n (pc := 34) dX4_awakeAfter_34 rfl ?_
    refine j_icmp_ge (pc := 35) 150 dX4_awakeAfter_35 (by decide) (by omega) (by omega) (fun h_35 => ?_) (fun h_35 => ?_)
    · refine j_iload (pc := 150) dX4_awakeAfter_150 rfl ?_
      rw [haw]
      refine j_goI (pc := 152) (j_runS k_X4_98 m_J6_bitCount_0f7a4 (c_bitCount X (jSf I 19 g) aw haw32) dX4_awakeAfter_152 (by decide) rfl rfl (Nat.le_of_ble_eq_true rfl)) (fun r5 I5 h5' => ?_)
      obtain ⟨rfl, rfl⟩ := h5'
      refine j_reti dX4_awakeAfter_155 (?_) rfl
      obtain rfl : i = k := by omega
      rw [haw, Int.toNat_natCast]
      exact ⟨rfl, fun z hz => jSf_n hz⟩
    · refine j_iconst (pc := 38) dX4_awakeAfter_38 ?_
      refine j_istore8 (pc := 39) dX4_awakeAfter_39 (by decide) rfl ?_
      exact k41 (by omega) 0 g (by omega) hr hs h5 hg rfl _ _
  refine j_aload_n (pc := 0) dX4_awakeAfter_0 rfl ?_
  refine j_getR (pc := 1) f_X4_18 dX4_awakeAfter_1 rfl rfl (by decide) rfl ?_
  refine j_iconst (pc := 4) dX4_awakeAfter_4 ?_
  refine j_aload_n (pc := 5) dX4_awakeAfter_5 rfl ?_
  refine j_getR (pc := 6) f_X4_22 dX4_awakeAfter_6 rfl rfl (by decide) rfl ?_
  refine j_iconst (pc := 9) dX4_awakeAfter_9 ?_
  refine j_iconst (pc := 10) dX4_awakeAfter_10 ?_
  refine j_acp (pc := 11) 3 k_acp_X4 dX4_awakeAfter_11 rfl rfl (by decide) (by decide) (by decide) (by decide) (by decide) (by decide) ?_
  refine j_iload_n (pc := 14) dX4_awakeAfter_14 rfl ?_
  refine j_i2l (pc := 15) dX4_awakeAfter_15 (by omega) ?_
  refine j_lstore_n3 (pc := 16) dX4_awakeAfter_16 (by decide) rfl ?_
  refine j_aload_n (pc := 17) dX4_awakeAfter_17 rfl ?_
  refine j_getI_c (pc := 18) f_X4_47 dX4_awakeAfter_18 rfl rfl (by decide) (by decide) ?_
  rw [show I 1 10 = f 1 from n3]
  refine j_istore5 (pc := 21) dX4_awakeAfter_21 (by decide) rfl ?_
  refine j_aload_n (pc := 23) dX4_awakeAfter_23 rfl ?_
  refine j_getI_c (pc := 24) f_X4_43 dX4_awakeAfter_24 rfl rfl (by decide) (by decide) ?_
  rw [show I 1 9 = f 0 from n2]
  refine j_istore6 (pc := 27) dX4_awakeAfter_27 (by decide) rfl ?_
  refine j_iconst (pc := 29) dX4_awakeAfter_29 ?_
  refine j_istore7 (pc := 30) dX4_awakeAfter_30 (by decide) rfl ?_
  exact k32 0 _ (by omega) (show 0 ≤ x ∧ x < 2147483648 by omega) hok (fun z _ => rfl) (fun p hp => by rw [acp_lt hp]; exact n6 p hp) _ _ _
theorem c_foldSl (X : jX) (I : jMI) (f ah : Nat → Int) (u : Nat) (h : Int) (hN : nR f ah u I 1) (hok : okSt f) : C_X4_foldSleepersAndPupils X [jR 1, jL h] I (fun r I' => r = fo (fun j => f (2 + j)) (foS f h (f 5).toNat) 3 ∧ I' = I) := by
  refine CG.of (by decide) [some (jR 1), some (jL h), none, none, none, none] rfl (Nat.le_of_ble_eq_true rfl) ?_
  obtain ⟨n1, n2, n3, n4, n5, n6, n7, n8⟩ := hN
  obtain ⟨S, hS, hS5⟩ := okSt_5 hok
  obtain ⟨aw, haw, haw32⟩ := okSt_1 hok
  rw [hS, Int.toNat_natCast]
  have k97 : ∀ (k : Nat), k ≤ 3 → S_X4_foldSleepersAndPupils X 97 [some (jR 1), some (jL h), none, some (jL (fo (fun j => f (2 + j)) (foS f h S) k)), none, some (jI k)] [] I (fun r I' => r = fo (fun j => f (2 + j)) (foS f h S) 3 ∧ I' = I) := by
    refine mu1 (fun k => 3 - k) _ (fun k ih hk => ?_)
    refine j_iload (pc := 97) dX4_foldSleepersAndPupils_97 rfl ?_
    refine j_iconst (pc := 99) dX4_foldSleepersAndPupils_99 ?_
    refine j_icmp_ge (pc := 100) 124 dX4_foldSleepersAndPupils_100 (by decide) (by omega) (by omega) (fun h_100 => ?_) (fun h_100 => ?_)
    · refine j_lload_n (pc := 124) dX4_foldSleepersAndPupils_124 rfl ?_
      refine j_retl dX4_foldSleepersAndPupils_125 (?_) rfl
      obtain rfl : k = 3 := by omega
      exact ⟨rfl, rfl⟩
    · refine j_ldc2 (pc := 103) cl_X4_107 dX4_foldSleepersAndPupils_103 ?_
      refine j_lload_n (pc := 106) dX4_foldSleepersAndPupils_106 rfl ?_
      refine j_lmul (pc := 107) dX4_foldSleepersAndPupils_107 ?_
      refine j_aload_n (pc := 108) dX4_foldSleepersAndPupils_108 rfl ?_
      refine j_getR (pc := 109) f_X4_18 dX4_foldSleepersAndPupils_109 rfl rfl (by decide) rfl ?_
      refine j_iload (pc := 112) dX4_foldSleepersAndPupils_112 rfl ?_
      refine j_iald_b (pc := 114) (k) dX4_foldSleepersAndPupils_114 rfl (by decide) (by decide) (by omega) (by omega) ?_
      rw [show I 18 k = f (2 + k) from n6 k (by omega)]
      have hr := okSt_any hok (k := 2 + k) (by omega)
      refine j_i2l (pc := 115) dX4_foldSleepersAndPupils_115 (by omega) ?_
      refine j_ladd (pc := 116) dX4_foldSleepersAndPupils_116 ?_
      refine j_lstore_n3 (pc := 117) dX4_foldSleepersAndPupils_117 (by decide) rfl ?_
      refine j_iinc5 (pc := 118) dX4_foldSleepersAndPupils_118 (by decide) rfl ?_
      refine j_goto (pc := 121) 97 dX4_foldSleepersAndPupils_121 (by decide) ?_
      exact ih (k + 1) (by omega) (by omega)
  have k5 : ∀ (k : Nat), k ≤ S → S_X4_foldSleepersAndPupils X 5 [some (jR 1), some (jL h), none, some (jL (foS f h k)), none, some (jI k)] [] I (fun r I' => r = fo (fun j => f (2 + j)) (foS f h S) 3 ∧ I' = I) := by
    refine mu1 (fun k => 5 - k) _ (fun k ih hk => ?_)
    have e : foS f h (k + 1) = 31 * (31 * (31 * (31 * foS f h k + f (6 + k)) + f (11 + k)) + f (16 + k)) + (if (f 1).toNat.testBit k then 1 else 0) := rfl
    rw [haw, Int.toNat_natCast] at e
    refine j_iload (pc := 5) dX4_foldSleepersAndPupils_5 rfl ?_
    refine j_aload_n (pc := 7) dX4_foldSleepersAndPupils_7 rfl ?_
    refine j_getR (pc := 8) f_X4_12 dX4_foldSleepersAndPupils_8 rfl rfl (by decide) rfl ?_
    refine j_getI (pc := 11) f_X4_104 dX4_foldSleepersAndPupils_11 rfl rfl (by decide) ?_
    rw [show I 2 9 = (S : Int) from n1.1.trans hS]
    refine j_icmp_ge (pc := 14) 94 dX4_foldSleepersAndPupils_14 (by decide) (by omega) (by omega) (fun h_14 => ?_) (fun h_14 => ?_)
    · refine j_iconst (pc := 94) dX4_foldSleepersAndPupils_94 ?_
      refine j_istore5 (pc := 95) dX4_foldSleepersAndPupils_95 (by decide) rfl ?_
      obtain rfl : k = S := by omega
      exact k97 0 (by omega)
    · obtain ⟨e1, e2, e3⟩ := n1.2.2.2.2.1 k (by omega)
      have hr := okSt_sl3 hok (show k < 5 by omega)
      refine j_ldc2 (pc := 17) cl_X4_107 dX4_foldSleepersAndPupils_17 ?_
      refine j_lload_n (pc := 20) dX4_foldSleepersAndPupils_20 rfl ?_
      refine j_lmul (pc := 21) dX4_foldSleepersAndPupils_21 ?_
      refine j_aload_n (pc := 22) dX4_foldSleepersAndPupils_22 rfl ?_
      refine j_getR (pc := 23) f_X4_12 dX4_foldSleepersAndPupils_23 rfl rfl (by decide) rfl ?_
      refine j_getR (pc := 26) f_X4_109 dX4_foldSleepersAndPupils_26 rfl rfl (by decide) rfl ?_
      refine j_iload (pc := 29) dX4_foldSleepersAndPupils_29 rfl ?_
      refine j_iald_b (pc := 31) (k) dX4_foldSleepersAndPupils_31 rfl (by decide) (by decide) (by omega) (by omega) ?_
      rw [show I 12 k = f (6 + k) from e1]
      refine j_i2l (pc := 32) dX4_foldSleepersAndPupils_32 (by omega) ?_
      refine j_ladd (pc := 33) dX4_foldSleepersAndPupils_33 ?_
      refine j_lstore_n3 (pc := 34) dX4_foldSleepersAndPupils_34 (by decide) rfl ?_
      refine j_ldc2 (pc := 35) cl_X4_107 dX4_foldSleepersAndPupils_35 ?_
      refine j_lload_n (pc := 38) dX4_foldSleepersAndPupils_38 rfl ?_
      refine j_lmul (pc := 39) dX4_foldSleepersAndPupils_39 ?_
      refine j_aload_n (pc := 40) dX4_foldSleepersAndPupils_40 rfl ?_
      refine j_getR (pc := 41) f_X4_12 dX4_foldSleepersAndPupils_41 rfl rfl (by decide) rfl ?_
      refine j_getR (pc := 44) f_X4_112 dX4_foldSleepersAndPupils_44 rfl rfl (by decide) rfl ?_
      refine j_iload (pc := 47) dX4_foldSleepersAndPupils_47 rfl ?_
      refine j_iald_b (pc := 49) (k) dX4_foldSleepersAndPupils_49 rfl (by decide) (by decide) (by omega) (by omega) ?_
      rw [show I 13 k = f (11 + k) from e2]
      refine j_i2l (pc := 50) dX4_foldSleepersAndPupils_50 (by omega) ?_
      refine j_ladd (pc := 51) dX4_foldSleepersAndPupils_51 ?_
      refine j_lstore_n3 (pc := 52) dX4_foldSleepersAndPupils_52 (by decide) rfl ?_
      refine j_ldc2 (pc := 53) cl_X4_107 dX4_foldSleepersAndPupils_53 ?_
      refine j_lload_n (pc := 56) dX4_foldSleepersAndPupils_56 rfl ?_
      refine j_lmul (pc := 57) dX4_foldSleepersAndPupils_57 ?_
      refine j_aload_n (pc := 58) dX4_foldSleepersAndPupils_58 rfl ?_
      refine j_getR (pc := 59) f_X4_12 dX4_foldSleepersAndPupils_59 rfl rfl (by decide) rfl ?_
      refine j_getR (pc := 62) f_X4_115 dX4_foldSleepersAndPupils_62 rfl rfl (by decide) rfl ?_
      refine j_iload (pc := 65) dX4_foldSleepersAndPupils_65 rfl ?_
      refine j_iald_b (pc := 67) (k) dX4_foldSleepersAndPupils_67 rfl (by decide) (by decide) (by omega) (by omega) ?_
      rw [show I 14 k = f (16 + k) from e3]
      refine j_i2l (pc := 68) dX4_foldSleepersAndPupils_68 (by omega) ?_
      refine j_ladd (pc := 69) dX4_foldSleepersAndPupils_69 ?_
      refine j_lstore_n3 (pc := 70) dX4_foldSleepersAndPupils_70 (by decide) rfl ?_
      refine j_ldc2 (pc := 71) cl_X4_107 dX4_foldSleepersAndPupils_71 ?_
      refine j_lload_n (pc := 74) dX4_foldSleepersAndPupils_74 rfl ?_
      refine j_lmul (pc := 75) dX4_foldSleepersAndPupils_75 ?_
      refine j_aload_n (pc := 76) dX4_foldSleepersAndPupils_76 rfl ?_
      refine j_getI (pc := 77) f_X4_47 dX4_foldSleepersAndPupils_77 rfl rfl (by decide) ?_
      rw [show I 1 10 = (aw : Int) from n3.trans haw]
      refine j_iload (pc := 80) dX4_foldSleepersAndPupils_80 rfl ?_
      refine j_goI (pc := 82) (j_runSN k_X4_118 m_X11_bit (c_bit X I aw k) dX4_foldSleepersAndPupils_82 (by decide) rfl rfl (Nat.le_of_ble_eq_true rfl)) (fun r1 I1 h1 => ?_)
      obtain ⟨rfl, rfl⟩ := h1
      rw [jbit (by omega) (by omega)]
      refine j_i2l (pc := 85) dX4_foldSleepersAndPupils_85 (by split <;> omega) ?_
      refine j_ladd (pc := 86) dX4_foldSleepersAndPupils_86 ?_
      refine j_lstore_n3 (pc := 87) dX4_foldSleepersAndPupils_87 (by decide) rfl ?_
      refine j_iinc5 (pc := 88) dX4_foldSleepersAndPupils_88 (by decide) rfl ?_
      refine j_goto (pc := 91) 5 dX4_foldSleepersAndPupils_91 (by decide) ?_
      have hy := ih (k + 1) (by omega) (by omega)
      rw [e] at hy
      exact hy
  refine j_lload_n (pc := 0) dX4_foldSleepersAndPupils_0 rfl ?_
  refine j_lstore_n3 (pc := 1) dX4_foldSleepersAndPupils_1 (by decide) rfl ?_
  refine j_iconst (pc := 2) dX4_foldSleepersAndPupils_2 ?_
  refine j_istore5 (pc := 3) dX4_foldSleepersAndPupils_3 (by decide) rfl ?_
  exact k5 0 (by omega)
theorem c_foldHd (X : jX) (I : jMI) (f ah : Nat → Int) (u : Nat) (h : Int) (hN : nR f ah u I 1) (hok : okSt f) : C_X4_foldHeard X [jR 1, jL h] I (fun r I' => r = fo (fun j => f (53 + j)) h (3 * (f 52).toNat) ∧ I' = I) := by
  refine CG.of (by decide) [some (jR 1), some (jL h), none, none, none, none] rfl (Nat.le_of_ble_eq_true rfl) ?_
  obtain ⟨n1, n2, n3, n4, n5, n6, n7, n8⟩ := hN
  obtain ⟨H, hH, hH6⟩ := okSt_52 hok
  rw [hH, Int.toNat_natCast]
  have k5 : ∀ (k : Nat), k ≤ H → S_X4_foldHeard X 5 [some (jR 1), some (jL h), none, some (jL (fo (fun j => f (53 + j)) h (3 * k))), none, some (jI k)] [] I (fun r I' => r = fo (fun j => f (53 + j)) h (3 * H) ∧ I' = I) := by
    refine mu1 (fun k => 6 - k) _ (fun k ih hk => ?_)
    have e : fo (fun j => f (53 + j)) h (3 * (k + 1)) = 31 * (31 * (31 * fo (fun j => f (53 + j)) h (3 * k) + f (53 + 3 * k)) + f (54 + 3 * k)) + f (55 + 3 * k) := by
      rw [show 3 * (k + 1) = 3 * k + 1 + 1 + 1 by omega]
      show 31 * (31 * (31 * fo (fun j => f (53 + j)) h (3 * k) + f (53 + 3 * k)) + f (53 + (3 * k + 1))) + f (53 + (3 * k + 1 + 1)) = _
      rw [show 53 + (3 * k + 1) = 54 + 3 * k by omega, show 53 + (3 * k + 1 + 1) = 55 + 3 * k by omega]
    refine j_iload (pc := 5) dX4_foldHeard_5 rfl ?_
    refine j_aload_n (pc := 7) dX4_foldHeard_7 rfl ?_
    refine j_getI (pc := 8) f_X4_53 dX4_foldHeard_8 rfl rfl (by decide) ?_
    rw [show I 1 12 = (H : Int) from n5.trans hH]
    refine j_icmp_ge (pc := 11) 65 dX4_foldHeard_11 (by decide) (by omega) (by omega) (fun h_11 => ?_) (fun h_11 => ?_)
    · refine j_lload_n (pc := 65) dX4_foldHeard_65 rfl ?_
      refine j_retl dX4_foldHeard_66 (?_) rfl
      obtain rfl : k = H := by omega
      exact ⟨rfl, rfl⟩
    · obtain ⟨e1, e2, e3⟩ := n8 k (by omega)
      have hr := okSt_h3 hok (show k < 6 by omega)
      refine j_ldc2 (pc := 14) cl_X4_107 dX4_foldHeard_14 ?_
      refine j_lload_n (pc := 17) dX4_foldHeard_17 rfl ?_
      refine j_lmul (pc := 18) dX4_foldHeard_18 ?_
      refine j_aload_n (pc := 19) dX4_foldHeard_19 rfl ?_
      refine j_getR (pc := 20) f_X4_34 dX4_foldHeard_20 rfl rfl (by decide) rfl ?_
      refine j_iload (pc := 23) dX4_foldHeard_23 rfl ?_
      refine j_iald_b (pc := 25) (k) dX4_foldHeard_25 rfl (by decide) (by decide) (by omega) (by omega) ?_
      rw [show I 23 k = f (53 + 3 * k) from e1]
      refine j_i2l (pc := 26) dX4_foldHeard_26 (by omega) ?_
      refine j_ladd (pc := 27) dX4_foldHeard_27 ?_
      refine j_lstore_n3 (pc := 28) dX4_foldHeard_28 (by decide) rfl ?_
      refine j_ldc2 (pc := 29) cl_X4_107 dX4_foldHeard_29 ?_
      refine j_lload_n (pc := 32) dX4_foldHeard_32 rfl ?_
      refine j_lmul (pc := 33) dX4_foldHeard_33 ?_
      refine j_aload_n (pc := 34) dX4_foldHeard_34 rfl ?_
      refine j_getR (pc := 35) f_X4_37 dX4_foldHeard_35 rfl rfl (by decide) rfl ?_
      refine j_iload (pc := 38) dX4_foldHeard_38 rfl ?_
      refine j_iald_b (pc := 40) (k) dX4_foldHeard_40 rfl (by decide) (by decide) (by omega) (by omega) ?_
      rw [show I 24 k = f (54 + 3 * k) from e2]
      refine j_i2l (pc := 41) dX4_foldHeard_41 (by omega) ?_
      refine j_ladd (pc := 42) dX4_foldHeard_42 ?_
      refine j_lstore_n3 (pc := 43) dX4_foldHeard_43 (by decide) rfl ?_
      refine j_ldc2 (pc := 44) cl_X4_107 dX4_foldHeard_44 ?_
      refine j_lload_n (pc := 47) dX4_foldHeard_47 rfl ?_
      refine j_lmul (pc := 48) dX4_foldHeard_48 ?_
      refine j_aload_n (pc := 49) dX4_foldHeard_49 rfl ?_
      refine j_getR (pc := 50) f_X4_40 dX4_foldHeard_50 rfl rfl (by decide) rfl ?_
      refine j_iload (pc := 53) dX4_foldHeard_53 rfl ?_
      refine j_iald_b (pc := 55) (k) dX4_foldHeard_55 rfl (by decide) (by decide) (by omega) (by omega) ?_
      rw [show I 25 k = f (55 + 3 * k) from e3]
      refine j_i2l (pc := 56) dX4_foldHeard_56 (by omega) ?_
      refine j_ladd (pc := 57) dX4_foldHeard_57 ?_
      refine j_lstore_n3 (pc := 58) dX4_foldHeard_58 (by decide) rfl ?_
      refine j_iinc5 (pc := 59) dX4_foldHeard_59 (by decide) rfl ?_
      refine j_goto (pc := 62) 5 dX4_foldHeard_62 (by decide) ?_
      have hy := ih (k + 1) (by omega) (by omega)
      rw [e] at hy
      exact hy
  refine j_lload_n (pc := 0) dX4_foldHeard_0 rfl ?_
  refine j_lstore_n3 (pc := 1) dX4_foldHeard_1 (by decide) rfl ?_
  refine j_iconst (pc := 2) dX4_foldHeard_2 ?_
  refine j_istore5 (pc := 3) dX4_foldHeard_3 (by decide) rfl ?_
  exact k5 0 (by omega)
