/-! ===== the reference: clocks, nights ===== -/
def pop5 (w : Nat) : Nat := w % 2 + w / 2 % 2 + w / 4 % 2 + w / 8 % 2 + w / 16 % 2
theorem pop5_step : ∀ x : Nat, x < 32 → 0 < x → (x &&& (x - 1)) < x ∧ pop5 (x &&& (x - 1)) + 1 = pop5 x := by decide +kernel
theorem pop5_le (w : Nat) : pop5 w ≤ 5 := by unfold pop5; omega
theorem c_ones (X : jX) (I : jMI) (w : Nat) (hw : w < 32) : C_X12_ones X [jI w] I (fun r I' => r = pop5 w ∧ I' = I) := by
  refine CG.of (by decide) [some (jI w), none, none] rfl (Nat.le_of_ble_eq_true rfl) ?_
  have key : ∀ (x n : Nat), x < 32 → n + pop5 x = pop5 w → S_X12_ones X 4 [some (jI w), some (jI n), some (jI x)] [] I (fun r I' => r = pop5 w ∧ I' = I) := by
    refine mu2 (fun x _ => x) _ (fun x n ih hx hn => ?_)
    refine j_iload_n (pc := 4) dX12_ones_4 rfl ?_
    refine j_if_eq (pc := 5) 20 dX12_ones_5 (by decide) (by omega) (fun h_5 => ?_) (fun h_5 => ?_)
    · refine j_iload_n (pc := 20) dX12_ones_20 rfl ?_
      refine j_reti dX12_ones_21 (?_) rfl
      have e : pop5 0 = 0 := rfl
      obtain rfl : x = 0 := by omega
      exact ⟨by omega, rfl⟩
    · refine j_iinc1 (pc := 8) dX12_ones_8 (by decide) rfl ?_
      refine j_iload_n (pc := 11) dX12_ones_11 rfl ?_
      refine j_iload_n (pc := 12) dX12_ones_12 rfl ?_
      refine j_iconst (pc := 13) dX12_ones_13 ?_
      refine j_isub (pc := 14) dX12_ones_14 ?_
      refine j_iand (pc := 15) dX12_ones_15 ?_
      obtain ⟨h1, h2⟩ := pop5_step x hx (by omega)
      rw [show ((x : Int) - 1) = ((x - 1 : Nat) : Int) by omega, jband_n (by omega) (by omega)]
      refine j_istore_n2 (pc := 16) dX12_ones_16 (by decide) rfl ?_
      refine j_goto (pc := 17) 4 dX12_ones_17 (by decide) ?_
      exact ih _ (n + 1) h1 (by omega) (by omega)
  refine j_iconst (pc := 0) dX12_ones_0 ?_
  refine j_istore_n1 (pc := 1) dX12_ones_1 (by decide) rfl ?_
  refine j_iload_n (pc := 2) dX12_ones_2 rfl ?_
  refine j_istore_n2 (pc := 3) dX12_ones_3 (by decide) rfl ?_
  exact key w 0 hw (by omega)
def mFr (I : jMI) (u d : Nat) : jMI := jSf I 105 (jU (jU (I 105) 1 ((u / Nat.gcd u d : Nat) : Int)) 2 ((d / Nat.gcd u d : Nat) : Int))
theorem c_setFr (X : jX) (I : jMI) (u d : Nat) (hu : u ≤ 10000000) (hd : 0 < d) (hd2 : d ≤ 10000000) : C_X12_setFraction X [jR 105, jL u, jL d] I (fun I' => I' = mFr I u d) := by
  refine CG.of (by decide) [some (jR 105), some (jL u), none, some (jL d), none, none, none, none, none, none, none] rfl (Nat.le_of_ble_eq_true rfl) ?_
  have key : ∀ (a b : Nat), a ≤ 10000000 → b ≤ 10000000 → Nat.gcd a b = Nat.gcd u d → ∀ x9 x10, S_X12_setFraction X 6 [some (jR 105), some (jL u), none, some (jL d), none, some (jL a), none, some (jL b), none, x9, x10] [] I (fun I' => I' = mFr I u d) := by
    refine mu2 (fun _ b => b) _ (fun a b ih ha hb hg x9 x10 => ?_)
    have hj := jcmp_0 (a := (b : Int)) (by omega)
    have hgp : 0 < Nat.gcd u d := Nat.gcd_pos_of_pos_right u hd
    refine j_lload (pc := 6) dX12_setFraction_6 rfl ?_
    refine j_lconst0 (pc := 8) dX12_setFraction_8 ?_
    refine j_lcmp (pc := 9) dX12_setFraction_9 ?_
    rw [hj]
    refine j_if_eq (pc := 10) 31 dX12_setFraction_10 (by decide) (by omega) (fun h_10 => ?_) (fun h_10 => ?_)
    · obtain rfl : b = 0 := by split at h_10 <;> omega
      rw [Nat.gcd_zero_right] at hg
      refine j_aload_n (pc := 31) dX12_setFraction_31 rfl ?_
      refine j_lload_n (pc := 32) dX12_setFraction_32 rfl ?_
      refine j_lload (pc := 33) dX12_setFraction_33 rfl ?_
      refine j_ldiv (pc := 35) dX12_setFraction_35 (by omega) (by omega) ?_
      rw [show ((u : Int) / (a : Int)) = ((u / a : Nat) : Int) from (Int.natCast_ediv u a).symm]
      refine j_putL_b (pc := 36) f_X12_263 dX12_setFraction_36 rfl rfl rfl (by decide) ?_
      refine j_aload_n (pc := 39) dX12_setFraction_39 rfl ?_
      refine j_lload_n (pc := 40) dX12_setFraction_40 rfl ?_
      refine j_lload (pc := 41) dX12_setFraction_41 rfl ?_
      refine j_ldiv (pc := 43) dX12_setFraction_43 (by omega) (by omega) ?_
      rw [show ((d : Int) / (a : Int)) = ((d / a : Nat) : Int) from (Int.natCast_ediv d a).symm]
      refine j_putL_a (pc := 44) f_X12_13 dX12_setFraction_44 rfl rfl rfl (by decide) ?_
      refine j_retv dX12_setFraction_47 (?_) rfl
      subst hg
      rfl
    · refine j_lload (pc := 13) dX12_setFraction_13 rfl ?_
      refine j_lload (pc := 15) dX12_setFraction_15 rfl ?_
      refine j_lrem (pc := 17) dX12_setFraction_17 (by omega) (by omega) ?_
      rw [show ((a : Int) % (b : Int)) = ((a % b : Nat) : Int) from (Int.natCast_emod a b).symm]
      refine j_lstore9 (pc := 18) dX12_setFraction_18 (by decide) rfl ?_
      refine j_lload (pc := 20) dX12_setFraction_20 rfl ?_
      refine j_lstore5 (pc := 22) dX12_setFraction_22 (by decide) rfl ?_
      refine j_lload (pc := 24) dX12_setFraction_24 rfl ?_
      refine j_lstore7 (pc := 26) dX12_setFraction_26 (by decide) rfl ?_
      refine j_goto (pc := 28) 6 dX12_setFraction_28 (by decide) ?_
      have hbp : 0 < b := by split at h_10 <;> omega
      exact ih b (a % b) (Nat.mod_lt a hbp) hb (Nat.le_of_lt (Nat.lt_of_lt_of_le (Nat.mod_lt a hbp) hb)) (by rw [← hg, Nat.gcd_comm b, ← Nat.gcd_rec, Nat.gcd_comm]) _ _
  refine j_lload_n (pc := 0) dX12_setFraction_0 rfl ?_
  refine j_lstore5 (pc := 1) dX12_setFraction_1 (by decide) rfl ?_
  refine j_lload_n (pc := 3) dX12_setFraction_3 rfl ?_
  refine j_lstore7 (pc := 4) dX12_setFraction_4 (by decide) rfl ?_
  exact key u d hu hd2 rfl _ _
def wtN (c t : Nat) : Nat → Nat
  | 0 => 1
  | k + 1 => wtN c t k * (if t.testBit k then c else 10 - c)
def clN (c n sure many : Nat) : Nat → Nat
  | 0 => 0
  | t + 1 => clN c n sure many t + (if pop5 (t ||| sure) ≤ n then wtN c t many else 0)
theorem wtN_le {c t : Nat} (hc : c ≤ 10) : ∀ k, wtN c t k ≤ 10 ^ k := by
  intro k
  induction k with
  | zero => exact Nat.le_refl _
  | succ k ih =>
    show wtN c t k * (if t.testBit k then c else 10 - c) ≤ 10 ^ (k + 1)
    rw [Nat.pow_succ]
    exact Nat.mul_le_mul ih (by split <;> omega)
theorem clN_le {c n sure many : Nat} (hc : c ≤ 10) (hm : many ≤ 5) : ∀ t, clN c n sure many t ≤ t * 100000 := by
  intro t
  induction t with
  | zero => exact Nat.le_refl _
  | succ t ih =>
    have h1 : wtN c t many ≤ 100000 := Nat.le_trans (wtN_le hc many) (Nat.pow_le_pow_right (by omega) hm)
    show clN c n sure many t + (if pop5 (t ||| sure) ≤ n then wtN c t many else 0) ≤ (t + 1) * 100000
    rw [Nat.add_mul, Nat.one_mul]
    generalize 100000 = K at *
    split <;> omega
set_option maxHeartbeats 4000000 in
theorem c_mclocks (X : jX) (I : jMI) (a c n : Int) (q : Int → jMI → Prop) (ha : -2147483648 ≤ a ∧ a < 2147483648) (hc : -2147483648 ≤ c ∧ c < 2147483648) (hn : -2147483648 ≤ n ∧ n < 2147483648) (hok : okSt (I 106)) (M : Nat) (hM : I 106 5 = M) (hM5 : M ≤ 5)
    (q0 : ¬ ((0 ≤ a ∧ a ≤ 7) ∧ (0 ≤ c ∧ c ≤ 10) ∧ (0 ≤ n ∧ n ≤ 5)) → q (-2) (mRef I 0))
    (q1 : ∀ (i j k aw w : Nat) (I' : jMI), a = i → c = j → n = k → i < 8 → j ≤ 10 → k ≤ 5 → I 106 1 = aw → aw < 32 → isW (I 106) 9 i (I 106 0) w → mSc (mFr I (clN j k (aw ||| w) M (2 ^ M)) (10 ^ M)) I' → q 1 I') : C_X12_clocks X [jR 105, jI a, jI c, jI n] I q := by
  refine CG.of (by decide) [some (jR 105), some (jI a), some (jI c), some (jI n), none, none, none, none, none, none, none, none, none] rfl (Nat.le_of_ble_eq_true rfl) ?_
  have h0 := okSt_0 hok
  have kbad : ¬ ((0 ≤ a ∧ a ≤ 7) ∧ (0 ≤ c ∧ c ≤ 10) ∧ (0 ≤ n ∧ n ≤ 5)) → S_X12_clocks X 31 [some (jR 105), some (jI a), some (jI c), some (jI n), none, none, none, none, none, none, none, none, none] [] I q := by
    intro hz
    refine j_aload_n (pc := 31) dX12_clocks_31 rfl ?_
    refine j_goI (pc := 32) (j_runV k_X12_95 m_X12_bad (c_bad X I) dX12_clocks_32 rfl (by decide) rfl (by decide) (by decide) rfl rfl (Nat.le_of_ble_eq_true rfl)) (fun r9 I9 h9 => ?_)
    obtain ⟨rfl, rfl⟩ := h9
    exact j_reti dX12_clocks_35 (q0 hz) rfl
  have kmain : ∀ (i j k aw w : Nat) (g : Nat → Int), a = i → c = j → n = k → i < 8 → j ≤ 10 → k ≤ 5 → I 106 1 = aw → aw < 32 → isW (I 106) 9 i (I 106 0) w → S_X12_clocks X 92 [some (jR 105), some (jI i), some (jI j), some (jI k), some (jI ((aw ||| w : Nat) : Int)), some (jL 0), none, some (jL ((10 ^ M : Nat) : Int)), none, some (jI M), none, none, none] [] (jSf I 110 g) q := by
    intro i j k aw w g ea ec en hi hj hk haw haw32 hw
    have hs32 : aw ||| w < 32 := Nat.or_lt_two_pow (n := 5) haw32 hw.1
    have h2M : 2 ^ M ≤ 32 := Nat.pow_le_pow_right (n := 2) (by omega) hM5
    have h10M : 10 ^ M ≤ 100000 := Nat.pow_le_pow_right (n := 10) (by omega) hM5
    have h10p : 0 < 10 ^ M := Nat.pos_of_neZero _
    have k95 : ∀ (t : Nat), t ≤ 2 ^ M → ∀ x10 x11 x12, S_X12_clocks X 95 [some (jR 105), some (jI i), some (jI j), some (jI k), some (jI ((aw ||| w : Nat) : Int)), some (jL ((clN j k (aw ||| w) M t : Nat) : Int)), none, some (jL ((10 ^ M : Nat) : Int)), none, some (jI t), x10, x11, x12] [] (jSf I 110 g) q := by
      refine mu1 (fun t => 32 - t) _ (fun t ih ht x10 x11 x12 => ?_)
      have k114 : t < 2 ^ M → ∀ (z : Nat), z ≤ M → S_X12_clocks X 114 [some (jR 105), some (jI i), some (jI j), some (jI k), some (jI ((aw ||| w : Nat) : Int)), some (jL ((clN j k (aw ||| w) M t : Nat) : Int)), none, some (jL ((10 ^ M : Nat) : Int)), none, some (jI t), some (jL ((wtN j t z : Nat) : Int)), none, some (jI z)] [] (jSf I 110 g) q := by
        intro htM
        refine mu1 (fun z => 5 - z) _ (fun z ihz hz => ?_)
        refine j_iload (pc := 114) dX12_clocks_114 rfl ?_
        refine j_aload_n (pc := 116) dX12_clocks_116 rfl ?_
        refine j_getR (pc := 117) f_X12_7 dX12_clocks_117 rfl rfl (by decide) rfl ?_
        refine j_iconst (pc := 120) dX12_clocks_120 ?_
        refine j_iald_c (pc := 121) (5) dX12_clocks_121 rfl (by decide) (by decide) (by omega) (by omega) (by decide) ?_
        rw [hM]
        refine j_icmp_ge (pc := 122) 156 dX12_clocks_122 (by decide) (by omega) (by omega) (fun h_122 => ?_) (fun h_122 => ?_)
        · refine j_lload (pc := 156) dX12_clocks_156 rfl ?_
          refine j_iload (pc := 158) dX12_clocks_158 rfl ?_
          refine j_iload (pc := 160) dX12_clocks_160 rfl ?_
          refine j_ior (pc := 162) dX12_clocks_162 ?_
          rw [jbor_n (by omega) (by omega)]
          refine j_goI (pc := 163) (j_runS k_X12_268 m_X12_ones (c_ones X (jSf I 110 g) (t ||| (aw ||| w)) (Nat.or_lt_two_pow (n := 5) (by omega) hs32)) dX12_clocks_163 (by decide) rfl rfl (Nat.le_of_ble_eq_true rfl)) (fun r2 I2 h2 => ?_)
          obtain ⟨rfl, rfl⟩ := h2
          have hp5 := pop5_le (t ||| (aw ||| w))
          refine j_iload_n (pc := 166) dX12_clocks_166 rfl ?_
          refine j_icmp_gt (pc := 167) 175 dX12_clocks_167 (by decide) (by omega) (by omega) (fun h_167 => ?_) (fun h_167 => ?_)
          · refine j_lconst0 (pc := 175) dX12_clocks_175 ?_
            refine j_ladd (pc := 176) dX12_clocks_176 ?_
            refine j_lstore5 (pc := 177) dX12_clocks_177 (by decide) rfl ?_
            refine j_iinc9 (pc := 179) dX12_clocks_179 (by decide) rfl ?_
            refine j_goto (pc := 182) 95 dX12_clocks_182 (by decide) ?_
            obtain rfl : z = M := by omega
            have hy := ih (t + 1) (by omega) (by omega) (some (jL ((wtN j t z : Nat) : Int))) none (some (jI z))
            have e : clN j k (aw ||| w) z (t + 1) = clN j k (aw ||| w) z t + (if pop5 (t ||| (aw ||| w)) ≤ k then wtN j t z else 0) := rfl
            rw [e] at hy
            first
              | (rw [if_pos (by omega), Int.natCast_add] at hy; exact hy)
              | (rw [if_neg (by omega), Int.natCast_add] at hy; exact hy)
          · refine j_lload (pc := 170) dX12_clocks_170 rfl ?_
            refine j_goto (pc := 172) 176 dX12_clocks_172 (by decide) ?_
            refine j_ladd (pc := 176) dX12_clocks_176 ?_
            refine j_lstore5 (pc := 177) dX12_clocks_177 (by decide) rfl ?_
            refine j_iinc9 (pc := 179) dX12_clocks_179 (by decide) rfl ?_
            refine j_goto (pc := 182) 95 dX12_clocks_182 (by decide) ?_
            obtain rfl : z = M := by omega
            have hy := ih (t + 1) (by omega) (by omega) (some (jL ((wtN j t z : Nat) : Int))) none (some (jI z))
            have e : clN j k (aw ||| w) z (t + 1) = clN j k (aw ||| w) z t + (if pop5 (t ||| (aw ||| w)) ≤ k then wtN j t z else 0) := rfl
            rw [e] at hy
            first
              | (rw [if_pos (by omega), Int.natCast_add] at hy; exact hy)
              | (rw [if_neg (by omega), Int.natCast_add] at hy; exact hy)
        · refine j_lload (pc := 125) dX12_clocks_125 rfl ?_
          refine j_iload (pc := 127) dX12_clocks_127 rfl ?_
          refine j_iload (pc := 129) dX12_clocks_129 rfl ?_
          refine j_goI (pc := 131) (j_runS k_X12_260 m_X12_has (c_has X (jSf I 110 g) t z (by omega) (by omega)) dX12_clocks_131 (by decide) rfl rfl (Nat.le_of_ble_eq_true rfl)) (fun r1 I1 h1 => ?_)
          obtain ⟨rfl, rfl⟩ := h1
          refine j_if_eq (pc := 134) 142 dX12_clocks_134 (by decide) (by omega) (fun h_134 => ?_) (fun h_134 => ?_)
          · refine j_bipush (pc := 142) dX12_clocks_142 (by decide) ?_
            refine j_iload_n (pc := 144) dX12_clocks_144 rfl ?_
            refine j_isub (pc := 145) dX12_clocks_145 ?_
            refine j_i2l (pc := 146) dX12_clocks_146 (by omega) ?_
            refine j_lmul (pc := 147) dX12_clocks_147 ?_
            refine j_lstore10 (pc := 148) dX12_clocks_148 (by decide) rfl ?_
            refine j_iinc12 (pc := 150) dX12_clocks_150 (by decide) rfl ?_
            refine j_goto (pc := 153) 114 dX12_clocks_153 (by decide) ?_
            have hy := ihz (z + 1) (by omega) (by omega)
            have e : wtN j t (z + 1) = wtN j t z * (if t.testBit z then j else 10 - j) := rfl
            rw [e] at hy
            first
              | (rw [if_pos (by split at h_134 <;> first | assumption | omega), Int.natCast_mul] at hy; exact hy)
              | (rw [if_neg (by split at h_134 <;> first | assumption | omega), Int.natCast_mul, show (((10 - j : Nat) : Nat) : Int) = 10 - (j : Int) by omega] at hy; exact hy)
          · refine j_iload_n (pc := 137) dX12_clocks_137 rfl ?_
            refine j_i2l (pc := 138) dX12_clocks_138 (by omega) ?_
            refine j_goto (pc := 139) 147 dX12_clocks_139 (by decide) ?_
            refine j_lmul (pc := 147) dX12_clocks_147 ?_
            refine j_lstore10 (pc := 148) dX12_clocks_148 (by decide) rfl ?_
            refine j_iinc12 (pc := 150) dX12_clocks_150 (by decide) rfl ?_
            refine j_goto (pc := 153) 114 dX12_clocks_153 (by decide) ?_
            have hy := ihz (z + 1) (by omega) (by omega)
            have e : wtN j t (z + 1) = wtN j t z * (if t.testBit z then j else 10 - j) := rfl
            rw [e] at hy
            first
              | (rw [if_pos (by split at h_134 <;> first | assumption | omega), Int.natCast_mul] at hy; exact hy)
              | (rw [if_neg (by split at h_134 <;> first | assumption | omega), Int.natCast_mul, show (((10 - j : Nat) : Nat) : Int) = 10 - (j : Int) by omega] at hy; exact hy)
      have hle := clN_le (c := j) (n := k) (sure := aw ||| w) (many := M) hj hM5 t
      refine j_iload (pc := 95) dX12_clocks_95 rfl ?_
      refine j_iconst (pc := 97) dX12_clocks_97 ?_
      refine j_aload_n (pc := 98) dX12_clocks_98 rfl ?_
      refine j_getR (pc := 99) f_X12_7 dX12_clocks_99 rfl rfl (by decide) rfl ?_
      refine j_iconst (pc := 102) dX12_clocks_102 ?_
      refine j_iald_c (pc := 103) (5) dX12_clocks_103 rfl (by decide) (by decide) (by omega) (by omega) (by decide) ?_
      refine j_ishl (pc := 104) dX12_clocks_104 ?_
      rw [hM, jshl_n (by omega)]
      refine j_icmp_ge (pc := 105) 185 dX12_clocks_105 (by decide) (by omega) (by omega) (fun h_105 => ?_) (fun h_105 => ?_)
      · refine j_aload_n (pc := 185) dX12_clocks_185 rfl ?_
        refine j_lload (pc := 186) dX12_clocks_186 rfl ?_
        refine j_lload (pc := 188) dX12_clocks_188 rfl ?_
        refine j_goV (pc := 190) (j_runV k_X12_271 m_X12_setFraction (c_setFr X (jSf I 110 g) (clN j k (aw ||| w) M t) (10 ^ M) (by omega) h10p (by omega)) dX12_clocks_190 rfl (by decide) rfl (by decide) (by decide) rfl rfl (Nat.le_of_ble_eq_true rfl)) (fun I3 h3 => ?_)
        subst h3
        refine j_iconst (pc := 193) dX12_clocks_193 ?_
        refine j_reti dX12_clocks_194 (?_) rfl
        obtain rfl : t = 2 ^ M := by omega
        refine q1 i j k aw w _ ea ec en hi hj hk haw haw32 hw (fun z hz => ?_)
        unfold mFr
        by_cases hz5 : z = 105
        · subst hz5; rw [jSf_s, jSf_s, jSf_n (by decide)]
        · rw [jSf_n hz5, jSf_n hz5, jSf_n (by omega)]
      · refine j_lconst1 (pc := 108) dX12_clocks_108 ?_
        refine j_lstore10 (pc := 109) dX12_clocks_109 (by decide) rfl ?_
        refine j_iconst (pc := 111) dX12_clocks_111 ?_
        refine j_istore12 (pc := 112) dX12_clocks_112 (by decide) rfl ?_
        exact k114 (by omega) 0 (by omega)
    refine j_iconst (pc := 92) dX12_clocks_92 ?_
    refine j_istore9 (pc := 93) dX12_clocks_93 (by decide) rfl ?_
    exact k95 0 (Nat.zero_le _) _ _ _
  have k67 : ∀ (i j k aw w : Nat) (g : Nat → Int), a = i → c = j → n = k → i < 8 → j ≤ 10 → k ≤ 5 → I 106 1 = aw → aw < 32 → isW (I 106) 9 i (I 106 0) w → ∀ z : Nat, z ≤ M → S_X12_clocks X 67 [some (jR 105), some (jI i), some (jI j), some (jI k), some (jI ((aw ||| w : Nat) : Int)), some (jL 0), none, some (jL ((10 ^ z : Nat) : Int)), none, some (jI z), none, none, none] [] (jSf I 110 g) q := by
    intro i j k aw w g ea ec en hi hj hk haw haw32 hw
    refine mu1 (fun z => 5 - z) _ (fun z ih hz => ?_)
    refine j_iload (pc := 67) dX12_clocks_67 rfl ?_
    refine j_aload_n (pc := 69) dX12_clocks_69 rfl ?_
    refine j_getR (pc := 70) f_X12_7 dX12_clocks_70 rfl rfl (by decide) rfl ?_
    refine j_iconst (pc := 73) dX12_clocks_73 ?_
    refine j_iald_c (pc := 74) (5) dX12_clocks_74 rfl (by decide) (by decide) (by omega) (by omega) (by decide) ?_
    rw [hM]
    refine j_icmp_ge (pc := 75) 92 dX12_clocks_75 (by decide) (by omega) (by omega) (fun h_75 => ?_) (fun h_75 => ?_)
    · obtain rfl : z = M := by omega
      exact kmain i j k aw w g ea ec en hi hj hk haw haw32 hw
    · refine j_lload (pc := 78) dX12_clocks_78 rfl ?_
      refine j_ldc2 (pc := 80) cl_X12_266 dX12_clocks_80 ?_
      refine j_lmul (pc := 83) dX12_clocks_83 ?_
      refine j_lstore7 (pc := 84) dX12_clocks_84 (by decide) rfl ?_
      refine j_iinc9 (pc := 86) dX12_clocks_86 (by decide) rfl ?_
      refine j_goto (pc := 89) 67 dX12_clocks_89 (by decide) ?_
      have hy := ih (z + 1) (by omega) (by omega)
      rw [Nat.pow_succ, Int.natCast_mul] at hy
      exact hy
  refine j_iload_n (pc := 0) dX12_clocks_0 rfl ?_
  refine j_goI (pc := 1) (j_runS k_X12_89 m_X12_isRoom (c_mRoom X I a ha) dX12_clocks_1 (by decide) rfl rfl (Nat.le_of_ble_eq_true rfl)) (fun r1 I1 h1 => ?_)
  obtain ⟨rfl, rfl⟩ := h1
  refine j_if_eq (pc := 4) 31 dX12_clocks_4 (by decide) (by omega) (fun h_4 => ?_) (fun h_4 => ?_)
  · exact kbad (by omega)
  · refine j_iload_n (pc := 7) dX12_clocks_7 rfl ?_
    refine j_i2l (pc := 8) dX12_clocks_8 (by omega) ?_
    refine j_lconst0 (pc := 9) dX12_clocks_9 ?_
    refine j_ldc2 (pc := 10) cl_X12_266 dX12_clocks_10 ?_
    refine j_goI (pc := 13) (j_runS k_X12_75 m_X12_in (c_in X I1 c 0 10 hc (by omega) (by omega)) dX12_clocks_13 (by decide) rfl rfl (Nat.le_of_ble_eq_true rfl)) (fun r2 I2 h2 => ?_)
    obtain ⟨rfl, rfl⟩ := h2
    refine j_if_eq (pc := 16) 31 dX12_clocks_16 (by decide) (by omega) (fun h_16 => ?_) (fun h_16 => ?_)
    · exact kbad (by omega)
    · refine j_iload_n (pc := 19) dX12_clocks_19 rfl ?_
      refine j_i2l (pc := 20) dX12_clocks_20 (by omega) ?_
      refine j_lconst0 (pc := 21) dX12_clocks_21 ?_
      refine j_ldc2 (pc := 22) cl_X12_102 dX12_clocks_22 ?_
      refine j_goI (pc := 25) (j_runS k_X12_75 m_X12_in (c_in X I2 n 0 5 hn (by omega) (by omega)) dX12_clocks_25 (by decide) rfl rfl (Nat.le_of_ble_eq_true rfl)) (fun r3 I3 h3 => ?_)
      obtain ⟨rfl, rfl⟩ := h3
      refine j_if_ne (pc := 28) 36 dX12_clocks_28 (by decide) (by omega) (fun h_28 => ?_) (fun h_28 => ?_)
      · obtain ⟨i, rfl⟩ := Int.eq_ofNat_of_zero_le (show 0 ≤ a by omega)
        obtain ⟨j, rfl⟩ := Int.eq_ofNat_of_zero_le (show 0 ≤ c by omega)
        obtain ⟨k, rfl⟩ := Int.eq_ofNat_of_zero_le (show 0 ≤ n by omega)
        obtain ⟨aw, haw, haw32⟩ := okSt_1 hok
        refine j_aload_n (pc := 36) dX12_clocks_36 rfl ?_
        refine j_getR (pc := 37) f_X12_7 dX12_clocks_37 rfl rfl (by decide) rfl ?_
        refine j_iconst (pc := 40) dX12_clocks_40 ?_
        refine j_iald_b (pc := 41) (1) dX12_clocks_41 rfl (by decide) (by decide) (by omega) (by omega) ?_
        refine j_aload_n (pc := 42) dX12_clocks_42 rfl ?_
        refine j_bipush (pc := 43) dX12_clocks_43 (by decide) ?_
        refine j_iload_n (pc := 45) dX12_clocks_45 rfl ?_
        refine j_aload_n (pc := 46) dX12_clocks_46 rfl ?_
        refine j_getR (pc := 47) f_X12_7 dX12_clocks_47 rfl rfl (by decide) rfl ?_
        refine j_iconst (pc := 50) dX12_clocks_50 ?_
        refine j_iald_b (pc := 51) (0) dX12_clocks_51 rfl (by decide) (by decide) (by omega) (by omega) ?_
        refine j_goI (pc := 52) (j_runV k_X12_211 m_X12_wakesBy (c_wakesBy X I3 9 i (I3 106 0) (by omega) (by omega) h0 hok) dX12_clocks_52 rfl (by decide) rfl (by decide) (by decide) rfl rfl (Nat.le_of_ble_eq_true rfl)) (fun r4 I4 h4 => ?_)
        obtain ⟨w, g, rfl, rfl, hw⟩ := h4
        refine j_ior (pc := 55) dX12_clocks_55 ?_
        rw [haw, jbor_n (by omega) (by have := hw.1; omega)]
        refine j_istore4 (pc := 56) dX12_clocks_56 (by decide) rfl ?_
        refine j_lconst0 (pc := 58) dX12_clocks_58 ?_
        refine j_lstore5 (pc := 59) dX12_clocks_59 (by decide) rfl ?_
        refine j_lconst1 (pc := 61) dX12_clocks_61 ?_
        refine j_lstore7 (pc := 62) dX12_clocks_62 (by decide) rfl ?_
        refine j_iconst (pc := 64) dX12_clocks_64 ?_
        refine j_istore9 (pc := 65) dX12_clocks_65 (by decide) rfl ?_
        exact k67 i j k aw w g rfl rfl rfl (by omega) (by omega) (by omega) haw haw32 hw 0 (by omega)
      · exact kbad (by omega)
