/-! ===== the reference: nights ===== -/
theorem cr_congr {f f' : Nat → Int} (h : ∀ k, 5 ≤ k → f k = f' k) : cr f = cr f' := by
  funext a b
  unfold cr
  split
  · rfl
  · exact h _ (by omega)
theorem edg_congr {f f' : Nat → Int} (h : ∀ k, 5 ≤ k → f k = f' k) : edg f = edg f' := by
  funext a b
  unfold edg
  rw [cr_congr h]
theorem dst_congr {f f' : Nat → Int} (h : ∀ k, 5 ≤ k → f k = f' k) (a b : Nat) : dst f a b = dst f' a b := by
  by_cases ha : a < 8
  · exact dst_eq ha (edg_congr h ▸ dst_is f b ha)
  · unfold dst; rw [dif_neg ha, dif_neg ha]
theorem wkB_congr {f f' : Nat → Int} (h : ∀ k, 5 ≤ k → f k = f' k) (n : Int) (room : Nat) (mi : Int) (s : Nat) : wkB f n room mi s ↔ wkB f' n room mi s := by
  unfold wkB wkS
  rw [dst_congr h, h (11 + s) (by omega), h (6 + s) (by omega), h (16 + s) (by omega)]
theorem isW_congr {f f' : Nat → Int} (h : ∀ k, 5 ≤ k → f k = f' k) {n : Int} {room : Nat} {mi : Int} {w : Nat} (hw : isW f n room mi w) : isW f' n room mi w := by
  refine ⟨hw.1, fun s => ?_⟩
  rw [hw.2 s, h 5 (by omega), wkB_congr h]
/-- the bits of those who wake -/
noncomputable def wF (f : Nat → Int) (n : Int) (room : Nat) (mi : Int) : Nat := Classical.epsilon (isW f n room mi)
theorem wF_eq {f : Nat → Int} {n : Int} {room : Nat} {mi : Int} {w : Nat} (h : isW f n room mi w) : wF f n room mi = w := isW_uniq (Classical.epsilon_spec ⟨w, h⟩) h
def nx (x : Int) : Int := (x * 1103515245 + 12345) % 2147483648
def nr (x : Int) : Nat := (x / 65536 % 8).toNat
theorem nx_rng (x : Int) : 0 ≤ nx x ∧ nx x < 2147483648 := by unfold nx; omega
theorem nr_lt (x : Int) : nr x < 8 := by unfold nr; omega
theorem nr_eq (x : Int) : x / 65536 % 8 = (nr x : Nat) := by unfold nr; omega
noncomputable def nPu (f : Nat → Int) (p : Nat) (s : (Nat → Int) × Int) : (Nat → Int) × Int :=
  if 0 ≤ cr f (s.1 (2 + p)).toNat (nr (nx s.2)) then (mGo s.1 p (nr (nx s.2)) (wF f (cr f (s.1 (2 + p)).toNat (nr (nx s.2))) (nr (nx s.2)) (s.1 0)) (s.1 1).toNat, nx s.2) else (s.1, nx s.2)
noncomputable def nPs (f : Nat → Int) (s : (Nat → Int) × Int) : Nat → (Nat → Int) × Int
  | 0 => s
  | p + 1 => nPu f p (nPs f s p)
noncomputable def nRun (f : Nat → Int) (x : Int) : Nat → (Nat → Int) × Int
  | 0 => (f, x)
  | k + 1 => (jU (nPs f (nRun f x k) 3).1 0 (min59 ((nPs f (nRun f x k) 3).1 0 + 1)), (nPs f (nRun f x k) 3).2)
theorem okSt_U {h : Nat → Int} (hok : okSt h) {j : Nat} {v : Int} (hv : stLo j ≤ v ∧ v ≤ stHi j) : okSt (jU h j v) := by
  intro k hk
  by_cases e : k = j
  · subst e; rw [jU_s]; exact hv
  · rw [jU_n e]; exact hok k hk
theorem okSt_go {h : Nat → Int} (hok : okSt h) {p room w aw : Nat} (hp : p < 3) (hr : room < 8) (hw : w < 32) (haw : aw < 32) : okSt (mGo h p room w aw) := by
  have h32 : aw ||| w < 32 := Nat.or_lt_two_pow (n := 5) haw hw
  refine okSt_U (okSt_U hok ?_) ?_
  · unfold stLo stHi
    rw [if_pos (by omega), if_neg (by omega), if_neg (by omega), if_pos (by omega)]
    omega
  · unfold stLo stHi
    rw [if_pos (by omega), if_neg (by omega), if_pos (by omega)]
    omega
theorem okSt_mi {h : Nat → Int} (hok : okSt h) {v : Int} (hv : 0 ≤ v ∧ v ≤ 59) : okSt (jU h 0 v) := by
  refine okSt_U hok ?_
  unfold stLo stHi
  rw [if_pos (by omega), if_pos (by omega)]
  exact hv
set_option maxHeartbeats 4000000 in
theorem c_mnights (X : jX) (I : jMI) (x n : Int) (q : Int → jMI → Prop) (hx : -2147483648 ≤ x ∧ x < 2147483648) (hn : -2147483648 ≤ n ∧ n < 2147483648) (hok : okSt (I 106))
    (q0 : ¬ ((0 ≤ x ∧ x ≤ 999999) ∧ (0 ≤ n ∧ n ≤ 59)) → q (-2) (mRef I 0))
    (q1 : ∀ (k : Nat) (I' : jMI), (0 ≤ x ∧ x ≤ 999999) → n = k → k ≤ 59 → mSc I I' → q (pop5 ((nRun (I 106) x k).1 1).toNat) I') : C_X12_nights X [jR 105, jI x, jI n] I q := by
  refine CG.of (by decide) [some (jR 105), some (jI x), some (jI n), none, none, none, none, none] rfl (Nat.le_of_ble_eq_true rfl) ?_
  generalize hf : I 106 = f at *
  have kbad : ¬ ((0 ≤ x ∧ x ≤ 999999) ∧ (0 ≤ n ∧ n ≤ 59)) → S_X12_nights X 19 [some (jR 105), some (jI x), some (jI n), none, none, none, none, none] [] I q := by
    intro hz
    refine j_aload_n (pc := 19) dX12_nights_19 rfl ?_
    refine j_goI (pc := 20) (j_runV k_X12_95 m_X12_bad (c_bad X I) dX12_nights_20 rfl (by decide) rfl (by decide) (by decide) rfl rfl (Nat.le_of_ble_eq_true rfl)) (fun r9 I9 h9 => ?_)
    obtain ⟨rfl, rfl⟩ := h9
    exact j_reti dX12_nights_23 (q0 hz) rfl
  have kend : (0 ≤ x ∧ x ≤ 999999) → ∀ (k : Nat), n = k → k ≤ 59 → ∀ (t : Nat) (J0 : jMI), t ≤ 5 → (∀ z, J0 106 z = if z < t then f z else if z < 5 then J0 106 z else f z) → (∀ z, z < 5 → J0 119 z = f z) → (∀ z, z ≠ 106 → (z < 110 ∨ z = 111 ∨ 119 < z) → J0 z = I z) → ∀ x3 x7, S_X12_nights X 154 [some (jR 105), some (jI x), some (jI n), some (jL x3), none, some (jI ((pop5 ((nRun f x k).1 1).toNat : Nat) : Int)), some (jI t), x7] [] J0 q := by
    intro hx9 k hk hk59
    refine mu2 (fun t _ => 5 - t) _ (fun t J0 ih ht h6 h9 hI x3 x7 => ?_)
    refine j_iload (pc := 154) dX12_nights_154 rfl ?_
    refine j_iconst (pc := 156) dX12_nights_156 ?_
    refine j_icmp_ge (pc := 157) 180 dX12_nights_157 (by decide) (by omega) (by omega) (fun h_157 => ?_) (fun h_157 => ?_)
    · refine j_iload (pc := 180) dX12_nights_180 rfl ?_
      refine j_reti dX12_nights_182 (?_) rfl
      obtain rfl : t = 5 := by omega
      refine q1 k J0 hx9 hk hk59 (fun z hz => ?_)
      by_cases hz6 : z = 106
      · subst hz6
        rw [hf]
        funext z
        rw [h6 z]
        split
        · rfl
        · rfl
      · exact hI z hz6 hz
    · refine j_aload_n (pc := 160) dX12_nights_160 rfl ?_
      refine j_getR (pc := 161) f_X12_7 dX12_nights_161 rfl rfl (by decide) rfl ?_
      refine j_iload (pc := 164) dX12_nights_164 rfl ?_
      refine j_aload_n (pc := 166) dX12_nights_166 rfl ?_
      refine j_getR (pc := 167) f_X12_55 dX12_nights_167 rfl rfl (by decide) rfl ?_
      refine j_iload (pc := 170) dX12_nights_170 rfl ?_
      refine j_iald_b (pc := 172) (t) dX12_nights_172 rfl (by decide) (by decide) (by omega) (by omega) ?_
      rw [h9 t (by omega)]
      refine j_iast_b (pc := 173) (t) dX12_nights_173 rfl (by decide) (by decide) (by omega) (by omega) ?_
      refine j_iinc6 (pc := 174) dX12_nights_174 (by decide) rfl ?_
      refine j_goto (pc := 177) 154 dX12_nights_177 (by decide) ?_
      refine ih (t + 1) _ (by omega) (by omega) (fun z => ?_) (fun z hz => ?_) (fun z h1 h2 => ?_) _ _
      · rw [jSf_s]
        by_cases hz : z = t
        · subst hz; rw [jU_s, if_pos (by omega)]
        · rw [jU_n hz, h6 z]
          repeat' split
          all_goals first | rfl | omega
      · rw [jSf_n (by decide)]; exact h9 z hz
      · rw [jSf_n h1]; exact hI z h1 h2
  have k55 : (0 ≤ x ∧ x ≤ 999999) → ∀ (N : Nat), n = N → N ≤ 59 → ∀ (i : Nat) (J0 : jMI), i ≤ N → J0 106 = (nRun f x i).1 → (0 ≤ (nRun f x i).2 ∧ (nRun f x i).2 < 2147483648) → okSt (nRun f x i).1 → (∀ z, 5 ≤ z → (nRun f x i).1 z = f z) → (∀ z, z < 5 → J0 119 z = f z) → (∀ z, z ≠ 106 → (z < 110 ∨ z = 111 ∨ 119 < z) → J0 z = I z) → ∀ x6 x7, S_X12_nights X 55 [some (jR 105), some (jI x), some (jI n), some (jL (nRun f x i).2), none, some (jI i), x6, x7] [] J0 q := by
    intro hx9 N hN hN59
    refine mu2 (fun i _ => 60 - i) _ (fun i J0 ih hi h6 hr hk h5 h9 hI x6 x7 => ?_)
    have k64 : i < N → ∀ (p : Nat) (J1 : jMI), p ≤ 3 → J1 106 = (nPs f (nRun f x i) p).1 → (0 ≤ (nPs f (nRun f x i) p).2 ∧ (nPs f (nRun f x i) p).2 < 2147483648) → okSt (nPs f (nRun f x i) p).1 → (∀ z, 5 ≤ z → (nPs f (nRun f x i) p).1 z = f z) → (∀ z, z < 5 → J1 119 z = f z) → (∀ z, z ≠ 106 → (z < 110 ∨ z = 111 ∨ 119 < z) → J1 z = I z) → ∀ x7, S_X12_nights X 64 [some (jR 105), some (jI x), some (jI n), some (jL (nPs f (nRun f x i) p).2), none, some (jI i), some (jI p), x7] [] J1 q := by
      intro hiN
      refine mu2 (fun p _ => 3 - p) _ (fun p J1 ihp hp h6 hr hk h5 h9 hI x7 => ?_)
      have hsucc : nPs f (nRun f x i) (p + 1) = nPu f p (nPs f (nRun f x i) p) := rfl
      have hfin : nRun f x (i + 1) = (jU (nPs f (nRun f x i) 3).1 0 (min59 ((nPs f (nRun f x i) 3).1 0 + 1)), (nPs f (nRun f x i) 3).2) := rfl
      generalize hs : nPs f (nRun f x i) p = s at *
      obtain ⟨h, y⟩ := s
      dsimp only at h6 hr hk h5 ⊢
      have hn1 := nx_rng y
      have hn2 := nr_lt (nx y)
      have hn3 := nr_eq (nx y)
      have hn4 : (y * 1103515245 + 12345) % 2147483648 = nx y := rfl
      have h0 := okSt_0 hk
      have hcf := cr_congr h5
      refine j_iload (pc := 64) dX12_nights_64 rfl ?_
      refine j_iconst (pc := 66) dX12_nights_66 ?_
      refine j_icmp_ge (pc := 67) 129 dX12_nights_67 (by decide) (by omega) (by omega) (fun h_67 => ?_) (fun h_67 => ?_)
      · refine j_aload_n (pc := 129) dX12_nights_129 rfl ?_
        refine j_iconst (pc := 130) dX12_nights_130 ?_
        refine j_goV (pc := 131) (j_runV k_X12_223 m_X12_passes (c_passes X J1 1 (by omega) (by rw [h6]; exact h0)) dX12_nights_131 rfl (by decide) rfl (by decide) (by decide) rfl rfl (Nat.le_of_ble_eq_true rfl)) (fun I3 h3 => ?_)
        rw [h6] at h3
        subst h3
        refine j_iinc5 (pc := 134) dX12_nights_134 (by decide) rfl ?_
        refine j_goto (pc := 137) 55 dX12_nights_137 (by decide) ?_
        obtain rfl : p = 3 := by omega
        rw [hs] at hfin
        have hy := ih (i + 1) (jSf J1 106 (jU h 0 (if h 0 + 1 > 59 then 59 else h 0 + 1))) (by omega) (by omega)
        rw [hfin] at hy
        refine hy jSf_s hr (okSt_mi hk (show 0 ≤ min59 (h 0 + 1) ∧ min59 (h 0 + 1) ≤ 59 by unfold min59; split <;> omega)) (fun z hz => ?_) (fun z hz => ?_) (fun z h1 h2 => ?_) _ _
        · dsimp only; rw [jU_n (by omega)]; exact h5 z hz
        · rw [jSf_n (by decide)]; exact h9 z hz
        · rw [jSf_n h1]; exact hI z h1 h2
      · refine j_lload_n (pc := 70) dX12_nights_70 rfl ?_
        refine j_ldc2 (pc := 71) cl_X12_277 dX12_nights_71 ?_
        refine j_lmul (pc := 74) dX12_nights_74 ?_
        refine j_ldc2 (pc := 75) cl_X12_279 dX12_nights_75 ?_
        refine j_ladd (pc := 78) dX12_nights_78 ?_
        refine j_ldc2 (pc := 79) cl_X12_281 dX12_nights_79 ?_
        refine j_lrem (pc := 82) dX12_nights_82 (by omega) (by omega) ?_
        rw [hn4]
        refine j_lstore_n3 (pc := 83) dX12_nights_83 (by decide) rfl ?_
        refine j_lload_n (pc := 84) dX12_nights_84 rfl ?_
        refine j_ldc2 (pc := 85) cl_X12_283 dX12_nights_85 ?_
        refine j_ldiv (pc := 88) dX12_nights_88 (by omega) (by omega) ?_
        refine j_ldc2 (pc := 89) cl_X12_285 dX12_nights_89 ?_
        refine j_lrem (pc := 92) dX12_nights_92 (by omega) (by omega) ?_
        rw [hn3]
        refine j_l2i (pc := 93) dX12_nights_93 ?_
        refine j_istore7 (pc := 94) dX12_nights_94 (by decide) rfl ?_
        obtain ⟨a, ha, ha8⟩ := okSt_2 hk (show p < 3 by omega)
        obtain ⟨aw, haw, haw32⟩ := okSt_1 hk
        refine j_aload_n (pc := 96) dX12_nights_96 rfl ?_
        refine j_aload_n (pc := 97) dX12_nights_97 rfl ?_
        refine j_getR (pc := 98) f_X12_7 dX12_nights_98 rfl rfl (by decide) rfl ?_
        refine j_iconst (pc := 101) dX12_nights_101 ?_
        refine j_iload (pc := 102) dX12_nights_102 rfl ?_
        refine j_iadd (pc := 104) dX12_nights_104 ?_
        refine j_iald_b (pc := 105) (2 + p) dX12_nights_105 rfl (by decide) (by decide) (by omega) (by omega) ?_
        rw [h6, ha]
        refine j_iload (pc := 106) dX12_nights_106 rfl ?_
        refine j_goI (pc := 108) (j_runV k_X12_99 m_X12_creakOf (c_creakOf X J1 a (nr (nx y)) ha8 hn2) dX12_nights_108 rfl (by decide) rfl (by decide) (by decide) rfl rfl (Nat.le_of_ble_eq_true rfl)) (fun r1 I1 h1 => ?_)
        obtain ⟨rfl, rfl⟩ := h1
        rw [h6]
        have hcr := cr_rng hk ha8 hn2
        have hpu : nPu f p (h, y) = if 0 ≤ cr f (h (2 + p)).toNat (nr (nx y)) then (mGo h p (nr (nx y)) (wF f (cr f (h (2 + p)).toNat (nr (nx y))) (nr (nx y)) (h 0)) (h 1).toNat, nx y) else (h, nx y) := rfl
        rw [ha, haw, Int.toNat_natCast, Int.toNat_natCast, ← hcf] at hpu
        refine j_if_lt (pc := 111) 123 dX12_nights_111 (by decide) (by omega) (fun h_111 => ?_) (fun h_111 => ?_)
        · refine j_iinc6 (pc := 123) dX12_nights_123 (by decide) rfl ?_
          refine j_goto (pc := 126) 64 dX12_nights_126 (by decide) ?_
          first
            | (rw [hpu] at hsucc
               have hy := ihp (p + 1) (jSf (jSf I1 110 g) 106 (mGo h p (nr (nx y)) w aw)) (by omega) (by omega)
               rw [hsucc] at hy
               refine hy jSf_s hn1 (okSt_go hk (by omega) hn2 hw.1 haw32) (fun z hz => ?_) (fun z hz => ?_) (fun z h1 h2 => ?_) _
               · show mGo h p (nr (nx y)) w aw z = f z
                 unfold mGo; rw [jU_n (by omega), jU_n (by omega)]; exact h5 z hz
               · rw [jSf_n (by decide), jSf_n (by decide)]; exact h9 z hz
               · rw [jSf_n h1, jSf_n (by omega)]; exact hI z h1 h2)
            | (rw [if_neg (by omega)] at hpu
               rw [hpu] at hsucc
               have hy := ihp (p + 1) I1 (by omega) (by omega)
               rw [hsucc] at hy
               exact hy h6 hn1 hk h5 h9 hI _)
        · refine j_aload_n (pc := 114) dX12_nights_114 rfl ?_
          refine j_iload (pc := 115) dX12_nights_115 rfl ?_
          refine j_iload (pc := 117) dX12_nights_117 rfl ?_
          refine j_goI (pc := 119) (j_runV k_X12_220 m_X12_goes (c_goes X I1 p (nr (nx y)) a aw (by omega) hn2 (by rw [h6]; exact ha) ha8 (by rw [h6]; exact haw) haw32 (by rw [h6]; omega) (by rw [h6]; exact hk)) dX12_nights_119 rfl (by decide) rfl (by decide) (by decide) rfl rfl (Nat.le_of_ble_eq_true rfl)) (fun r2 I2 h2 => ?_)
          obtain ⟨w, g, rfl, hw, rfl⟩ := h2
          rw [h6] at hw ⊢
          rw [if_pos (by omega), wF_eq (isW_congr h5 hw)] at hpu
          refine j_pop (pc := 122) dX12_nights_122 ?_
          refine j_iinc6 (pc := 123) dX12_nights_123 (by decide) rfl ?_
          refine j_goto (pc := 126) 64 dX12_nights_126 (by decide) ?_
          first
            | (rw [hpu] at hsucc
               have hy := ihp (p + 1) (jSf (jSf I1 110 g) 106 (mGo h p (nr (nx y)) w aw)) (by omega) (by omega)
               rw [hsucc] at hy
               refine hy jSf_s hn1 (okSt_go hk (by omega) hn2 hw.1 haw32) (fun z hz => ?_) (fun z hz => ?_) (fun z h1 h2 => ?_) _
               · show mGo h p (nr (nx y)) w aw z = f z
                 unfold mGo; rw [jU_n (by omega), jU_n (by omega)]; exact h5 z hz
               · rw [jSf_n (by decide), jSf_n (by decide)]; exact h9 z hz
               · rw [jSf_n h1, jSf_n (by omega)]; exact hI z h1 h2)
            | (rw [if_neg (by omega)] at hpu
               rw [hpu] at hsucc
               have hy := ihp (p + 1) I1 (by omega) (by omega)
               rw [hsucc] at hy
               exact hy h6 hn1 hk h5 h9 hI _)
    obtain ⟨aw, haw, haw32⟩ := okSt_1 hk
    refine j_iload (pc := 55) dX12_nights_55 rfl ?_
    refine j_iload_n (pc := 57) dX12_nights_57 rfl ?_
    refine j_icmp_ge (pc := 58) 140 dX12_nights_58 (by decide) (by omega) (by omega) (fun h_58 => ?_) (fun h_58 => ?_)
    · refine j_aload_n (pc := 140) dX12_nights_140 rfl ?_
      refine j_getR (pc := 141) f_X12_7 dX12_nights_141 rfl rfl (by decide) rfl ?_
      refine j_iconst (pc := 144) dX12_nights_144 ?_
      refine j_iald_b (pc := 145) (1) dX12_nights_145 rfl (by decide) (by decide) (by omega) (by omega) ?_
      rw [h6, haw]
      refine j_goI (pc := 146) (j_runS k_X12_268 m_X12_ones (c_ones X J0 aw haw32) dX12_nights_146 (by decide) rfl rfl (Nat.le_of_ble_eq_true rfl)) (fun r5 I5 h5' => ?_)
      obtain ⟨rfl, rfl⟩ := h5'
      refine j_istore5 (pc := 149) dX12_nights_149 (by decide) rfl ?_
      refine j_iconst (pc := 151) dX12_nights_151 ?_
      refine j_istore6 (pc := 152) dX12_nights_152 (by decide) rfl ?_
      obtain rfl : i = N := by omega
      have hy := kend hx9 i hN hN59 0 I5 (by omega) (fun z => by rw [if_neg (by omega)]; split
                                                                 · rfl
                                                                 · rw [h6]; exact h5 z (by omega)) h9 hI (nRun f x i).2 x7
      rw [haw, Int.toNat_natCast] at hy
      exact hy
    · refine j_iconst (pc := 61) dX12_nights_61 ?_
      refine j_istore6 (pc := 62) dX12_nights_62 (by decide) rfl ?_
      exact k64 (by omega) 0 J0 (by omega) h6 hr hk h5 h9 hI _
  have k26 : (0 ≤ x ∧ x ≤ 999999) → ∀ (N : Nat), n = N → N ≤ 59 → ∀ (t : Nat) (g : Nat → Int), t ≤ 5 → (∀ z, z < t → g z = f z) → S_X12_nights X 26 [some (jR 105), some (jI x), some (jI n), some (jI t), none, none, none, none] [] (jSf I 119 g) q := by
    intro hx9 N hN hN59
    refine mu2 (fun t _ => 5 - t) _ (fun t g ih ht hg => ?_)
    refine j_iload_n (pc := 26) dX12_nights_26 rfl ?_
    refine j_iconst (pc := 27) dX12_nights_27 ?_
    refine j_icmp_ge (pc := 28) 49 dX12_nights_28 (by decide) (by omega) (by omega) (fun h_28 => ?_) (fun h_28 => ?_)
    · refine j_iload_n (pc := 49) dX12_nights_49 rfl ?_
      refine j_i2l (pc := 50) dX12_nights_50 (by omega) ?_
      refine j_lstore_n3 (pc := 51) dX12_nights_51 (by decide) rfl ?_
      refine j_iconst (pc := 52) dX12_nights_52 ?_
      refine j_istore5 (pc := 53) dX12_nights_53 (by decide) rfl ?_
      exact k55 hx9 N hN hN59 0 (jSf I 119 g) (by omega) ((jSf_n (by decide)).trans hf) (show 0 ≤ x ∧ x < 2147483648 by omega) hok (fun z _ => rfl) (fun z hz => by rw [jSf_s]; exact hg z (by omega)) (fun z h1 h2 => jSf_n (by omega)) _ _
    · refine j_aload_n (pc := 31) dX12_nights_31 rfl ?_
      refine j_getR (pc := 32) f_X12_55 dX12_nights_32 rfl rfl (by decide) rfl ?_
      refine j_iload_n (pc := 35) dX12_nights_35 rfl ?_
      refine j_aload_n (pc := 36) dX12_nights_36 rfl ?_
      refine j_getR (pc := 37) f_X12_7 dX12_nights_37 rfl rfl (by decide) rfl ?_
      refine j_iload_n (pc := 40) dX12_nights_40 rfl ?_
      refine j_iald_c (pc := 41) (t) dX12_nights_41 rfl (by decide) (by decide) (by omega) (by omega) (by decide) ?_
      rw [hf]
      refine j_iast_a (pc := 42) (t) dX12_nights_42 rfl (by decide) (by decide) (by omega) (by omega) ?_
      refine j_iinc3 (pc := 43) dX12_nights_43 (by decide) rfl ?_
      refine j_goto (pc := 46) 26 dX12_nights_46 (by decide) ?_
      refine ih (t + 1) _ (by omega) (by omega) (fun z hz => ?_)
      by_cases e : z = t
      · subst e; rw [jU_s]
      · rw [jU_n e]; exact hg z (by omega)
  refine j_iload_n (pc := 0) dX12_nights_0 rfl ?_
  refine j_i2l (pc := 1) dX12_nights_1 (by omega) ?_
  refine j_lconst0 (pc := 2) dX12_nights_2 ?_
  refine j_ldc2 (pc := 3) cl_X12_275 dX12_nights_3 ?_
  refine j_goI (pc := 6) (j_runS k_X12_75 m_X12_in (c_in X I x 0 999999 hx (by omega) (by omega)) dX12_nights_6 (by decide) rfl rfl (Nat.le_of_ble_eq_true rfl)) (fun r1 I1 h1 => ?_)
  obtain ⟨rfl, rfl⟩ := h1
  refine j_if_eq (pc := 9) 19 dX12_nights_9 (by decide) (by omega) (fun h_9 => ?_) (fun h_9 => ?_)
  · exact kbad (by omega)
  · refine j_iload_n (pc := 12) dX12_nights_12 rfl ?_
    refine j_goI (pc := 13) (j_runS k_X12_208 m_X12_isMinute (c_isMinute X I1 n hn) dX12_nights_13 (by decide) rfl rfl (Nat.le_of_ble_eq_true rfl)) (fun r2 I2 h2 => ?_)
    obtain ⟨rfl, rfl⟩ := h2
    refine j_if_ne (pc := 16) 24 dX12_nights_16 (by decide) (by omega) (fun h_16 => ?_) (fun h_16 => ?_)
    · refine j_iconst (pc := 24) dX12_nights_24 ?_
      refine j_istore_n3 (pc := 25) dX12_nights_25 (by decide) rfl ?_
      obtain ⟨N, hN⟩ := Int.eq_ofNat_of_zero_le (show 0 ≤ n by omega)
      have hy := k26 (by omega) N hN (by omega) 0 (I2 119) (by omega) (fun z hz => by omega)
      rw [jSf_i] at hy
      exact hy
    · exact kbad (by omega)
