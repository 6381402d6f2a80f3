/-! ===== the reference: reading ===== -/
theorem c_spelt (X : jX) (I : jMI) (a b c d e f g : Int) (ha : 0 ≤ a ∧ a ≤ 127) (hb : 0 ≤ b ∧ b ≤ 127) (hc : 0 ≤ c ∧ c ≤ 127) (hd : 0 ≤ d ∧ d ≤ 127) (he : 0 ≤ e ∧ e ≤ 127) (hf : 0 ≤ f ∧ f ≤ 127) (hg : 0 ≤ g ∧ g ≤ 127) : C_X12_spelt X [jI a, jI b, jI c, jI d, jI e, jI f, jI g] I (fun r I' => r = (if f = 0 then 27 * (27 * (27 * (27 * (a - 96) + b - 96) + c - 96) + d - 96) + e - 96 else 27 * (27 * (27 * (27 * (27 * (27 * (a - 96) + b - 96) + c - 96) + d - 96) + e - 96) + f - 96) + g - 96) ∧ I' = I) := by
  refine CG.of (by decide) [some (jI a), some (jI b), some (jI c), some (jI d), some (jI e), some (jI f), some (jI g), none, none] rfl (Nat.le_of_ble_eq_true rfl) ?_
  refine j_lconst0 (pc := 0) dX12_spelt_0 ?_
  refine j_lstore7 (pc := 1) dX12_spelt_1 (by decide) rfl ?_
  refine j_ldc2 (pc := 3) cl_X12_156 dX12_spelt_3 ?_
  refine j_ldc2 (pc := 6) cl_X12_156 dX12_spelt_6 ?_
  refine j_ldc2 (pc := 9) cl_X12_156 dX12_spelt_9 ?_
  refine j_ldc2 (pc := 12) cl_X12_156 dX12_spelt_12 ?_
  refine j_iload_n (pc := 15) dX12_spelt_15 rfl ?_
  refine j_bipush (pc := 16) dX12_spelt_16 (by decide) ?_
  refine j_isub (pc := 18) dX12_spelt_18 ?_
  refine j_i2l (pc := 19) dX12_spelt_19 (by omega) ?_
  refine j_lmul (pc := 20) dX12_spelt_20 ?_
  refine j_iload_n (pc := 21) dX12_spelt_21 rfl ?_
  refine j_i2l (pc := 22) dX12_spelt_22 (by omega) ?_
  refine j_ladd (pc := 23) dX12_spelt_23 ?_
  refine j_ldc2 (pc := 24) cl_X12_158 dX12_spelt_24 ?_
  refine j_lsub (pc := 27) dX12_spelt_27 ?_
  refine j_lmul (pc := 28) dX12_spelt_28 ?_
  refine j_iload_n (pc := 29) dX12_spelt_29 rfl ?_
  refine j_i2l (pc := 30) dX12_spelt_30 (by omega) ?_
  refine j_ladd (pc := 31) dX12_spelt_31 ?_
  refine j_ldc2 (pc := 32) cl_X12_158 dX12_spelt_32 ?_
  refine j_lsub (pc := 35) dX12_spelt_35 ?_
  refine j_lmul (pc := 36) dX12_spelt_36 ?_
  refine j_iload_n (pc := 37) dX12_spelt_37 rfl ?_
  refine j_i2l (pc := 38) dX12_spelt_38 (by omega) ?_
  refine j_ladd (pc := 39) dX12_spelt_39 ?_
  refine j_ldc2 (pc := 40) cl_X12_158 dX12_spelt_40 ?_
  refine j_lsub (pc := 43) dX12_spelt_43 ?_
  refine j_lmul (pc := 44) dX12_spelt_44 ?_
  refine j_iload (pc := 45) dX12_spelt_45 rfl ?_
  refine j_i2l (pc := 47) dX12_spelt_47 (by omega) ?_
  refine j_ladd (pc := 48) dX12_spelt_48 ?_
  refine j_ldc2 (pc := 49) cl_X12_158 dX12_spelt_49 ?_
  refine j_lsub (pc := 52) dX12_spelt_52 ?_
  refine j_lstore7 (pc := 53) dX12_spelt_53 (by decide) rfl ?_
  refine j_iload (pc := 55) dX12_spelt_55 rfl ?_
  refine j_if_ne (pc := 57) 65 dX12_spelt_57 (by decide) (by omega) (fun h_57 => ?_) (fun h_57 => ?_)
  · refine j_ldc2 (pc := 65) cl_X12_156 dX12_spelt_65 ?_
    refine j_ldc2 (pc := 68) cl_X12_156 dX12_spelt_68 ?_
    refine j_lload (pc := 71) dX12_spelt_71 rfl ?_
    refine j_lmul (pc := 73) dX12_spelt_73 ?_
    refine j_iload (pc := 74) dX12_spelt_74 rfl ?_
    refine j_i2l (pc := 76) dX12_spelt_76 (by omega) ?_
    refine j_ladd (pc := 77) dX12_spelt_77 ?_
    refine j_ldc2 (pc := 78) cl_X12_158 dX12_spelt_78 ?_
    refine j_lsub (pc := 81) dX12_spelt_81 ?_
    refine j_lmul (pc := 82) dX12_spelt_82 ?_
    refine j_iload (pc := 83) dX12_spelt_83 rfl ?_
    refine j_i2l (pc := 85) dX12_spelt_85 (by omega) ?_
    refine j_ladd (pc := 86) dX12_spelt_86 ?_
    refine j_ldc2 (pc := 87) cl_X12_158 dX12_spelt_87 ?_
    refine j_lsub (pc := 90) dX12_spelt_90 ?_
    exact j_retl dX12_spelt_91 (⟨by first | rw [if_pos (by assumption)] | rw [if_neg (by assumption)], rfl⟩) rfl
  · refine j_lload (pc := 60) dX12_spelt_60 rfl ?_
    refine j_goto (pc := 62) 91 dX12_spelt_62 (by decide) ?_
    exact j_retl dX12_spelt_91 (⟨by first | rw [if_pos (by assumption)] | rw [if_neg (by assumption)], rfl⟩) rfl
theorem c_misWord (X : jX) (I : jMI) (b : Nat → Int) (n s : Nat) (C : Int) (hb : I 108 = b) (h9 : I 105 9 = s) (h7 : I 105 7 = rc (tSo b n s)) (h6 : tSo b n s = 1 → I 105 6 = (tE b n s : Nat)) (hs : s ≤ n) (hn : n ≤ 150) (hC : 0 ≤ C ∧ C ≤ 20000000000) : C_X12_isWord X [jR 105, jL C] I (fun r I' => ((r = 1 ∧ wdC b n s C) ∨ (r = 0 ∧ ¬ wdC b n s C)) ∧ I' = I) := by
  refine CG.of (by decide) [some (jR 105), some (jL C), none, none, none, none] rfl (Nat.le_of_ble_eq_true rfl) ?_
  have hE := tE_rng (b := b) hs
  have hr : rc (tSo b n s) = 1 ↔ tSo b n s = 1 := by unfold rc; repeat' split
                                                     all_goals omega
  have hr2 : 0 ≤ rc (tSo b n s) ∧ rc (tSo b n s) ≤ 10 := by unfold rc tSo; repeat' split
                                                            all_goals omega
  have key : tSo b n s = 1 → tE b n s - s ≤ 7 → ∀ (k : Nat), k ≤ tE b n s - s → S_X12_isWord X 32 [some (jR 105), some (jL C), none, some (jL (cd b s k)), none, some (jI ((s + k : Nat) : Int))] [] I (fun r I' => ((r = 1 ∧ wdC b n s C) ∨ (r = 0 ∧ ¬ wdC b n s C)) ∧ I' = I) := by
    intro ht hl
    obtain ⟨hlt, hL⟩ := wd_let ht
    have e6 := h6 ht
    refine mu1 (fun k => 7 - k) _ (fun k ih hk => ?_)
    have hcd := cd_rng (b := b) (s := s) k (by omega) (fun i hi => hL i (by omega))
    have hj := jcmp_lt (a := cd b s k) (b := C) (by omega) (by omega)
    refine j_iload (pc := 32) dX12_isWord_32 rfl ?_
    refine j_aload_n (pc := 34) dX12_isWord_34 rfl ?_
    refine j_getI (pc := 35) f_X12_133 dX12_isWord_35 rfl rfl (by decide) ?_
    rw [e6]
    refine j_icmp_ge (pc := 38) 68 dX12_isWord_38 (by decide) (by omega) (by omega) (fun h_38 => ?_) (fun h_38 => ?_)
    · refine j_lload_n (pc := 68) dX12_isWord_68 rfl ?_
      refine j_lload_n (pc := 69) dX12_isWord_69 rfl ?_
      refine j_lcmp (pc := 70) dX12_isWord_70 ?_
      rw [hj]
      refine j_if_ne (pc := 71) 78 dX12_isWord_71 (by decide) (by omega) (fun h_71 => ?_) (fun h_71 => ?_)
      · refine j_iconst (pc := 78) dX12_isWord_78 ?_
        refine j_retz dX12_isWord_79 (by omega) (?_) rfl
        obtain rfl : k = tE b n s - s := by omega
        refine ⟨?_, rfl⟩
        unfold wdC
        repeat' split at h_71
        all_goals first
          | (exfalso; omega)
          | exact Or.inl ⟨rfl, ht, hl, by omega⟩
          | exact Or.inr ⟨rfl, fun h => by omega⟩
      · refine j_iconst (pc := 74) dX12_isWord_74 ?_
        refine j_goto (pc := 75) 79 dX12_isWord_75 (by decide) ?_
        refine j_retz dX12_isWord_79 (by omega) (?_) rfl
        obtain rfl : k = tE b n s - s := by omega
        refine ⟨?_, rfl⟩
        unfold wdC
        repeat' split at h_71
        all_goals first
          | (exfalso; omega)
          | exact Or.inl ⟨rfl, ht, hl, by omega⟩
          | exact Or.inr ⟨rfl, fun h => by omega⟩
    · refine j_ldc2 (pc := 41) cl_X12_156 dX12_isWord_41 ?_
      refine j_lload_n (pc := 44) dX12_isWord_44 rfl ?_
      refine j_lmul (pc := 45) dX12_isWord_45 ?_
      refine j_aload_n (pc := 46) dX12_isWord_46 rfl ?_
      refine j_getR (pc := 47) f_X12_20 dX12_isWord_47 rfl rfl (by decide) rfl ?_
      refine j_iload (pc := 50) dX12_isWord_50 rfl ?_
      refine j_iald_b (pc := 52) (s + k) dX12_isWord_52 rfl (by decide) (by decide) (by omega) (by omega) ?_
      rw [hb]
      have hbk := hL k (by omega)
      refine j_i2l (pc := 53) dX12_isWord_53 (by omega) ?_
      refine j_ladd (pc := 54) dX12_isWord_54 ?_
      refine j_ldc2 (pc := 55) cl_X12_148 dX12_isWord_55 ?_
      refine j_lsub (pc := 58) dX12_isWord_58 ?_
      refine j_lconst1 (pc := 59) dX12_isWord_59 ?_
      refine j_ladd (pc := 60) dX12_isWord_60 ?_
      refine j_lstore_n3 (pc := 61) dX12_isWord_61 (by decide) rfl ?_
      refine j_iinc5 (pc := 62) dX12_isWord_62 (by decide) rfl ?_
      refine j_goto (pc := 65) 32 dX12_isWord_65 (by decide) ?_
      exact ih (k + 1) (by omega) (by omega)
  refine j_aload_n (pc := 0) dX12_isWord_0 rfl ?_
  refine j_getI (pc := 1) f_X12_145 dX12_isWord_1 rfl rfl (by decide) ?_
  rw [h7]
  refine j_iconst (pc := 4) dX12_isWord_4 ?_
  refine j_icmp_ne (pc := 5) 22 dX12_isWord_5 (by decide) (by omega) (by omega) (fun h_5 => ?_) (fun h_5 => ?_)
  · refine j_iconst (pc := 22) dX12_isWord_22 ?_
    refine j_retz dX12_isWord_23 (by omega) (?_) rfl
    refine ⟨Or.inr ⟨rfl, fun h => ?_⟩, rfl⟩
    unfold wdC at h
    first
      | (exact absurd (hr.mpr h.1) (by omega))
      | omega
  · refine j_aload_n (pc := 8) dX12_isWord_8 rfl ?_
    refine j_getI (pc := 9) f_X12_133 dX12_isWord_9 rfl rfl (by decide) ?_
    refine j_aload_n (pc := 12) dX12_isWord_12 rfl ?_
    refine j_getI (pc := 13) f_X12_139 dX12_isWord_13 rfl rfl (by decide) ?_
    rw [h9, h6 (hr.mp (by omega))]
    refine j_isub (pc := 16) dX12_isWord_16 ?_
    refine j_bipush (pc := 17) dX12_isWord_17 (by decide) ?_
    refine j_icmp_le (pc := 19) 24 dX12_isWord_19 (by decide) (by omega) (by omega) (fun h_19 => ?_) (fun h_19 => ?_)
    · refine j_lconst0 (pc := 24) dX12_isWord_24 ?_
      refine j_lstore_n3 (pc := 25) dX12_isWord_25 (by decide) rfl ?_
      refine j_aload_n (pc := 26) dX12_isWord_26 rfl ?_
      refine j_getI (pc := 27) f_X12_139 dX12_isWord_27 rfl rfl (by decide) ?_
      rw [h9]
      refine j_istore5 (pc := 30) dX12_isWord_30 (by decide) rfl ?_
      exact key (hr.mp (by omega)) (by omega) 0 (by omega)
    · refine j_iconst (pc := 22) dX12_isWord_22 ?_
      refine j_retz dX12_isWord_23 (by omega) (?_) rfl
      refine ⟨Or.inr ⟨rfl, fun h => ?_⟩, rfl⟩
      unfold wdC at h
      first
        | (exact absurd (hr.mpr h.1) (by omega))
        | omega
/-- what stays while the reference reads -/
def nfr (g g0 : Nat → Int) : Prop := ∀ j, j ≠ 6 → j ≠ 7 → j ≠ 8 → j ≠ 9 → g j = g0 j
theorem c_reads (X : jX) (I : jMI) (b : Nat → Int) (p n i : Nat) (most : Int) (hp : I 105 6 = p) (hn : I 105 5 = n) (hn5 : n ≤ 150) (hpn : p ≤ n) (hbb : I 108 = b) (hb : ∀ i, i < n → 0 ≤ b i ∧ b i ≤ 127) (hi : i < 5) (hm : 0 ≤ most ∧ most ≤ 100) : C_X12_reads X [jR 105, jI i, jI most] I (fun r I' => ∃ g, I' = jSf (jSf I 105 g) 109 (jU (I 109) i (g 8)) ∧ nfr g (I 105) ∧ ((r = 1 ∧ ∃ v p', pNum b n p most = .ok (v, p') ∧ g 6 = (p' : Nat) ∧ g 8 = v) ∨ (r = 0 ∧ ∃ s, pNum b n p most = .error s ∧ g 9 = (s : Nat)))) := by
  refine CG.of (by decide) [some (jR 105), some (jI i), some (jI most)] rfl (Nat.le_of_ble_eq_true rfl) ?_
  have hr : rc (tSo b n (tS b n p)) = 2 ↔ tSo b n (tS b n p) = 2 := by unfold rc; repeat' split
                                                                       all_goals omega
  have hr2 : 0 ≤ rc (tSo b n (tS b n p)) ∧ rc (tSo b n (tS b n p)) ≤ 10 := by unfold rc tSo; repeat' split
                                                                              all_goals omega
  refine j_aload_n (pc := 0) dX12_reads_0 rfl ?_
  refine j_goV (pc := 1) (j_runV k_X12_160 m_X12_nextToken (c_nextToken X I p n hp hn hn5 hpn (by rw [hbb]; exact hb)) dX12_reads_1 rfl (by decide) rfl (by decide) (by decide) rfl rfl (Nat.le_of_ble_eq_true rfl)) (fun I1 h1 => ?_)
  obtain ⟨g, rfl, h1⟩ := h1
  rw [hbb] at h1
  obtain ⟨n9, n7, n6, n8, n8r, nf⟩ := h1
  refine j_aload_n (pc := 4) dX12_reads_4 rfl ?_
  refine j_getR (pc := 5) f_X12_23 dX12_reads_5 rfl rfl (by decide) rfl ?_
  refine j_iload_n (pc := 8) dX12_reads_8 rfl ?_
  refine j_aload_n (pc := 9) dX12_reads_9 rfl ?_
  refine j_getI_a (pc := 10) f_X12_142 dX12_reads_10 rfl rfl (by decide) ?_
  refine j_iast_b (pc := 13) (i) dX12_reads_13 rfl (by decide) (by decide) (by omega) (by omega) ?_
  rw [jSf_n (by decide)]
  refine j_aload_n (pc := 14) dX12_reads_14 rfl ?_
  refine j_getI_c (pc := 15) f_X12_145 dX12_reads_15 rfl rfl (by decide) (by decide) ?_
  rw [jSf_s, n7]
  refine j_iconst (pc := 18) dX12_reads_18 ?_
  refine j_icmp_ne (pc := 19) 34 dX12_reads_19 (by decide) (by omega) (by omega) (fun h_19 => ?_) (fun h_19 => ?_)
  · refine j_iconst (pc := 34) dX12_reads_34 ?_
    refine j_retz dX12_reads_35 (by omega) (?_) rfl
    refine ⟨g, rfl, nf, ?_⟩
    unfold pNum
    first
      | (refine Or.inl ⟨rfl, ?_⟩
         have e2 := hr.mp (by omega)
         rw [if_pos ⟨e2, by rw [← n8 e2]; omega⟩]
         exact ⟨_, _, rfl, n6 (by omega), n8 e2⟩)
      | (refine Or.inr ⟨rfl, ?_⟩
         rw [if_neg (fun h => by have e2 := hr.mpr h.1; have e3 := n8 h.1; have e4 := h.2; omega)]
         exact ⟨_, rfl, n9⟩)
  · refine j_aload_n (pc := 22) dX12_reads_22 rfl ?_
    refine j_getI_c (pc := 23) f_X12_142 dX12_reads_23 rfl rfl (by decide) (by decide) ?_
    rw [jSf_s]
    refine j_iload_n (pc := 26) dX12_reads_26 rfl ?_
    refine j_icmp_gt (pc := 27) 34 dX12_reads_27 (by decide) (by omega) (by omega) (fun h_27 => ?_) (fun h_27 => ?_)
    · refine j_iconst (pc := 34) dX12_reads_34 ?_
      refine j_retz dX12_reads_35 (by omega) (?_) rfl
      refine ⟨g, rfl, nf, ?_⟩
      unfold pNum
      first
        | (refine Or.inl ⟨rfl, ?_⟩
           have e2 := hr.mp (by omega)
           rw [if_pos ⟨e2, by rw [← n8 e2]; omega⟩]
           exact ⟨_, _, rfl, n6 (by omega), n8 e2⟩)
        | (refine Or.inr ⟨rfl, ?_⟩
           rw [if_neg (fun h => by have e2 := hr.mpr h.1; have e3 := n8 h.1; have e4 := h.2; omega)]
           exact ⟨_, rfl, n9⟩)
    · refine j_iconst (pc := 30) dX12_reads_30 ?_
      refine j_goto (pc := 31) 35 dX12_reads_31 (by decide) ?_
      refine j_retz dX12_reads_35 (by omega) (?_) rfl
      refine ⟨g, rfl, nf, ?_⟩
      unfold pNum
      first
        | (refine Or.inl ⟨rfl, ?_⟩
           have e2 := hr.mp (by omega)
           rw [if_pos ⟨e2, by rw [← n8 e2]; omega⟩]
           exact ⟨_, _, rfl, n6 (by omega), n8 e2⟩)
        | (refine Or.inr ⟨rfl, ?_⟩
           rw [if_neg (fun h => by have e2 := hr.mpr h.1; have e3 := n8 h.1; have e4 := h.2; omega)]
           exact ⟨_, rfl, n9⟩)
theorem c_ends (X : jX) (I : jMI) (b : Nat → Int) (p n : Nat) (hp : I 105 6 = p) (hn : I 105 5 = n) (hn5 : n ≤ 150) (hpn : p ≤ n) (hbb : I 108 = b) (hb : ∀ i, i < n → 0 ≤ b i ∧ b i ≤ 127) : C_X12_ends X [jR 105] I (fun r I' => ∃ g, I' = jSf I 105 g ∧ nfr g (I 105) ∧ ((r = 1 ∧ ∃ p', (∀ f, pStop b n p f = .ok (p', f)) ∧ g 6 = (p' : Nat)) ∨ (r = 0 ∧ ∃ s, (∀ f, pStop b n p f = .error s) ∧ g 9 = (s : Nat)))) := by
  refine CG.of (by decide) [some (jR 105)] rfl (Nat.le_of_ble_eq_true rfl) ?_
  have hr : rc (tSo b n (tS b n p)) = 4 ↔ tSo b n (tS b n p) = 3 := by unfold rc tSo; repeat' split
                                                                       all_goals omega
  have hr2 : 0 ≤ rc (tSo b n (tS b n p)) ∧ rc (tSo b n (tS b n p)) ≤ 10 := by unfold rc tSo; repeat' split
                                                                              all_goals omega
  refine j_aload_n (pc := 0) dX12_ends_0 rfl ?_
  refine j_goV (pc := 1) (j_runV k_X12_160 m_X12_nextToken (c_nextToken X I p n hp hn hn5 hpn (by rw [hbb]; exact hb)) dX12_ends_1 rfl (by decide) rfl (by decide) (by decide) rfl rfl (Nat.le_of_ble_eq_true rfl)) (fun I1 h1 => ?_)
  obtain ⟨g, rfl, h1⟩ := h1
  rw [hbb] at h1
  obtain ⟨n9, n7, n6, n8, n8r, nf⟩ := h1
  refine j_aload_n (pc := 4) dX12_ends_4 rfl ?_
  refine j_getI_a (pc := 5) f_X12_145 dX12_ends_5 rfl rfl (by decide) ?_
  rw [n7]
  refine j_iconst (pc := 8) dX12_ends_8 ?_
  refine j_icmp_ne (pc := 9) 16 dX12_ends_9 (by decide) (by omega) (by omega) (fun h_9 => ?_) (fun h_9 => ?_)
  · refine j_iconst (pc := 16) dX12_ends_16 ?_
    refine j_retz dX12_ends_17 (by omega) (?_) rfl
    refine ⟨g, rfl, nf, ?_⟩
    unfold pStop
    first
      | (refine Or.inl ⟨rfl, _, fun f => if_pos (hr.mp (by omega)), n6 (by have := hr.mp (by omega); omega)⟩)
      | (refine Or.inr ⟨rfl, _, fun f => if_neg (fun h => by have := hr.mpr h; omega), n9⟩)
  · refine j_iconst (pc := 12) dX12_ends_12 ?_
    refine j_goto (pc := 13) 17 dX12_ends_13 (by decide) ?_
    refine j_retz dX12_ends_17 (by omega) (?_) rfl
    refine ⟨g, rfl, nf, ?_⟩
    unfold pStop
    first
      | (refine Or.inl ⟨rfl, _, fun f => if_pos (hr.mp (by omega)), n6 (by have := hr.mp (by omega); omega)⟩)
      | (refine Or.inr ⟨rfl, _, fun f => if_neg (fun h => by have := hr.mpr h; omega), n9⟩)
/-- the owners that were read are written down -/
def adF (f : Nat → Int) (t : Nat) (row : Nat → Int) : Nat → (Nat → Int)
  | 0 => f
  | c + 1 => mAddOw (adF f t row c) t c (row (c + 1))
theorem adF_27 {f : Nat → Int} {t : Nat} {row : Nat → Int} (h : f (27 + t) = 0) (ht : t < 5) : ∀ c, c ≤ 4 → adF f t row c (27 + t) = (c : Int) := by
  intro c
  cases c with
  | zero => intro _; exact h
  | succ c => intro _; show mAddOw (adF f t row c) t c (row (c + 1)) (27 + t) = _; unfold mAddOw; rw [jU_s]; omega
theorem adF_last {f : Nat → Int} {t : Nat} {row : Nat → Int} (h : f (27 + t) = 0) (ht : t < 5) {c : Nat} (hc : c ≤ 4) : lastF (adF f t row c) t = if c = 0 then -1 else row c := by
  unfold lastF
  rw [adF_27 h ht c hc]
  cases c with
  | zero => rfl
  | succ c =>
    rw [if_neg (by omega), if_neg (by omega)]
    show mAddOw (adF f t row c) t c (row (c + 1)) _ = _
    unfold mAddOw
    rw [jU_n (by omega), show 32 + 4 * t + ((c + 1 : Nat) : Int).toNat - 1 = 32 + 4 * t + c by omega, jU_s]
theorem adF_congr {f : Nat → Int} {t : Nat} {row row' : Nat → Int} : ∀ c, (∀ i, i < c → row (i + 1) = row' (i + 1)) → adF f t row c = adF f t row' c := by
  intro c
  induction c with
  | zero => intro _; rfl
  | succ c ih =>
    intro h
    show mAddOw (adF f t row c) t c (row (c + 1)) = mAddOw (adF f t row' c) t c (row' (c + 1))
    rw [ih (fun i hi => h i (by omega)), h c (by omega)]
