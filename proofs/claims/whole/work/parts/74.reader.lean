/-! ===== the class: the reader's tokens ===== -/
/-- the reader's text is this one -/
def rtA (b : Nat → Int) (n : Nat) (I : jMI) : Prop := I 78 1 = (n : Nat) ∧ n ≤ 150 ∧ (∀ i, i < n → I 79 i = b i) ∧ ∀ i, i < n → 0 ≤ b i ∧ b i ≤ 127
theorem c_endRun (X : jX) (I : jMI) (b : Nat → Int) (n s : Nat) (lo hi : Int) (P : Nat → Bool) (hT : rtA b n I) (h2 : I 78 2 = (s : Nat)) (hs : s ≤ n) (hlo : 0 ≤ lo ∧ lo ≤ 200) (hhi : 0 ≤ hi ∧ hi ≤ 200) (hP : ∀ i, P i = true ↔ lo ≤ b i ∧ b i ≤ hi) : C_X8_endOfRun X [jR 78, jI lo, jI hi] I (fun r I' => r = (sc P n s : Nat) ∧ I' = I) := by
  refine CG.of (by decide) [some (jR 78), some (jI lo), some (jI hi), none] rfl (Nat.le_of_ble_eq_true rfl) ?_
  obtain ⟨t1, t2, t3, t4⟩ := hT
  have key : ∀ (x : Nat), x ≤ n → sc P n x = sc P n s → S_X8_endOfRun X 5 [some (jR 78), some (jI lo), some (jI hi), some (jI x)] [] I (fun r I' => r = (sc P n s : Nat) ∧ I' = I) := by
    refine mu1 (fun x => 151 - x) _ (fun x ih hx hsc => ?_)
    refine j_iload_n (pc := 5) dX8_endOfRun_5 rfl ?_
    refine j_aload_n (pc := 6) dX8_endOfRun_6 rfl ?_
    refine j_getI (pc := 7) f_X8_15 dX8_endOfRun_7 rfl rfl (by decide) ?_
    rw [t1]
    refine j_icmp_ge (pc := 10) 39 dX8_endOfRun_10 (by decide) (by omega) (by omega) (fun h_10 => ?_) (fun h_10 => ?_)
    · refine j_iload_n (pc := 39) dX8_endOfRun_39 rfl ?_
      refine j_reti dX8_endOfRun_40 (?_) rfl
      refine ⟨?_, rfl⟩
      have e : sc P n x = x := by
        refine sc_stop (fun hh => ?_)
        have := (hP x).mp hh.2
        have := hh.1
        omega
      rw [← hsc, e]
    · have hb := t4 x (by omega)
      refine j_aload_n (pc := 13) dX8_endOfRun_13 rfl ?_
      refine j_getR (pc := 14) f_X8_9 dX8_endOfRun_14 rfl rfl (by decide) rfl ?_
      refine j_iload_n (pc := 17) dX8_endOfRun_17 rfl ?_
      refine j_bald_b (pc := 18) (x) dX8_endOfRun_18 rfl (by decide) (by decide) (by omega) (by omega) ?_
      rw [t3 x (by omega)]
      refine j_iload_n (pc := 19) dX8_endOfRun_19 rfl ?_
      refine j_icmp_lt (pc := 20) 39 dX8_endOfRun_20 (by decide) (by omega) (by omega) (fun h_20 => ?_) (fun h_20 => ?_)
      · refine j_iload_n (pc := 39) dX8_endOfRun_39 rfl ?_
        refine j_reti dX8_endOfRun_40 (?_) rfl
        refine ⟨?_, rfl⟩
        have e : sc P n x = x := by
          refine sc_stop (fun hh => ?_)
          have := (hP x).mp hh.2
          have := hh.1
          omega
        rw [← hsc, e]
      · refine j_aload_n (pc := 23) dX8_endOfRun_23 rfl ?_
        refine j_getR (pc := 24) f_X8_9 dX8_endOfRun_24 rfl rfl (by decide) rfl ?_
        refine j_iload_n (pc := 27) dX8_endOfRun_27 rfl ?_
        refine j_bald_b (pc := 28) (x) dX8_endOfRun_28 rfl (by decide) (by decide) (by omega) (by omega) ?_
        rw [t3 x (by omega)]
        refine j_iload_n (pc := 29) dX8_endOfRun_29 rfl ?_
        refine j_icmp_gt (pc := 30) 39 dX8_endOfRun_30 (by decide) (by omega) (by omega) (fun h_30 => ?_) (fun h_30 => ?_)
        · refine j_iload_n (pc := 39) dX8_endOfRun_39 rfl ?_
          refine j_reti dX8_endOfRun_40 (?_) rfl
          refine ⟨?_, rfl⟩
          have e : sc P n x = x := by
            refine sc_stop (fun hh => ?_)
            have := (hP x).mp hh.2
            have := hh.1
            omega
          rw [← hsc, e]
        · refine j_iinc3 (pc := 33) dX8_endOfRun_33 (by decide) rfl ?_
          refine j_goto (pc := 36) 5 dX8_endOfRun_36 (by decide) ?_
          exact ih (x + 1) (by omega) (by omega) (by rw [← hsc]; exact (sc_step (by omega) ((hP x).mpr ⟨by omega, by omega⟩)).symm)
  refine j_aload_n (pc := 0) dX8_endOfRun_0 rfl ?_
  refine j_getI (pc := 1) f_X8_47 dX8_endOfRun_1 rfl rfl (by decide) ?_
  rw [h2]
  refine j_istore_n3 (pc := 4) dX8_endOfRun_4 (by decide) rfl ?_
  exact key s hs rfl
set_option maxHeartbeats 2000000 in
theorem c_advance (X : jX) (I : jMI) (b : Nat → Int) (n p : Nat) (hT : rtA b n I) (h3 : I 78 3 = (p : Nat)) (hp : p ≤ n) : C_X8_advance X [jR 78] I (fun I' => ∃ g, I' = jSf I 78 g ∧ g 2 = (tS b n p : Nat) ∧ g 3 = (tE b n (tS b n p) : Nat) ∧ g 4 = (tSo b n (tS b n p) : Nat) ∧ ∀ j, j ≠ 2 → j ≠ 3 → j ≠ 4 → g j = I 78 j) := by
  refine CG.of (by decide) [some (jR 78)] rfl (Nat.le_of_ble_eq_true rfl) ?_
  obtain ⟨t1, t2, t3, t4⟩ := id hT
  have hs := tS_rng (b := b) hp
  generalize hS : tS b n p = s at *
  have hW := sc_rng (P := isLt b) hs.2
  have hD := sc_rng (P := isDg b) hs.2
  have hdef : tSo b n s = if n ≤ s then 0 else if b s = 59 then 3 else if s < tW b n s then 1 else if s < tD b n s ∧ tD b n s - s ≤ 2 then 2 else 4 := rfl
  have hdeE : tE b n s = if n ≤ s then s else if b s = 59 then s + 1 else if s < tW b n s then tW b n s else tD b n s := rfl
  have k46 : ∀ g : Nat → Int, g 2 = (s : Nat) → g 1 = (n : Nat) → (∀ j, j ≠ 2 → j ≠ 3 → j ≠ 4 → g j = I 78 j) → S_X8_advance X 46 [some (jR 78)] [] (jSf I 78 g) (fun I' => ∃ g, I' = jSf I 78 g ∧ g 2 = (s : Nat) ∧ g 3 = (tE b n s : Nat) ∧ g 4 = (tSo b n s : Nat) ∧ ∀ j, j ≠ 2 → j ≠ 3 → j ≠ 4 → g j = I 78 j) := by
    intro g g2 g1 gf
    have hTT : ∀ q : Nat → Int, q 1 = (n : Nat) → rtA b n (jSf I 78 q) := fun q hq => ⟨by rw [jSf_s]; exact hq, t2, fun i hi => by rw [jSf_n (by decide)]; exact t3 i hi, t4⟩
    refine j_aload_n (pc := 46) dX8_advance_46 rfl ?_
    refine j_aload_n (pc := 47) dX8_advance_47 rfl ?_
    refine j_getI_a (pc := 48) f_X8_47 dX8_advance_48 rfl rfl (by decide) ?_
    rw [g2]
    refine j_putI_a (pc := 51) f_X8_24 dX8_advance_51 rfl rfl rfl (by decide) ?_
    refine j_aload_n (pc := 54) dX8_advance_54 rfl ?_
    refine j_getI_a (pc := 55) f_X8_47 dX8_advance_55 rfl rfl (by decide) ?_
    rw [jU_n (by omega), g2]
    refine j_aload_n (pc := 58) dX8_advance_58 rfl ?_
    refine j_getI_a (pc := 59) f_X8_15 dX8_advance_59 rfl rfl (by decide) ?_
    rw [jU_n (by omega), g1]
    refine j_icmp_lt (pc := 62) 73 dX8_advance_62 (by decide) (by omega) (by omega) (fun h_62 => ?_) (fun h_62 => ?_)
    · refine j_aload_n (pc := 73) dX8_advance_73 rfl ?_
      refine j_getR (pc := 74) f_X8_9 dX8_advance_74 rfl rfl (by decide) rfl ?_
      refine j_aload_n (pc := 77) dX8_advance_77 rfl ?_
      refine j_getI_a (pc := 78) f_X8_47 dX8_advance_78 rfl rfl (by decide) ?_
      rw [jU_n (by omega), g2]
      refine j_bald_c (pc := 81) (s) dX8_advance_81 rfl (by decide) (by decide) (by omega) (by omega) (by decide) ?_
      rw [t3 s (by omega)]
      have hbs := t4 s (by omega)
      refine j_bipush (pc := 82) dX8_advance_82 (by decide) ?_
      refine j_icmp_ne (pc := 84) 105 dX8_advance_84 (by decide) (by omega) (by omega) (fun h_84 => ?_) (fun h_84 => ?_)
      · refine j_aload_n (pc := 105) dX8_advance_105 rfl ?_
        refine j_bipush (pc := 106) dX8_advance_106 (by decide) ?_
        refine j_bipush (pc := 108) dX8_advance_108 (by decide) ?_
        refine j_goI (pc := 110) (j_runV k_X8_101 m_X8_endOfRun (c_endRun X (jSf I 78 (jU g 3 (s : Nat))) b n s 97 122 (isLt b) (hTT _ (by rw [jU_n (by omega)]; exact g1)) (by rw [jSf_s, jU_n (by omega)]; exact g2) hs.2 (by omega) (by omega) (fun i => isLt_iff)) dX8_advance_110 rfl (by decide) rfl (by decide) (by decide) rfl rfl (Nat.le_of_ble_eq_true rfl)) (fun r1 I1 h1 => ?_)
        obtain ⟨rfl, rfl⟩ := h1
        refine j_aload_n (pc := 113) dX8_advance_113 rfl ?_
        refine j_getI_a (pc := 114) f_X8_47 dX8_advance_114 rfl rfl (by decide) ?_
        rw [jU_n (by omega), g2]
        refine j_icmp_le (pc := 117) 140 dX8_advance_117 (by decide) (by omega) (by omega) (fun h_117 => ?_) (fun h_117 => ?_)
        · refine j_aload_n (pc := 140) dX8_advance_140 rfl ?_
          refine j_aload_n (pc := 141) dX8_advance_141 rfl ?_
          refine j_bipush (pc := 142) dX8_advance_142 (by decide) ?_
          refine j_bipush (pc := 144) dX8_advance_144 (by decide) ?_
          refine j_goI (pc := 146) (j_runV k_X8_101 m_X8_endOfRun (c_endRun X (jSf I 78 (jU g 3 (s : Nat))) b n s 48 57 (isDg b) (hTT _ (by rw [jU_n (by omega)]; exact g1)) (by rw [jSf_s, jU_n (by omega)]; exact g2) hs.2 (by omega) (by omega) (fun i => isDg_iff)) dX8_advance_146 rfl (by decide) rfl (by decide) (by decide) rfl rfl (Nat.le_of_ble_eq_true rfl)) (fun r3 I3 h3' => ?_)
          obtain ⟨rfl, rfl⟩ := h3'
          refine j_putI_a (pc := 149) f_X8_24 dX8_advance_149 rfl rfl rfl (by decide) ?_
          refine j_aload_n (pc := 152) dX8_advance_152 rfl ?_
          refine j_aload_n (pc := 153) dX8_advance_153 rfl ?_
          refine j_getI_a (pc := 154) f_X8_24 dX8_advance_154 rfl rfl (by decide) ?_
          rw [jU_s]
          refine j_aload_n (pc := 157) dX8_advance_157 rfl ?_
          refine j_getI_a (pc := 158) f_X8_47 dX8_advance_158 rfl rfl (by decide) ?_
          rw [jU_n (by omega), jU_n (by omega), g2]
          refine j_icmp_le (pc := 161) 181 dX8_advance_161 (by decide) (by omega) (by omega) (fun h_161 => ?_) (fun h_161 => ?_)
          · refine j_iconst (pc := 181) dX8_advance_181 ?_
            refine j_putI_a (pc := 182) f_X8_40 dX8_advance_182 rfl rfl rfl (by decide) ?_
            refine j_retv dX8_advance_185 (?_) rfl
            first
              | (have e0 : tSo b n s = 0 := by rw [hdef, if_pos (by omega)]
                 have eE : tE b n s = s := by rw [hdeE, if_pos (by omega)]
                 rw [e0, eE]
                 exact ⟨_, rfl, by rw [jU_n (by omega), jU_n (by omega)]; exact g2, by rw [jU_n (by omega), jU_s], by rw [jU_s]; rfl, fun j j1 j2 j3 => by rw [jU_n j3, jU_n j2]; exact gf j j1 j2 j3⟩)
              | (have e0 : tSo b n s = 3 := by rw [hdef, if_neg (by omega), if_pos (by omega)]
                 have eE : tE b n s = s + 1 := by rw [hdeE, if_neg (by omega), if_pos (by omega)]
                 rw [e0, eE]
                 exact ⟨_, rfl, by rw [jU_n (by omega), jU_n (by omega), jU_n (by omega)]; exact g2, by rw [jU_s]; omega, by rw [jU_n (by omega), jU_s]; rfl, fun j j1 j2 j3 => by rw [jU_n j2, jU_n j3, jU_n j2]; exact gf j j1 j2 j3⟩)
              | (have hgd : s < tW b n s := by unfold tW; omega
                 have e0 : tSo b n s = 1 := by rw [hdef, if_neg (by omega), if_neg (by omega), if_pos hgd]
                 have eE : tE b n s = tW b n s := by rw [hdeE, if_neg (by omega), if_neg (by omega), if_pos hgd]
                 rw [e0, eE]
                 exact ⟨_, rfl, by rw [jU_n (by omega), jU_n (by omega), jU_n (by omega)]; exact g2, by rw [jU_s]; rfl, by rw [jU_n (by omega), jU_s]; rfl, fun j j1 j2 j3 => by rw [jU_n j2, jU_n j3, jU_n j2]; exact gf j j1 j2 j3⟩)
              | (have hgd : ¬ s < tW b n s := by unfold tW; omega
                 have hgd2 : s < tD b n s ∧ tD b n s - s ≤ 2 := by unfold tD; omega
                 have e0 : tSo b n s = 2 := by rw [hdef, if_neg (by omega), if_neg (by omega), if_neg hgd, if_pos hgd2]
                 have eE : tE b n s = tD b n s := by rw [hdeE, if_neg (by omega), if_neg (by omega), if_neg hgd]
                 rw [e0, eE]
                 exact ⟨_, rfl, by rw [jU_n (by omega), jU_n (by omega), jU_n (by omega)]; exact g2, by rw [jU_n (by omega), jU_s]; rfl, by rw [jU_s]; rfl, fun j j1 j2 j3 => by rw [jU_n j3, jU_n j2, jU_n j2]; exact gf j j1 j2 j3⟩)
              | (have hgd : ¬ s < tW b n s := by unfold tW; omega
                 have hgd2 : ¬ (s < tD b n s ∧ tD b n s - s ≤ 2) := by unfold tD; omega
                 have e0 : tSo b n s = 4 := by rw [hdef, if_neg (by omega), if_neg (by omega), if_neg hgd, if_neg hgd2]
                 have eE : tE b n s = tD b n s := by rw [hdeE, if_neg (by omega), if_neg (by omega), if_neg hgd]
                 rw [e0, eE]
                 exact ⟨_, rfl, by rw [jU_n (by omega), jU_n (by omega), jU_n (by omega)]; exact g2, by rw [jU_n (by omega), jU_s]; rfl, by rw [jU_s]; rfl, fun j j1 j2 j3 => by rw [jU_n j3, jU_n j2, jU_n j2]; exact gf j j1 j2 j3⟩)
          · refine j_aload_n (pc := 164) dX8_advance_164 rfl ?_
            refine j_getI_a (pc := 165) f_X8_24 dX8_advance_165 rfl rfl (by decide) ?_
            rw [jU_s]
            refine j_aload_n (pc := 168) dX8_advance_168 rfl ?_
            refine j_getI_a (pc := 169) f_X8_47 dX8_advance_169 rfl rfl (by decide) ?_
            rw [jU_n (by omega), jU_n (by omega), g2]
            refine j_isub (pc := 172) dX8_advance_172 ?_
            refine j_iconst (pc := 173) dX8_advance_173 ?_
            refine j_icmp_gt (pc := 174) 181 dX8_advance_174 (by decide) (by omega) (by omega) (fun h_174 => ?_) (fun h_174 => ?_)
            · refine j_iconst (pc := 181) dX8_advance_181 ?_
              refine j_putI_a (pc := 182) f_X8_40 dX8_advance_182 rfl rfl rfl (by decide) ?_
              refine j_retv dX8_advance_185 (?_) rfl
              first
                | (have e0 : tSo b n s = 0 := by rw [hdef, if_pos (by omega)]
                   have eE : tE b n s = s := by rw [hdeE, if_pos (by omega)]
                   rw [e0, eE]
                   exact ⟨_, rfl, by rw [jU_n (by omega), jU_n (by omega)]; exact g2, by rw [jU_n (by omega), jU_s], by rw [jU_s]; rfl, fun j j1 j2 j3 => by rw [jU_n j3, jU_n j2]; exact gf j j1 j2 j3⟩)
                | (have e0 : tSo b n s = 3 := by rw [hdef, if_neg (by omega), if_pos (by omega)]
                   have eE : tE b n s = s + 1 := by rw [hdeE, if_neg (by omega), if_pos (by omega)]
                   rw [e0, eE]
                   exact ⟨_, rfl, by rw [jU_n (by omega), jU_n (by omega), jU_n (by omega)]; exact g2, by rw [jU_s]; omega, by rw [jU_n (by omega), jU_s]; rfl, fun j j1 j2 j3 => by rw [jU_n j2, jU_n j3, jU_n j2]; exact gf j j1 j2 j3⟩)
                | (have hgd : s < tW b n s := by unfold tW; omega
                   have e0 : tSo b n s = 1 := by rw [hdef, if_neg (by omega), if_neg (by omega), if_pos hgd]
                   have eE : tE b n s = tW b n s := by rw [hdeE, if_neg (by omega), if_neg (by omega), if_pos hgd]
                   rw [e0, eE]
                   exact ⟨_, rfl, by rw [jU_n (by omega), jU_n (by omega), jU_n (by omega)]; exact g2, by rw [jU_s]; rfl, by rw [jU_n (by omega), jU_s]; rfl, fun j j1 j2 j3 => by rw [jU_n j2, jU_n j3, jU_n j2]; exact gf j j1 j2 j3⟩)
                | (have hgd : ¬ s < tW b n s := by unfold tW; omega
                   have hgd2 : s < tD b n s ∧ tD b n s - s ≤ 2 := by unfold tD; omega
                   have e0 : tSo b n s = 2 := by rw [hdef, if_neg (by omega), if_neg (by omega), if_neg hgd, if_pos hgd2]
                   have eE : tE b n s = tD b n s := by rw [hdeE, if_neg (by omega), if_neg (by omega), if_neg hgd]
                   rw [e0, eE]
                   exact ⟨_, rfl, by rw [jU_n (by omega), jU_n (by omega), jU_n (by omega)]; exact g2, by rw [jU_n (by omega), jU_s]; rfl, by rw [jU_s]; rfl, fun j j1 j2 j3 => by rw [jU_n j3, jU_n j2, jU_n j2]; exact gf j j1 j2 j3⟩)
                | (have hgd : ¬ s < tW b n s := by unfold tW; omega
                   have hgd2 : ¬ (s < tD b n s ∧ tD b n s - s ≤ 2) := by unfold tD; omega
                   have e0 : tSo b n s = 4 := by rw [hdef, if_neg (by omega), if_neg (by omega), if_neg hgd, if_neg hgd2]
                   have eE : tE b n s = tD b n s := by rw [hdeE, if_neg (by omega), if_neg (by omega), if_neg hgd]
                   rw [e0, eE]
                   exact ⟨_, rfl, by rw [jU_n (by omega), jU_n (by omega), jU_n (by omega)]; exact g2, by rw [jU_n (by omega), jU_s]; rfl, by rw [jU_s]; rfl, fun j j1 j2 j3 => by rw [jU_n j3, jU_n j2, jU_n j2]; exact gf j j1 j2 j3⟩)
            · refine j_iconst (pc := 177) dX8_advance_177 ?_
              refine j_goto (pc := 178) 182 dX8_advance_178 (by decide) ?_
              refine j_putI_a (pc := 182) f_X8_40 dX8_advance_182 rfl rfl rfl (by decide) ?_
              refine j_retv dX8_advance_185 (?_) rfl
              first
                | (have e0 : tSo b n s = 0 := by rw [hdef, if_pos (by omega)]
                   have eE : tE b n s = s := by rw [hdeE, if_pos (by omega)]
                   rw [e0, eE]
                   exact ⟨_, rfl, by rw [jU_n (by omega), jU_n (by omega)]; exact g2, by rw [jU_n (by omega), jU_s], by rw [jU_s]; rfl, fun j j1 j2 j3 => by rw [jU_n j3, jU_n j2]; exact gf j j1 j2 j3⟩)
                | (have e0 : tSo b n s = 3 := by rw [hdef, if_neg (by omega), if_pos (by omega)]
                   have eE : tE b n s = s + 1 := by rw [hdeE, if_neg (by omega), if_pos (by omega)]
                   rw [e0, eE]
                   exact ⟨_, rfl, by rw [jU_n (by omega), jU_n (by omega), jU_n (by omega)]; exact g2, by rw [jU_s]; omega, by rw [jU_n (by omega), jU_s]; rfl, fun j j1 j2 j3 => by rw [jU_n j2, jU_n j3, jU_n j2]; exact gf j j1 j2 j3⟩)
                | (have hgd : s < tW b n s := by unfold tW; omega
                   have e0 : tSo b n s = 1 := by rw [hdef, if_neg (by omega), if_neg (by omega), if_pos hgd]
                   have eE : tE b n s = tW b n s := by rw [hdeE, if_neg (by omega), if_neg (by omega), if_pos hgd]
                   rw [e0, eE]
                   exact ⟨_, rfl, by rw [jU_n (by omega), jU_n (by omega), jU_n (by omega)]; exact g2, by rw [jU_s]; rfl, by rw [jU_n (by omega), jU_s]; rfl, fun j j1 j2 j3 => by rw [jU_n j2, jU_n j3, jU_n j2]; exact gf j j1 j2 j3⟩)
                | (have hgd : ¬ s < tW b n s := by unfold tW; omega
                   have hgd2 : s < tD b n s ∧ tD b n s - s ≤ 2 := by unfold tD; omega
                   have e0 : tSo b n s = 2 := by rw [hdef, if_neg (by omega), if_neg (by omega), if_neg hgd, if_pos hgd2]
                   have eE : tE b n s = tD b n s := by rw [hdeE, if_neg (by omega), if_neg (by omega), if_neg hgd]
                   rw [e0, eE]
                   exact ⟨_, rfl, by rw [jU_n (by omega), jU_n (by omega), jU_n (by omega)]; exact g2, by rw [jU_n (by omega), jU_s]; rfl, by rw [jU_s]; rfl, fun j j1 j2 j3 => by rw [jU_n j3, jU_n j2, jU_n j2]; exact gf j j1 j2 j3⟩)
                | (have hgd : ¬ s < tW b n s := by unfold tW; omega
                   have hgd2 : ¬ (s < tD b n s ∧ tD b n s - s ≤ 2) := by unfold tD; omega
                   have e0 : tSo b n s = 4 := by rw [hdef, if_neg (by omega), if_neg (by omega), if_neg hgd, if_neg hgd2]
                   have eE : tE b n s = tD b n s := by rw [hdeE, if_neg (by omega), if_neg (by omega), if_neg hgd]
                   rw [e0, eE]
                   exact ⟨_, rfl, by rw [jU_n (by omega), jU_n (by omega), jU_n (by omega)]; exact g2, by rw [jU_n (by omega), jU_s]; rfl, by rw [jU_s]; rfl, fun j j1 j2 j3 => by rw [jU_n j3, jU_n j2, jU_n j2]; exact gf j j1 j2 j3⟩)
        · refine j_aload_n (pc := 120) dX8_advance_120 rfl ?_
          refine j_iconst (pc := 121) dX8_advance_121 ?_
          refine j_putI_a (pc := 122) f_X8_40 dX8_advance_122 rfl rfl rfl (by decide) ?_
          refine j_aload_n (pc := 125) dX8_advance_125 rfl ?_
          refine j_aload_n (pc := 126) dX8_advance_126 rfl ?_
          refine j_bipush (pc := 127) dX8_advance_127 (by decide) ?_
          refine j_bipush (pc := 129) dX8_advance_129 (by decide) ?_
          refine j_goI (pc := 131) (j_runV k_X8_101 m_X8_endOfRun (c_endRun X (jSf I 78 (jU (jU g 3 (s : Nat)) 4 1)) b n s 97 122 (isLt b) (hTT _ (by rw [jU_n (by omega), jU_n (by omega)]; exact g1)) (by rw [jSf_s, jU_n (by omega), jU_n (by omega)]; exact g2) hs.2 (by omega) (by omega) (fun i => isLt_iff)) dX8_advance_131 rfl (by decide) rfl (by decide) (by decide) rfl rfl (Nat.le_of_ble_eq_true rfl)) (fun r2 I2 h2 => ?_)
          obtain ⟨rfl, rfl⟩ := h2
          refine j_putI_a (pc := 134) f_X8_24 dX8_advance_134 rfl rfl rfl (by decide) ?_
          refine j_goto (pc := 137) 185 dX8_advance_137 (by decide) ?_
          refine j_retv dX8_advance_185 (?_) rfl
          first
            | (have e0 : tSo b n s = 0 := by rw [hdef, if_pos (by omega)]
               have eE : tE b n s = s := by rw [hdeE, if_pos (by omega)]
               rw [e0, eE]
               exact ⟨_, rfl, by rw [jU_n (by omega), jU_n (by omega)]; exact g2, by rw [jU_n (by omega), jU_s], by rw [jU_s]; rfl, fun j j1 j2 j3 => by rw [jU_n j3, jU_n j2]; exact gf j j1 j2 j3⟩)
            | (have e0 : tSo b n s = 3 := by rw [hdef, if_neg (by omega), if_pos (by omega)]
               have eE : tE b n s = s + 1 := by rw [hdeE, if_neg (by omega), if_pos (by omega)]
               rw [e0, eE]
               exact ⟨_, rfl, by rw [jU_n (by omega), jU_n (by omega), jU_n (by omega)]; exact g2, by rw [jU_s]; omega, by rw [jU_n (by omega), jU_s]; rfl, fun j j1 j2 j3 => by rw [jU_n j2, jU_n j3, jU_n j2]; exact gf j j1 j2 j3⟩)
            | (have hgd : s < tW b n s := by unfold tW; omega
               have e0 : tSo b n s = 1 := by rw [hdef, if_neg (by omega), if_neg (by omega), if_pos hgd]
               have eE : tE b n s = tW b n s := by rw [hdeE, if_neg (by omega), if_neg (by omega), if_pos hgd]
               rw [e0, eE]
               exact ⟨_, rfl, by rw [jU_n (by omega), jU_n (by omega), jU_n (by omega)]; exact g2, by rw [jU_s]; rfl, by rw [jU_n (by omega), jU_s]; rfl, fun j j1 j2 j3 => by rw [jU_n j2, jU_n j3, jU_n j2]; exact gf j j1 j2 j3⟩)
            | (have hgd : ¬ s < tW b n s := by unfold tW; omega
               have hgd2 : s < tD b n s ∧ tD b n s - s ≤ 2 := by unfold tD; omega
               have e0 : tSo b n s = 2 := by rw [hdef, if_neg (by omega), if_neg (by omega), if_neg hgd, if_pos hgd2]
               have eE : tE b n s = tD b n s := by rw [hdeE, if_neg (by omega), if_neg (by omega), if_neg hgd]
               rw [e0, eE]
               exact ⟨_, rfl, by rw [jU_n (by omega), jU_n (by omega), jU_n (by omega)]; exact g2, by rw [jU_n (by omega), jU_s]; rfl, by rw [jU_s]; rfl, fun j j1 j2 j3 => by rw [jU_n j3, jU_n j2, jU_n j2]; exact gf j j1 j2 j3⟩)
            | (have hgd : ¬ s < tW b n s := by unfold tW; omega
               have hgd2 : ¬ (s < tD b n s ∧ tD b n s - s ≤ 2) := by unfold tD; omega
               have e0 : tSo b n s = 4 := by rw [hdef, if_neg (by omega), if_neg (by omega), if_neg hgd, if_neg hgd2]
               have eE : tE b n s = tD b n s := by rw [hdeE, if_neg (by omega), if_neg (by omega), if_neg hgd]
               rw [e0, eE]
               exact ⟨_, rfl, by rw [jU_n (by omega), jU_n (by omega), jU_n (by omega)]; exact g2, by rw [jU_n (by omega), jU_s]; rfl, by rw [jU_s]; rfl, fun j j1 j2 j3 => by rw [jU_n j3, jU_n j2, jU_n j2]; exact gf j j1 j2 j3⟩)
      · refine j_aload_n (pc := 87) dX8_advance_87 rfl ?_
        refine j_iconst (pc := 88) dX8_advance_88 ?_
        refine j_putI_a (pc := 89) f_X8_40 dX8_advance_89 rfl rfl rfl (by decide) ?_
        refine j_aload_n (pc := 92) dX8_advance_92 rfl ?_
        refine j_dupR (pc := 93) dX8_advance_93 ?_
        refine j_getI_a (pc := 94) f_X8_24 dX8_advance_94 rfl rfl (by decide) ?_
        rw [jU_n (by omega), jU_s]
        refine j_iconst (pc := 97) dX8_advance_97 ?_
        refine j_iadd (pc := 98) dX8_advance_98 ?_
        refine j_putI_a (pc := 99) f_X8_24 dX8_advance_99 rfl rfl rfl (by decide) ?_
        refine j_goto (pc := 102) 185 dX8_advance_102 (by decide) ?_
        refine j_retv dX8_advance_185 (?_) rfl
        first
          | (have e0 : tSo b n s = 0 := by rw [hdef, if_pos (by omega)]
             have eE : tE b n s = s := by rw [hdeE, if_pos (by omega)]
             rw [e0, eE]
             exact ⟨_, rfl, by rw [jU_n (by omega), jU_n (by omega)]; exact g2, by rw [jU_n (by omega), jU_s], by rw [jU_s]; rfl, fun j j1 j2 j3 => by rw [jU_n j3, jU_n j2]; exact gf j j1 j2 j3⟩)
          | (have e0 : tSo b n s = 3 := by rw [hdef, if_neg (by omega), if_pos (by omega)]
             have eE : tE b n s = s + 1 := by rw [hdeE, if_neg (by omega), if_pos (by omega)]
             rw [e0, eE]
             exact ⟨_, rfl, by rw [jU_n (by omega), jU_n (by omega), jU_n (by omega)]; exact g2, by rw [jU_s]; omega, by rw [jU_n (by omega), jU_s]; rfl, fun j j1 j2 j3 => by rw [jU_n j2, jU_n j3, jU_n j2]; exact gf j j1 j2 j3⟩)
          | (have hgd : s < tW b n s := by unfold tW; omega
             have e0 : tSo b n s = 1 := by rw [hdef, if_neg (by omega), if_neg (by omega), if_pos hgd]
             have eE : tE b n s = tW b n s := by rw [hdeE, if_neg (by omega), if_neg (by omega), if_pos hgd]
             rw [e0, eE]
             exact ⟨_, rfl, by rw [jU_n (by omega), jU_n (by omega), jU_n (by omega)]; exact g2, by rw [jU_s]; rfl, by rw [jU_n (by omega), jU_s]; rfl, fun j j1 j2 j3 => by rw [jU_n j2, jU_n j3, jU_n j2]; exact gf j j1 j2 j3⟩)
          | (have hgd : ¬ s < tW b n s := by unfold tW; omega
             have hgd2 : s < tD b n s ∧ tD b n s - s ≤ 2 := by unfold tD; omega
             have e0 : tSo b n s = 2 := by rw [hdef, if_neg (by omega), if_neg (by omega), if_neg hgd, if_pos hgd2]
             have eE : tE b n s = tD b n s := by rw [hdeE, if_neg (by omega), if_neg (by omega), if_neg hgd]
             rw [e0, eE]
             exact ⟨_, rfl, by rw [jU_n (by omega), jU_n (by omega), jU_n (by omega)]; exact g2, by rw [jU_n (by omega), jU_s]; rfl, by rw [jU_s]; rfl, fun j j1 j2 j3 => by rw [jU_n j3, jU_n j2, jU_n j2]; exact gf j j1 j2 j3⟩)
          | (have hgd : ¬ s < tW b n s := by unfold tW; omega
             have hgd2 : ¬ (s < tD b n s ∧ tD b n s - s ≤ 2) := by unfold tD; omega
             have e0 : tSo b n s = 4 := by rw [hdef, if_neg (by omega), if_neg (by omega), if_neg hgd, if_neg hgd2]
             have eE : tE b n s = tD b n s := by rw [hdeE, if_neg (by omega), if_neg (by omega), if_neg hgd]
             rw [e0, eE]
             exact ⟨_, rfl, by rw [jU_n (by omega), jU_n (by omega), jU_n (by omega)]; exact g2, by rw [jU_n (by omega), jU_s]; rfl, by rw [jU_s]; rfl, fun j j1 j2 j3 => by rw [jU_n j3, jU_n j2, jU_n j2]; exact gf j j1 j2 j3⟩)
    · refine j_aload_n (pc := 65) dX8_advance_65 rfl ?_
      refine j_iconst (pc := 66) dX8_advance_66 ?_
      refine j_putI_a (pc := 67) f_X8_40 dX8_advance_67 rfl rfl rfl (by decide) ?_
      refine j_goto (pc := 70) 185 dX8_advance_70 (by decide) ?_
      refine j_retv dX8_advance_185 (?_) rfl
      first
        | (have e0 : tSo b n s = 0 := by rw [hdef, if_pos (by omega)]
           have eE : tE b n s = s := by rw [hdeE, if_pos (by omega)]
           rw [e0, eE]
           exact ⟨_, rfl, by rw [jU_n (by omega), jU_n (by omega)]; exact g2, by rw [jU_n (by omega), jU_s], by rw [jU_s]; rfl, fun j j1 j2 j3 => by rw [jU_n j3, jU_n j2]; exact gf j j1 j2 j3⟩)
        | (have e0 : tSo b n s = 3 := by rw [hdef, if_neg (by omega), if_pos (by omega)]
           have eE : tE b n s = s + 1 := by rw [hdeE, if_neg (by omega), if_pos (by omega)]
           rw [e0, eE]
           exact ⟨_, rfl, by rw [jU_n (by omega), jU_n (by omega), jU_n (by omega)]; exact g2, by rw [jU_s]; omega, by rw [jU_n (by omega), jU_s]; rfl, fun j j1 j2 j3 => by rw [jU_n j2, jU_n j3, jU_n j2]; exact gf j j1 j2 j3⟩)
        | (have hgd : s < tW b n s := by unfold tW; omega
           have e0 : tSo b n s = 1 := by rw [hdef, if_neg (by omega), if_neg (by omega), if_pos hgd]
           have eE : tE b n s = tW b n s := by rw [hdeE, if_neg (by omega), if_neg (by omega), if_pos hgd]
           rw [e0, eE]
           exact ⟨_, rfl, by rw [jU_n (by omega), jU_n (by omega), jU_n (by omega)]; exact g2, by rw [jU_s]; rfl, by rw [jU_n (by omega), jU_s]; rfl, fun j j1 j2 j3 => by rw [jU_n j2, jU_n j3, jU_n j2]; exact gf j j1 j2 j3⟩)
        | (have hgd : ¬ s < tW b n s := by unfold tW; omega
           have hgd2 : s < tD b n s ∧ tD b n s - s ≤ 2 := by unfold tD; omega
           have e0 : tSo b n s = 2 := by rw [hdef, if_neg (by omega), if_neg (by omega), if_neg hgd, if_pos hgd2]
           have eE : tE b n s = tD b n s := by rw [hdeE, if_neg (by omega), if_neg (by omega), if_neg hgd]
           rw [e0, eE]
           exact ⟨_, rfl, by rw [jU_n (by omega), jU_n (by omega), jU_n (by omega)]; exact g2, by rw [jU_n (by omega), jU_s]; rfl, by rw [jU_s]; rfl, fun j j1 j2 j3 => by rw [jU_n j3, jU_n j2, jU_n j2]; exact gf j j1 j2 j3⟩)
        | (have hgd : ¬ s < tW b n s := by unfold tW; omega
           have hgd2 : ¬ (s < tD b n s ∧ tD b n s - s ≤ 2) := by unfold tD; omega
           have e0 : tSo b n s = 4 := by rw [hdef, if_neg (by omega), if_neg (by omega), if_neg hgd, if_neg hgd2]
           have eE : tE b n s = tD b n s := by rw [hdeE, if_neg (by omega), if_neg (by omega), if_neg hgd]
           rw [e0, eE]
           exact ⟨_, rfl, by rw [jU_n (by omega), jU_n (by omega), jU_n (by omega)]; exact g2, by rw [jU_n (by omega), jU_s]; rfl, by rw [jU_s]; rfl, fun j j1 j2 j3 => by rw [jU_n j3, jU_n j2, jU_n j2]; exact gf j j1 j2 j3⟩)
  have k8 : ∀ (x : Nat) (g : Nat → Int), x ≤ n → sc (isSp b) n x = s → g 2 = (x : Nat) → (∀ j, j ≠ 2 → j ≠ 3 → j ≠ 4 → g j = I 78 j) → S_X8_advance X 8 [some (jR 78)] [] (jSf I 78 g) (fun I' => ∃ g, I' = jSf I 78 g ∧ g 2 = (s : Nat) ∧ g 3 = (tE b n s : Nat) ∧ g 4 = (tSo b n s : Nat) ∧ ∀ j, j ≠ 2 → j ≠ 3 → j ≠ 4 → g j = I 78 j) := by
    refine mu2 (fun x _ => 151 - x) _ (fun x g ih hx hsc g2 gf => ?_)
    have g1 : g 1 = (n : Nat) := (gf 1 (by omega) (by omega) (by omega)).trans t1
    refine j_aload_n (pc := 8) dX8_advance_8 rfl ?_
    refine j_getI_a (pc := 9) f_X8_47 dX8_advance_9 rfl rfl (by decide) ?_
    rw [g2]
    refine j_aload_n (pc := 12) dX8_advance_12 rfl ?_
    refine j_getI_a (pc := 13) f_X8_15 dX8_advance_13 rfl rfl (by decide) ?_
    rw [g1]
    refine j_icmp_ge (pc := 16) 46 dX8_advance_16 (by decide) (by omega) (by omega) (fun h_16 => ?_) (fun h_16 => ?_)
    · have e : sc (isSp b) n x = x := by
        refine sc_stop (fun hh => ?_)
        have := isSp_iff.mp hh.2
        have := hh.1
        omega
      exact k46 g (by rw [g2]; omega) g1 gf
    · refine j_aload_n (pc := 19) dX8_advance_19 rfl ?_
      refine j_getR (pc := 20) f_X8_9 dX8_advance_20 rfl rfl (by decide) rfl ?_
      refine j_aload_n (pc := 23) dX8_advance_23 rfl ?_
      refine j_getI_a (pc := 24) f_X8_47 dX8_advance_24 rfl rfl (by decide) ?_
      rw [g2]
      have hbx := t4 x (by omega)
      refine j_bald_c (pc := 27) (x) dX8_advance_27 rfl (by decide) (by decide) (by omega) (by omega) (by decide) ?_
      rw [t3 x (by omega)]
      refine j_bipush (pc := 28) dX8_advance_28 (by decide) ?_
      refine j_icmp_ne (pc := 30) 46 dX8_advance_30 (by decide) (by omega) (by omega) (fun h_30 => ?_) (fun h_30 => ?_)
      · have e : sc (isSp b) n x = x := by
          refine sc_stop (fun hh => ?_)
          have := isSp_iff.mp hh.2
          have := hh.1
          omega
        exact k46 g (by rw [g2]; omega) g1 gf
      · refine j_aload_n (pc := 33) dX8_advance_33 rfl ?_
        refine j_dupR (pc := 34) dX8_advance_34 ?_
        refine j_getI_a (pc := 35) f_X8_47 dX8_advance_35 rfl rfl (by decide) ?_
        rw [g2]
        refine j_iconst (pc := 38) dX8_advance_38 ?_
        refine j_iadd (pc := 39) dX8_advance_39 ?_
        refine j_putI_a (pc := 40) f_X8_47 dX8_advance_40 rfl rfl rfl (by decide) ?_
        refine j_goto (pc := 43) 8 dX8_advance_43 (by decide) ?_
        refine ih (x + 1) _ (by omega) (by omega) ?_ ?_ (fun j j1 j2 j3 => by rw [jU_n j1]; exact gf j j1 j2 j3)
        · rw [← hsc]; exact (sc_step (by omega) (isSp_iff.mpr (by omega))).symm
        · rw [jU_s]; omega
  refine j_aload_n (pc := 0) dX8_advance_0 rfl ?_
  refine j_aload_n (pc := 1) dX8_advance_1 rfl ?_
  refine j_getI (pc := 2) f_X8_24 dX8_advance_2 rfl rfl (by decide) ?_
  rw [h3]
  refine j_putI_b (pc := 5) f_X8_47 dX8_advance_5 rfl rfl rfl (by decide) ?_
  exact k8 p _ hp hS jU_s (fun j j1 j2 j3 => jU_n j1)
