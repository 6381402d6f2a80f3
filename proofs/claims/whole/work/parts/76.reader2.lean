/-! ===== the class: what the tokens tell ===== -/
/-- what the reader leaves alone -/
def rtF (I I' : jMI) : Prop := (∀ z, z ≠ 78 → I' z = I z) ∧ ∀ j, j ≠ 2 → j ≠ 3 → j ≠ 4 → I' 78 j = I 78 j
theorem rtF.tr {I I1 I2 : jMI} (h : rtF I I1) (h' : rtF I1 I2) : rtF I I2 := ⟨fun z hz => (h'.1 z hz).trans (h.1 z hz), fun j a b c => (h'.2 j a b c).trans (h.2 j a b c)⟩
theorem rtA.mv {b : Nat → Int} {n : Nat} {I I' : jMI} (h : rtA b n I) (hf : rtF I I') : rtA b n I' :=
  ⟨by rw [hf.2 1 (by omega) (by omega) (by omega)]; exact h.1, h.2.1, fun i hi => by rw [hf.1 79 (by omega)]; exact h.2.2.1 i hi, h.2.2.2⟩
theorem rtF_g {I : jMI} {g : Nat → Int} (h : ∀ j, j ≠ 2 → j ≠ 3 → j ≠ 4 → g j = I 78 j) : rtF I (jSf I 78 g) := ⟨fun z hz => jSf_n hz, fun j a b c => by rw [jSf_s]; exact h j a b c⟩
theorem tSo_le (b : Nat → Int) (n s : Nat) : tSo b n s ≤ 4 := by unfold tSo; repeat' split
                                                                 all_goals omega
theorem c_stopNext (X : jX) (I : jMI) (b : Nat → Int) (n p : Nat) (hT : rtA b n I) (h3 : I 78 3 = (p : Nat)) (hp : p ≤ n) : C_X8_stopNext X [jR 78] I (fun r I' => rtF I I' ∧ I' 78 2 = (tS b n p : Nat) ∧ I' 78 3 = (tE b n (tS b n p) : Nat) ∧ I' 78 4 = (tSo b n (tS b n p) : Nat) ∧ ((r = 1 ∧ tSo b n (tS b n p) = 3) ∨ (r = 0 ∧ tSo b n (tS b n p) ≠ 3))) := by
  refine CG.of (by decide) [some (jR 78)] rfl (Nat.le_of_ble_eq_true rfl) ?_
  have hle := tSo_le b n (tS b n p)
  refine j_aload_n (pc := 0) dX8_stopNext_0 rfl ?_
  refine j_goV (pc := 1) (j_runV k_X8_27 m_X8_advance (c_advance X I b n p hT h3 hp) dX8_stopNext_1 rfl (by decide) rfl (by decide) (by decide) rfl rfl (Nat.le_of_ble_eq_true rfl)) (fun I1 h1 => ?_)
  obtain ⟨g, rfl, g2, g3, g4, gf⟩ := h1
  refine j_aload_n (pc := 4) dX8_stopNext_4 rfl ?_
  refine j_getI_a (pc := 5) f_X8_40 dX8_stopNext_5 rfl rfl (by decide) ?_
  rw [g4]
  refine j_iconst (pc := 8) dX8_stopNext_8 ?_
  refine j_icmp_ne (pc := 9) 16 dX8_stopNext_9 (by decide) (by omega) (by omega) (fun h_9 => ?_) (fun h_9 => ?_)
  · refine j_iconst (pc := 16) dX8_stopNext_16 ?_
    refine j_retz dX8_stopNext_17 (by omega) (?_) rfl
    refine ⟨rtF_g gf, by rw [jSf_s]; exact g2, by rw [jSf_s]; exact g3, by rw [jSf_s]; exact g4, ?_⟩
    first
      | exact Or.inl ⟨rfl, by omega⟩
      | exact Or.inr ⟨rfl, by omega⟩
  · refine j_iconst (pc := 12) dX8_stopNext_12 ?_
    refine j_goto (pc := 13) 17 dX8_stopNext_13 (by decide) ?_
    refine j_retz dX8_stopNext_17 (by omega) (?_) rfl
    refine ⟨rtF_g gf, by rw [jSf_s]; exact g2, by rw [jSf_s]; exact g3, by rw [jSf_s]; exact g4, ?_⟩
    first
      | exact Or.inl ⟨rfl, by omega⟩
      | exact Or.inr ⟨rfl, by omega⟩
theorem c_numNext (X : jX) (I : jMI) (b : Nat → Int) (n p : Nat) (most : Int) (hT : rtA b n I) (h3 : I 78 3 = (p : Nat)) (hp : p ≤ n) (hm : 0 ≤ most ∧ most ≤ 100) : C_X8_numberNext X [jR 78, jI most] I (fun r I' => rtF I I' ∧ I' 78 2 = (tS b n p : Nat) ∧ I' 78 3 = (tE b n (tS b n p) : Nat) ∧ I' 78 4 = (tSo b n (tS b n p) : Nat) ∧ ((∃ v p', pNum b n p most = .ok (v, p') ∧ r = v) ∨ (r = -1 ∧ ∃ s, pNum b n p most = .error s))) := by
  refine CG.of (by decide) [some (jR 78), some (jI most), none, none] rfl (Nat.le_of_ble_eq_true rfl) ?_
  have hle := tSo_le b n (tS b n p)
  have hs := tS_rng (b := b) hp
  have hE := tE_rng (b := b) hs.2
  have key : ∀ (g : Nat → Int), g 2 = (tS b n p : Nat) → g 3 = (tE b n (tS b n p) : Nat) → g 4 = (tSo b n (tS b n p) : Nat) → (∀ j, j ≠ 2 → j ≠ 3 → j ≠ 4 → g j = I 78 j) → tSo b n (tS b n p) = 2 → ∀ (x : Nat) (v : Int), tS b n p ≤ x → x ≤ tE b n (tS b n p) → vS b (tS b n p) x v → S_X8_numberNext X 21 [some (jR 78), some (jI most), some (jI v), some (jI x)] [] (jSf I 78 g) (fun r I' => rtF I I' ∧ I' 78 2 = (tS b n p : Nat) ∧ I' 78 3 = (tE b n (tS b n p) : Nat) ∧ I' 78 4 = (tSo b n (tS b n p) : Nat) ∧ ((∃ v p', pNum b n p most = .ok (v, p') ∧ r = v) ∨ (r = -1 ∧ ∃ s, pNum b n p most = .error s))) := by
    intro g g2 g3 g4 gf h2
    have hsn := tSo_lt (show tSo b n (tS b n p) ≠ 0 by omega)
    have hV := tV_rng h2
    have hdef : tSo b n (tS b n p) = if n ≤ tS b n p then 0 else if b (tS b n p) = 59 then 3 else if tS b n p < tW b n (tS b n p) then 1 else if tS b n p < tD b n (tS b n p) ∧ tD b n (tS b n p) - tS b n p ≤ 2 then 2 else 4 := rfl
    have hdeE : tE b n (tS b n p) = if n ≤ tS b n p then tS b n p else if b (tS b n p) = 59 then tS b n p + 1 else if tS b n p < tW b n (tS b n p) then tW b n (tS b n p) else tD b n (tS b n p) := rfl
    have hDD : tS b n p < tD b n (tS b n p) ∧ tD b n (tS b n p) - tS b n p ≤ 2 ∧ tE b n (tS b n p) = tD b n (tS b n p) := by
      rw [h2] at hdef
      by_cases c1 : b (tS b n p) = 59
      · rw [if_neg (by omega), if_pos c1] at hdef; omega
      · by_cases c2 : tS b n p < tW b n (tS b n p)
        · rw [if_neg (by omega), if_neg c1, if_pos c2] at hdef; omega
        · by_cases c3 : tS b n p < tD b n (tS b n p) ∧ tD b n (tS b n p) - tS b n p ≤ 2
          · exact ⟨c3.1, c3.2, by rw [hdeE, if_neg (by omega), if_neg c1, if_neg c2]⟩
          · rw [if_neg (by omega), if_neg c1, if_neg c2, if_neg c3] at hdef; omega
    refine mu2 (fun x _ => 151 - x) _ (fun x v ih hx1 hx2 hv => ?_)
    have hn := hT.2.1
    refine j_iload_n (pc := 21) dX8_numberNext_21 rfl ?_
    refine j_aload_n (pc := 22) dX8_numberNext_22 rfl ?_
    refine j_getI_a (pc := 23) f_X8_24 dX8_numberNext_23 rfl rfl (by decide) ?_
    rw [g3]
    refine j_icmp_ge (pc := 26) 50 dX8_numberNext_26 (by decide) (by omega) (by omega) (fun h_26 => ?_) (fun h_26 => ?_)
    · have hxe : x = tE b n (tS b n p) := by omega
      have hvV : v = tV b n (tS b n p) := by
        unfold vS at hv
        unfold tV
        split <;> omega
      refine j_iload_n (pc := 50) dX8_numberNext_50 rfl ?_
      refine j_iload_n (pc := 51) dX8_numberNext_51 rfl ?_
      refine j_icmp_gt (pc := 52) 59 dX8_numberNext_52 (by decide) (by omega) (by omega) (fun h_52 => ?_) (fun h_52 => ?_)
      · refine j_iconst (pc := 59) dX8_numberNext_59 ?_
        refine j_reti dX8_numberNext_60 (?_) rfl
        refine ⟨rtF_g gf, by rw [jSf_s]; exact g2, by rw [jSf_s]; exact g3, by rw [jSf_s]; exact g4, ?_⟩
        unfold pNum
        first
          | (have hguard : tV b n (tS b n p) ≤ most := by omega
             rw [if_pos ⟨h2, hguard⟩]
             exact Or.inl ⟨_, _, rfl, hvV⟩)
          | (have hguard : ¬ tV b n (tS b n p) ≤ most := by omega
             rw [if_neg (fun h => hguard h.2)]
             exact Or.inr ⟨rfl, _, rfl⟩)
      · refine j_iload_n (pc := 55) dX8_numberNext_55 rfl ?_
        refine j_goto (pc := 56) 60 dX8_numberNext_56 (by decide) ?_
        refine j_reti dX8_numberNext_60 (?_) rfl
        refine ⟨rtF_g gf, by rw [jSf_s]; exact g2, by rw [jSf_s]; exact g3, by rw [jSf_s]; exact g4, ?_⟩
        unfold pNum
        first
          | (have hguard : tV b n (tS b n p) ≤ most := by omega
             rw [if_pos ⟨h2, hguard⟩]
             exact Or.inl ⟨_, _, rfl, hvV⟩)
          | (have hguard : ¬ tV b n (tS b n p) ≤ most := by omega
             rw [if_neg (fun h => hguard h.2)]
             exact Or.inr ⟨rfl, _, rfl⟩)
    · have hb := hT.2.2.2 x (by omega)
      have hdg : 48 ≤ b x ∧ b x ≤ 57 := isDg_iff.mp (sc_all (P := isDg b) (n := n) (p := tS b n p) hx1 (by have := hDD.2.2; unfold tD at *; omega))
      refine j_iload_n (pc := 29) dX8_numberNext_29 rfl ?_
      refine j_bipush (pc := 30) dX8_numberNext_30 (by decide) ?_
      refine j_imul (pc := 32) dX8_numberNext_32 ?_
      refine j_aload_n (pc := 33) dX8_numberNext_33 rfl ?_
      refine j_getR (pc := 34) f_X8_9 dX8_numberNext_34 rfl rfl (by decide) rfl ?_
      refine j_iload_n (pc := 37) dX8_numberNext_37 rfl ?_
      refine j_bald_c (pc := 38) (x) dX8_numberNext_38 rfl (by decide) (by decide) (by omega) (by omega) (by decide) ?_
      rw [hT.2.2.1 x (by omega)]
      refine j_iadd (pc := 39) dX8_numberNext_39 ?_
      refine j_bipush (pc := 40) dX8_numberNext_40 (by decide) ?_
      refine j_isub (pc := 42) dX8_numberNext_42 ?_
      refine j_istore_n2 (pc := 43) dX8_numberNext_43 (by decide) rfl ?_
      refine j_iinc3 (pc := 44) dX8_numberNext_44 (by decide) rfl ?_
      refine j_goto (pc := 47) 21 dX8_numberNext_47 (by decide) ?_
      refine ih (x + 1) _ (by omega) (by omega) (by omega) ?_
      unfold vS at hv ⊢
      by_cases e1 : x = tS b n p
      · have e8 := hv.2.1 e1
        rw [← e1] at *
        exact ⟨by omega, by omega, fun _ => by omega, by omega⟩
      · have e2 : x = tS b n p + 1 := by omega
        have e8 := hv.2.2.1 e2
        have hd0 : 48 ≤ b (tS b n p) ∧ b (tS b n p) ≤ 57 := isDg_iff.mp (sc_all (P := isDg b) (n := n) (p := tS b n p) (Nat.le_refl _) hDD.1)
        refine ⟨by omega, by omega, by omega, fun _ => ?_⟩
        rw [← e2]; omega
  refine j_aload_n (pc := 0) dX8_numberNext_0 rfl ?_
  refine j_goV (pc := 1) (j_runV k_X8_27 m_X8_advance (c_advance X I b n p hT h3 hp) dX8_numberNext_1 rfl (by decide) rfl (by decide) (by decide) rfl rfl (Nat.le_of_ble_eq_true rfl)) (fun I1 h1 => ?_)
  obtain ⟨g, rfl, g2, g3, g4, gf⟩ := h1
  refine j_aload_n (pc := 4) dX8_numberNext_4 rfl ?_
  refine j_getI_a (pc := 5) f_X8_40 dX8_numberNext_5 rfl rfl (by decide) ?_
  rw [g4]
  refine j_iconst (pc := 8) dX8_numberNext_8 ?_
  refine j_icmp_eq (pc := 9) 14 dX8_numberNext_9 (by decide) (by omega) (by omega) (fun h_9 => ?_) (fun h_9 => ?_)
  · refine j_iconst (pc := 14) dX8_numberNext_14 ?_
    refine j_istore_n2 (pc := 15) dX8_numberNext_15 (by decide) rfl ?_
    refine j_aload_n (pc := 16) dX8_numberNext_16 rfl ?_
    refine j_getI_a (pc := 17) f_X8_47 dX8_numberNext_17 rfl rfl (by decide) ?_
    rw [g2]
    refine j_istore_n3 (pc := 20) dX8_numberNext_20 (by decide) rfl ?_
    exact key g g2 g3 g4 gf (by omega) _ 0 (Nat.le_refl _) hE.1 ⟨by omega, fun _ => rfl, by omega, by omega⟩
  · refine j_iconst (pc := 12) dX8_numberNext_12 ?_
    refine j_reti dX8_numberNext_13 (?_) rfl
    refine ⟨rtF_g gf, by rw [jSf_s]; exact g2, by rw [jSf_s]; exact g3, by rw [jSf_s]; exact g4, Or.inr ⟨rfl, ?_⟩⟩
    unfold pNum
    rw [if_neg (fun h => by have := h.1; omega)]
    exact ⟨_, rfl⟩
