/-! ===== the class: a whole text ===== -/
theorem c_empty80 (X : jX) (I : jMI) : C_X2_empty X [jR 80] I (emQ I 80) := g_empty80 X RF 124 I rfl (by omega)
def raQ (b : Nat → Int) (n : Nat) (f : Nat → Int) (I : jMI) (r : Int) (I' : jMI) : Prop := rdF I I' ∧ ((∃ (c : Nat) (f' : Nat → Int), pAll b n f = .ok (c, f') ∧ r = (c : Nat) ∧ hR f' I' 80 ∧ okSt f') ∨ (∃ s : Nat, pAll b n f = .error s ∧ r = -10 - (s : Nat) ∧ s ≤ n))
set_option maxHeartbeats 1000000 in
theorem c_rdInto (X : jX) (I : jMI) (b : Nat → Int) (n : Nat) (f : Nat → Int) (hT : rtA b n I) (hf : isE f) (hok : okSt f) : C_X8_readInto X [jR 78, jR 80] I (raQ b n f I) := by
  refine CG.of (by decide) [some (jR 78), some (jR 80), none, none, none] rfl (Nat.le_of_ble_eq_true rfl) ?_
  have hn := hT.2.1
  have kE40 : ∀ (it j : Int) (s : Nat) (I' : jMI), pAll b n f = .error s → I' 78 2 = (s : Nat) → s ≤ n → rdF I I' → S_X8_readInto X 40 [some (jR 78), some (jR 80), some (jI it), some (jI 0), some (jI j)] [] I' (raQ b n f I) := by
    intro it j s I' he h2 hs hfr
    refine j_iload_n (pc := 40) dX8_readInto_40 rfl ?_
    refine j_if_eq (pc := 41) 80 dX8_readInto_41 (by decide) (by omega) (fun h_41 => ?_) (fun h_41 => ?_)
    · refine j_bipush (pc := 80) dX8_readInto_80 (by decide) ?_
      refine j_aload_n (pc := 82) dX8_readInto_82 rfl ?_
      refine j_getI (pc := 83) f_X8_47 dX8_readInto_83 rfl rfl (by decide) ?_
      rw [h2]
      refine j_isub (pc := 86) dX8_readInto_86 ?_
      exact j_reti dX8_readInto_87 (⟨hfr, Or.inr ⟨s, he, rfl, hs⟩⟩) rfl
    · omega
  have key : ∀ (j p : Nat) (f1 : Nat → Int) (I1 : jMI), j + 6 ≤ p → p ≤ n → rtA b n I1 → rdF I I1 → hR f1 I1 80 → okSt f1 → I1 78 3 = (p : Nat) → pAll b n f = pRest b n (145 - j) (j + 1) p f1 → S_X8_readInto X 40 [some (jR 78), some (jR 80), some (jI j), some (jI 1), some (jI j)] [] I1 (raQ b n f I) := by
    refine mu1 (fun j => 150 - j) _ (fun j ih p f1 I1 hjp hp hT1 hfr hH hok1 h3 he => ?_)
    have hs := tS_rng (b := b) hp
    have hso := tSo_le b n (tS b n p)
    have hfu : 145 - j = (144 - j) + 1 := by omega
    refine j_iload_n (pc := 40) dX8_readInto_40 rfl ?_
    refine j_if_eq (pc := 41) 80 dX8_readInto_41 (by decide) (by omega) (fun h_41 => ?_) (fun h_41 => ?_)
    · omega
    · refine j_iload (pc := 44) dX8_readInto_44 rfl ?_
      refine j_sipush (pc := 46) dX8_readInto_46 (by decide) ?_
      refine j_icmp_ge (pc := 49) 80 dX8_readInto_49 (by decide) (by omega) (by omega) (fun h_49 => ?_) (fun h_49 => ?_)
      · omega
      · refine j_iinc2 (pc := 52) dX8_readInto_52 (by decide) rfl ?_
        refine j_aload_n (pc := 55) dX8_readInto_55 rfl ?_
        refine j_goV (pc := 56) (j_runV k_X8_27 m_X8_advance (c_advance X I1 b n p hT1 h3 hp) dX8_readInto_56 rfl (by decide) rfl (by decide) (by decide) rfl rfl (Nat.le_of_ble_eq_true rfl)) (fun I2 h2 => ?_)
        obtain ⟨g, e2, g2, g3, g4, gf⟩ := h2
        have hrt : rtF I1 I2 := by rw [e2]; exact rtF_g gf
        have g2' : I2 78 2 = (tS b n p : Nat) := by rw [e2, jSf_s]; exact g2
        have g3' : I2 78 3 = (tE b n (tS b n p) : Nat) := by rw [e2, jSf_s]; exact g3
        have g4' : I2 78 4 = (tSo b n (tS b n p) : Nat) := by rw [e2, jSf_s]; exact g4
        refine j_aload_n (pc := 59) dX8_readInto_59 rfl ?_
        refine j_getI (pc := 60) f_X8_40 dX8_readInto_60 rfl rfl (by decide) ?_
        rw [g4']
        refine j_if_ne (pc := 63) 68 dX8_readInto_63 (by decide) (by omega) (fun h_63 => ?_) (fun h_63 => ?_)
        · refine j_aload_n (pc := 68) dX8_readInto_68 rfl ?_
          refine j_aload_n (pc := 69) dX8_readInto_69 rfl ?_
          refine j_goI (pc := 70) (j_runV k_X8_43 m_X8_readItem (c_rdItem X I2 b n (tS b n p) f1 (hT1.mv hrt) g2' g3' g4' hs.2 (hR_rt hH hrt) hok1) dX8_readInto_70 rfl (by decide) rfl (by decide) (by decide) rfl rfl (Nat.le_of_ble_eq_true rfl)) (fun r3 I3 h5 => ?_)
          obtain ⟨h51, h52⟩ := h5
          refine j_istore_n3 (pc := 73) dX8_readInto_73 (by decide) rfl ?_
          refine j_iinc4 (pc := 74) dX8_readInto_74 (by decide) rfl ?_
          refine j_goto (pc := 77) 40 dX8_readInto_77 (by decide) ?_
          rcases h52 with ⟨h53, ⟨rfl, p', f', q1, q2, q3, q4, q5⟩ | ⟨rfl, s, q1, q2, q3⟩⟩
          · have hit := pItem_ok hs.2 hok1 q1
            have e8 : ((j : Int) + 1) = ((j + 1 : Nat) : Int) := by omega
            rw [e8]
            exact ih (j + 1) (by omega) p' f' I3 (by omega) q5 ((hT1.mv hrt).rd h53) ((hfr.tr hrt.rd).tr h53) q2 q3 q4 (by rw [he, hfu, pRest_s (by omega) q1, show 145 - (j + 1) = 144 - j by omega])
          · exact kE40 _ _ s I3 (by rw [he, hfu, pRest_e (by omega) q1]) q2 q3 ((hfr.tr hrt.rd).tr h53)
        · refine j_iload_n (pc := 66) dX8_readInto_66 rfl ?_
          refine j_reti dX8_readInto_67 (?_) rfl
          refine ⟨hfr.tr hrt.rd, Or.inl ⟨j + 1, f1, ?_, by omega, hR_rt hH hrt, hok1⟩⟩
          rw [he, hfu, pRest_0 (by omega)]
  have hs := tS_rng (b := b) (n := n) (p := 0) (by omega)
  have hE := tE_rng (b := b) hs.2
  refine j_aload_n (pc := 0) dX8_readInto_0 rfl ?_
  refine j_goV (pc := 1) (j_runV k_X8_19 m_X2_empty (c_empty80 X I) dX8_readInto_1 rfl (by decide) rfl (by decide) (by decide) rfl rfl (Nat.le_of_ble_eq_true rfl)) (fun I1 h1 => ?_)
  obtain ⟨m1, m2, m3⟩ := h1
  have hf1 : rdF I I1 := rdF.of (fun z hz hz2 => m1 z hz (by omega) (by omega))
  have hT1 := hT.rd hf1
  refine j_aload_n (pc := 4) dX8_readInto_4 rfl ?_
  refine j_iconst (pc := 5) dX8_readInto_5 ?_
  refine j_putI_b (pc := 6) f_X8_24 dX8_readInto_6 rfl rfl rfl (by decide) ?_
  have hrt0 : rtF I1 (jSf I1 78 (jU (I1 78) 3 0)) := rtF_g (fun j a1 a2 a3 => jU_n a2)
  refine j_iconst (pc := 9) dX8_readInto_9 ?_
  refine j_istore_n2 (pc := 10) dX8_readInto_10 (by decide) rfl ?_
  refine j_aload_n (pc := 11) dX8_readInto_11 rfl ?_
  refine j_goV (pc := 12) (j_runV k_X8_27 m_X8_advance (c_advance X _ b n 0 (hT1.mv hrt0) (by rw [jSf_s, jU_s]; rfl) (by omega)) dX8_readInto_12 rfl (by decide) rfl (by decide) (by decide) rfl rfl (Nat.le_of_ble_eq_true rfl)) (fun I2 h2 => ?_)
  obtain ⟨g, e2, g2, g3, g4, gf⟩ := h2
  have hrt : rtF (jSf I1 78 (jU (I1 78) 3 0)) I2 := by rw [e2]; exact rtF_g gf
  have g2' : I2 78 2 = (tS b n 0 : Nat) := by rw [e2, jSf_s]; exact g2
  have g3' : I2 78 3 = (tE b n (tS b n 0) : Nat) := by rw [e2, jSf_s]; exact g3
  have g4' : I2 78 4 = (tSo b n (tS b n 0) : Nat) := by rw [e2, jSf_s]; exact g4
  have hfr2 : rdF I I2 := (hf1.tr hrt0.rd).tr hrt.rd
  have hT2 := hT.rd hfr2
  have hH2 : hR f I2 80 := hR_rt (hR_rt (m3 f hf) hrt0) hrt
  refine j_aload_n (pc := 15) dX8_readInto_15 rfl ?_
  refine j_ldcS (pc := 16) (i := 0) (by omega) rfl (fun U hU => hU.2.2.2.2.2.1.1) dX8_readInto_16 ?_
  refine j_goI (pc := 18) (j_runV k_X8_32 m_X8_isWord (c_isWord X I2 b n (tS b n 0) 0 (by omega) hT2 g2' hs.2 g3' g4') dX8_readInto_18 rfl (by decide) rfl (by decide) (by decide) rfl rfl (Nat.le_of_ble_eq_true rfl)) (fun r1 I3 h3 => ?_)
  obtain ⟨h3, rfl⟩ := h3
  have hr1 : r1 = 0 ∨ r1 = 1 := h3.elim (fun h => Or.inr h.1) (fun h => Or.inl h.1)
  have k35 : ∀ (s : Nat) (I' : jMI), pAll b n f = .error s → I' 78 2 = (s : Nat) → s ≤ n → rdF I I' → S_X8_readInto X 35 [some (jR 78), some (jR 80), some (jI 0), none, none] [] I' (raQ b n f I) := by
    intro s I' a1 a2 a3 a4
    refine j_iconst (pc := 35) dX8_readInto_35 ?_
    refine j_istore_n3 (pc := 36) dX8_readInto_36 (by decide) rfl ?_
    refine j_iconst (pc := 37) dX8_readInto_37 ?_
    refine j_istore4 (pc := 38) dX8_readInto_38 (by decide) rfl ?_
    exact kE40 _ _ s I' a1 a2 a3 a4
  refine j_if_eq (pc := 21) 35 dX8_readInto_21 (by decide) (by omega) (fun h_21 => ?_) (fun h_21 => ?_)
  · have hw : ¬ isWd b n (tS b n 0) wHouse := by
      rcases h3 with h | h
      · have := h.1; omega
      · exact h.2
    exact k35 (tS b n 0) I3 (pAll_n hw) g2' hs.2 hfr2
  · have hw : isWd b n (tS b n 0) wHouse := by
      rcases h3 with h | h
      · exact h.2
      · have := h.1; omega
    have hl5 : tE b n (tS b n 0) - tS b n 0 = 5 := hw.2.1
    refine j_aload_n (pc := 24) dX8_readInto_24 rfl ?_
    refine j_goI (pc := 25) (j_runV k_X8_36 m_X8_stopNext (c_stopNext X I3 b n (tE b n (tS b n 0)) hT2 g3' hE.2) dX8_readInto_25 rfl (by decide) rfl (by decide) (by decide) rfl rfl (Nat.le_of_ble_eq_true rfl)) (fun r4 I4 h4 => ?_)
    replace h4 := st_of hE.2 hH2 hok h4
    obtain ⟨h41, h42⟩ := h4
    refine j_if_eq (pc := 28) 35 dX8_readInto_28 (by decide) (by omega) (fun h_28 => ?_) (fun h_28 => ?_)
    · rcases h42 with ⟨h43, ⟨rfl, p', f', q1, q2, q3, q4, q5⟩ | ⟨rfl, s, q1, q2, q3⟩⟩
      · omega
      · exact k35 s I4 (pAll_e hw q1) q2 q3 (hfr2.tr h43)
    · rcases h42 with ⟨h43, ⟨rfl, p', f', q1, q2, q3, q4, q5⟩ | ⟨rfl, s, q1, q2, q3⟩⟩
      · obtain ⟨rfl, w1, w2⟩ := pStop_ok hE.2 q1
        have k31 : S_X8_readInto X 31 [some (jR 78), some (jR 80), some (jI 0), none, none] [] I4 (raQ b n f' I) := by
          refine j_iconst (pc := 31) dX8_readInto_31 ?_
          refine j_goto (pc := 32) 36 dX8_readInto_32 (by decide) ?_
          refine j_istore_n3 (pc := 36) dX8_readInto_36 (by decide) rfl ?_
          refine j_iconst (pc := 37) dX8_readInto_37 ?_
          refine j_istore4 (pc := 38) dX8_readInto_38 (by decide) rfl ?_
          exact key 0 p' f' I4 (by omega) q5 (hT2.rd h43) (hfr2.tr h43) q2 q3 q4 (pAll_h hw q1)
        exact k31
      · omega
