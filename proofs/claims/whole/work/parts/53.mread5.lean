/-! ===== the reference: the whole text ===== -/
theorem nT_T {b : Nat → Int} {n p : Nat} {I : jMI} {g : Nat → Int} (h : rdA b n p I) (hg : nT g (I 105) b n p) : rdT b n (tS b n p) (jSf I 105 g) ∧ rdP I (jSf I 105 g) := by
  obtain ⟨h1, h2, h3, h4, h5, h6⟩ := h
  obtain ⟨n9, n7, n6, n8, n8r, nf⟩ := hg
  refine ⟨⟨?_, ?_, fun h => ?_, ?_, h3, (tS_rng h4).2, ?_, h6⟩, ⟨fun z z1 z2 => jSf_n z1, fun j a b c d => ?_⟩⟩
  · rw [jSf_s]; exact n9
  · rw [jSf_s]; exact n7
  · rw [jSf_s]; exact n6 (by omega)
  · rw [jSf_s, nf 5 (by omega) (by omega) (by omega) (by omega)]; exact h2
  · rw [jSf_n (by decide)]; exact h5
  · rw [jSf_s]; exact nf j a b c d
set_option maxHeartbeats 2000000 in
theorem c_readItem (X : jX) (I : jMI) (b : Nat → Int) (n s : Nat) (it ap : Int) (f : Nat → Int) (h : rdT b n s I) (hit : 1 ≤ it ∧ it ≤ 1000) (hok : okSt f) (hap : ap = 0 ∨ ap = 1) (h12 : I 105 12 = f 5) (h13 : I 105 13 = f 21) (h106 : ap = 1 → I 106 = f) : C_X12_readItem X [jR 105, jI it, jI ap] I (itQ b n s ap f I) := by
  refine CG.of (by decide) [some (jR 105), some (jI it), some (jI ap), none, none, none] rfl (Nat.le_of_ble_eq_true rfl) ?_
  refine j_iload_n (pc := 0) dX12_readItem_0 rfl ?_
  refine j_if_ne (pc := 1) 41 dX12_readItem_1 (by decide) (by omega) (fun h_1 => ?_) (fun h_1 => ?_)
  · refine j_aload_n (pc := 41) dX12_readItem_41 rfl ?_
    refine j_bipush (pc := 42) dX12_readItem_42 (by decide) ?_
    refine j_bipush (pc := 44) dX12_readItem_44 (by decide) ?_
    refine j_bipush (pc := 46) dX12_readItem_46 (by decide) ?_
    refine j_bipush (pc := 48) dX12_readItem_48 (by decide) ?_
    refine j_bipush (pc := 50) dX12_readItem_50 (by decide) ?_
    refine j_iconst (pc := 52) dX12_readItem_52 ?_
    refine j_iconst (pc := 53) dX12_readItem_53 ?_
    refine j_goL (pc := 54) (j_runS k_X12_166 m_X12_spelt (c_spelt X I 115 116 97 105 114 0 0 (by omega) (by omega) (by omega) (by omega) (by omega) (by omega) (by omega)) dX12_readItem_54 (by decide) rfl rfl (Nat.le_of_ble_eq_true rfl)) (fun r1 I1 h1 => ?_)
    obtain ⟨h1, rfl⟩ := h1
    rw [if_pos rfl] at h1
    have h1' : r1 = 10492029 := by omega
    subst h1'
    refine j_goI (pc := 57) (j_runV k_X12_170 m_X12_isWord (c_isWd X I1 b n s 10492029 wStair h (by omega) wd_wStair) dX12_readItem_57 rfl (by decide) rfl (by decide) (by decide) rfl rfl (Nat.le_of_ble_eq_true rfl)) (fun r2 I2 h2 => ?_)
    obtain ⟨w1, rfl⟩ := h2
    refine j_if_eq (pc := 60) 168 dX12_readItem_60 (by decide) (by omega) (fun h_60 => ?_) (fun h_60 => ?_)
    · have hw0 := or0 w1 (by omega)
      refine j_aload_n (pc := 168) dX12_readItem_168 rfl ?_
      refine j_bipush (pc := 169) dX12_readItem_169 (by decide) ?_
      refine j_bipush (pc := 171) dX12_readItem_171 (by decide) ?_
      refine j_bipush (pc := 173) dX12_readItem_173 (by decide) ?_
      refine j_bipush (pc := 175) dX12_readItem_175 (by decide) ?_
      refine j_bipush (pc := 177) dX12_readItem_177 (by decide) ?_
      refine j_bipush (pc := 179) dX12_readItem_179 (by decide) ?_
      refine j_bipush (pc := 181) dX12_readItem_181 (by decide) ?_
      refine j_goL (pc := 183) (j_runS k_X12_166 m_X12_spelt (c_spelt X I2 115 108 101 101 112 101 114 (by omega) (by omega) (by omega) (by omega) (by omega) (by omega) (by omega)) dX12_readItem_183 (by decide) rfl rfl (Nat.le_of_ble_eq_true rfl)) (fun r3 I3 h3 => ?_)
      obtain ⟨h3, rfl⟩ := h3
      rw [if_neg (by decide)] at h3
      have h3' : r3 = 7535943612 := by omega
      subst h3'
      refine j_goI (pc := 186) (j_runV k_X12_170 m_X12_isWord (c_isWd X I3 b n s 7535943612 wSleep h (by omega) wd_wSleep) dX12_readItem_186 rfl (by decide) rfl (by decide) (by decide) rfl rfl (Nat.le_of_ble_eq_true rfl)) (fun r4 I4 h4 => ?_)
      obtain ⟨w2, rfl⟩ := h4
      refine j_if_eq (pc := 189) 292 dX12_readItem_189 (by decide) (by omega) (fun h_189 => ?_) (fun h_189 => ?_)
      · have hw1 := or0 w2 (by omega)
        refine j_aload_n (pc := 292) dX12_readItem_292 rfl ?_
        refine j_bipush (pc := 293) dX12_readItem_293 (by decide) ?_
        refine j_bipush (pc := 295) dX12_readItem_295 (by decide) ?_
        refine j_bipush (pc := 297) dX12_readItem_297 (by decide) ?_
        refine j_bipush (pc := 299) dX12_readItem_299 (by decide) ?_
        refine j_bipush (pc := 301) dX12_readItem_301 (by decide) ?_
        refine j_iconst (pc := 303) dX12_readItem_303 ?_
        refine j_iconst (pc := 304) dX12_readItem_304 ?_
        refine j_goL (pc := 305) (j_runS k_X12_166 m_X12_spelt (c_spelt X I4 116 104 105 110 103 0 0 (by omega) (by omega) (by omega) (by omega) (by omega) (by omega) (by omega)) dX12_readItem_305 (by decide) rfl rfl (Nat.le_of_ble_eq_true rfl)) (fun r5 I5 h5 => ?_)
        obtain ⟨h5, rfl⟩ := h5
        rw [if_pos rfl] at h5
        have h5' : r5 = 10793230 := by omega
        subst h5'
        refine j_goI (pc := 308) (j_runV k_X12_170 m_X12_isWord (c_isWd X I5 b n s 10793230 wThing h (by omega) wd_wThing) dX12_readItem_308 rfl (by decide) rfl (by decide) (by decide) rfl rfl (Nat.le_of_ble_eq_true rfl)) (fun r6 I6 h6 => ?_)
        obtain ⟨w3, rfl⟩ := h6
        refine j_if_eq (pc := 311) 336 dX12_readItem_311 (by decide) (by omega) (fun h_311 => ?_) (fun h_311 => ?_)
        · refine j_iconst (pc := 336) dX12_readItem_336 ?_
          refine j_istore_n3 (pc := 337) dX12_readItem_337 (by decide) rfl ?_
          refine j_aload_n (pc := 338) dX12_readItem_338 rfl ?_
          refine j_dupR (pc := 339) dX12_readItem_339 ?_
          refine j_getI (pc := 340) f_X12_185 dX12_readItem_340 rfl rfl (by decide) ?_
          refine j_iconst (pc := 343) dX12_readItem_343 ?_
          refine j_iadd (pc := 344) dX12_readItem_344 ?_
          refine j_putI_b (pc := 345) f_X12_185 dX12_readItem_345 rfl rfl rfl (by decide) ?_
          refine j_iload_n (pc := 348) dX12_readItem_348 rfl ?_
          refine j_if_ne (pc := 349) 354 dX12_readItem_349 (by decide) (by omega) (fun h_349 => ?_) (fun h_349 => ?_)
          · exact absurd rfl h_349
          · refine j_iconst (pc := 352) dX12_readItem_352 ?_
            refine j_retz dX12_readItem_353 (by omega) (?_) rfl
            refine Or.inr ⟨rfl, s, pItem_no hw0 hw1 (or0 w3 (by omega)), ?_, fun _ => ⟨fun z z1 z2 => jSf_n z1, fun j a b c d e f g => ?_⟩⟩
            · rw [jSf_s, jU_n (by omega)]; exact h.1
            · rw [jSf_s, jU_n g]
        · exact c_itThing X I6 b n s it ap f h hw0 hw1 (or1 w3 (by omega)) hok hap h12 h13 h106
      · exact c_itSleep X I4 b n s it ap f h hw0 (or1 w2 (by omega)) hok hap h12 h13 h106
    · exact c_itStair X I2 b n s it ap f h (or1 w1 (by omega)) hok hap h12 h13 h106
  · exact absurd h_1 (by omega)
/-- how the first item's reading ends -/
def hoQ (b : Nat → Int) (n s : Nat) (ap : Int) (I : jMI) (r : Int) (I' : jMI) : Prop :=
  (r = 1 ∧ isWd b n s wHouse ∧ ∃ p', (∀ f, pStop b n (tE b n s) f = .ok (p', f)) ∧ rdA b n p' I' ∧ rdP (if ap = 1 then mAnew I else I) I') ∨ (r = 0 ∧ ((¬ isWd b n s wHouse ∧ I' = I) ∨ (isWd b n s wHouse ∧ ∃ s', (∀ f, pStop b n (tE b n s) f = .error s') ∧ I' 105 9 = (s' : Nat) ∧ (ap = 0 → rdP I I'))))
theorem c_readHouse (X : jX) (I : jMI) (b : Nat → Int) (n s : Nat) (ap : Int) (h : rdT b n s I) (hap : ap = 0 ∨ ap = 1) : C_X12_readItem X [jR 105, jI 0, jI ap] I (hoQ b n s ap I) := by
  refine CG.of (by decide) [some (jR 105), some (jI 0), some (jI ap), none, none, none] rfl (Nat.le_of_ble_eq_true rfl) ?_
  have k36 : isWd b n s wHouse → ∀ M : jMI, M = (if ap = 1 then mAnew I else I) → S_X12_readItem X 36 [some (jR 105), some (jI 0), some (jI ap), none, none, none] [] M (hoQ b n s ap I) := by
    intro hw M hM
    have hA : rdA b n (tE b n s) M := by
      have hA := h.wd hw.1
      rw [hM]
      split
      · unfold mAnew
        exact ⟨by rw [jSf_s, jU_n (by omega)]; exact hA.1, by rw [jSf_s, jU_n (by omega)]; exact hA.2.1, hA.2.2.1, hA.2.2.2.1, by rw [jSf_n (by decide), jSf_n (by decide)]; exact hA.2.2.2.2.1, hA.2.2.2.2.2⟩
      · exact hA
    refine j_aload_n (pc := 36) dX12_readItem_36 rfl ?_
    refine j_goI (pc := 37) (j_runV k_X12_174 m_X12_ends (c_ends2 X M b (tE b n s) n hA) dX12_readItem_37 rfl (by decide) rfl (by decide) (by decide) rfl rfl (Nat.le_of_ble_eq_true rfl)) (fun r1 I1 h1 => ?_)
    obtain ⟨f1, o1⟩ := h1
    refine j_retz dX12_readItem_40 (by omega) (?_) rfl
    rcases o1 with ⟨e0, p', e5, e6⟩ | ⟨e0, s', e5, e6⟩
    · obtain ⟨-, e7, e8⟩ := pStop_ok (f := fun _ => 0) hA.2.2.2.1 (e5 _)
      exact Or.inl ⟨e0, hw, p', e5, hA.mv f1 e6 e8, hM ▸ f1⟩
    · refine Or.inr ⟨e0, Or.inr ⟨hw, s', e5, e6, fun h0 => ?_⟩⟩
      rw [hM, if_neg (by omega)] at f1
      exact f1
  refine j_iload_n (pc := 0) dX12_readItem_0 rfl ?_
  refine j_if_ne (pc := 1) 41 dX12_readItem_1 (by decide) (by omega) (fun h_1 => ?_) (fun h_1 => ?_)
  · exact absurd rfl h_1
  · refine j_aload_n (pc := 4) dX12_readItem_4 rfl ?_
    refine j_bipush (pc := 5) dX12_readItem_5 (by decide) ?_
    refine j_bipush (pc := 7) dX12_readItem_7 (by decide) ?_
    refine j_bipush (pc := 9) dX12_readItem_9 (by decide) ?_
    refine j_bipush (pc := 11) dX12_readItem_11 (by decide) ?_
    refine j_bipush (pc := 13) dX12_readItem_13 (by decide) ?_
    refine j_iconst (pc := 15) dX12_readItem_15 ?_
    refine j_iconst (pc := 16) dX12_readItem_16 ?_
    refine j_goL (pc := 17) (j_runS k_X12_166 m_X12_spelt (c_spelt X I 104 111 117 115 101 0 0 (by omega) (by omega) (by omega) (by omega) (by omega) (by omega) (by omega)) dX12_readItem_17 (by decide) rfl rfl (Nat.le_of_ble_eq_true rfl)) (fun r1 I1 h1 => ?_)
    obtain ⟨h1, rfl⟩ := h1
    rw [if_pos rfl] at h1
    have h1' : r1 = 4562600 := by omega
    subst h1'
    refine j_goI (pc := 20) (j_runV k_X12_170 m_X12_isWord (c_isWd X I1 b n s 4562600 wHouse h (by omega) wd_wHouse) dX12_readItem_20 rfl (by decide) rfl (by decide) (by decide) rfl rfl (Nat.le_of_ble_eq_true rfl)) (fun r2 I2 h2 => ?_)
    obtain ⟨w1, rfl⟩ := h2
    refine j_if_ne (pc := 23) 28 dX12_readItem_23 (by decide) (by omega) (fun h_23 => ?_) (fun h_23 => ?_)
    · refine j_iload_n (pc := 28) dX12_readItem_28 rfl ?_
      refine j_if_eq (pc := 29) 36 dX12_readItem_29 (by decide) (by omega) (fun h_29 => ?_) (fun h_29 => ?_)
      · first
          | exact k36 (or1 w1 (by omega)) I3 (by rw [h3, if_pos (by omega)])
          | exact k36 (or1 w1 (by omega)) I2 (by rw [if_neg (by omega)])
      · refine j_aload_n (pc := 32) dX12_readItem_32 rfl ?_
        refine j_goV (pc := 33) (j_runV k_X12_70 m_X12_anew (c_anew X I2) dX12_readItem_33 rfl (by decide) rfl (by decide) (by decide) rfl rfl (Nat.le_of_ble_eq_true rfl)) (fun I3 h3 => ?_)
        first
          | exact k36 (or1 w1 (by omega)) I3 (by rw [h3, if_pos (by omega)])
          | exact k36 (or1 w1 (by omega)) I2 (by rw [if_neg (by omega)])
    · refine j_iconst (pc := 26) dX12_readItem_26 ?_
      exact j_retz dX12_readItem_27 (by omega) (Or.inr ⟨rfl, Or.inl ⟨or0 w1 (by omega), rfl⟩⟩) rfl
