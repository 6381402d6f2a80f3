/-! ===== the class: a thing of a text, an item, the text ===== -/
theorem lastF_rng {f : Nat → Int} (hok : okSt f) {t : Nat} (ht : t < 5) : -1 ≤ lastF f t ∧ lastF f t ≤ 2 := by
  have h1 := hok (27 + t) (by omega)
  unfold stLo stHi at h1
  have h2 : 0 ≤ f (27 + t) ∧ f (27 + t) ≤ 4 := by
    refine ⟨?_, ?_⟩
    · have := h1.1; split at this <;> omega
    · have := h1.2; repeat' split at this
      all_goals omega
  unfold lastF
  split
  · omega
  · have h3 := hok (32 + 4 * t + (f (27 + t)).toNat - 1) (by omega)
    unfold stLo stHi at h3
    refine ⟨?_, ?_⟩
    · have := h3.1; split at this <;> omega
    · have := h3.2; repeat' split at this
      all_goals omega
theorem sub33 {k : Nat} (h : k < 4) : 3 - (3 - k) = k := by omega
theorem sub34 {k : Nat} : 4 - (k + 1) = 3 - k := by omega
theorem rdF.rf {I : jMI} : rdF I I := ⟨fun _ _ _ _ => rfl, fun _ _ _ _ => rfl⟩
set_option maxHeartbeats 1000000 in
theorem c_rdThing (X : jX) (I : jMI) (b : Nat → Int) (n p s0 : Nat) (f : Nat → Int) (hT : rtA b n I) (h2 : I 78 2 = (s0 : Nat)) (h3 : I 78 3 = (p : Nat)) (hp : p ≤ n) (hs0 : s0 ≤ n) (hH : hR f I 80) (hok : okSt f) : C_X8_readThing X [jR 78, jR 80] I (fun r I' => (r = 0 ∨ r = 1) ∧ rdQ n I (pThing b n s0 p f) r I') := by
  refine CG.of (by decide) [some (jR 78), some (jR 80), none, none, none, none] rfl (Nat.le_of_ble_eq_true rfl) ?_
  have hf21 := hH.2.1
  have hr21 : 0 ≤ f 21 ∧ f 21 ≤ 5 := hok 21 (by omega)
  have key : ∀ (k : Nat) (o5 : Option jV) (h : Int) (t p1 : Nat) (f1 : Nat → Int) (I1 : jMI), k ≤ 4 → t < 5 → (t : Int) < f1 21 → f1 (27 + t) = (k : Nat) → hR f1 I1 80 → okSt f1 → rtA b n I1 → rdF I I1 → I1 78 3 = (p1 : Nat) → p1 ≤ n → pThing b n s0 p f = pOwn b n t (4 - k) p1 f1 → S_X8_readThing X 33 [some (jR 78), some (jR 80), some (jI h), some (jI t), some (jI k), o5] [] I1 (fun r I' => (r = 0 ∨ r = 1) ∧ rdQ n I (pThing b n s0 p f) r I') := by
    refine mu1 (fun k => 5 - k) _ (fun k ih o5 h t p1 f1 I1 hk ht ht2 hc hH1 hok1 hT1 hfr1 h31 hp1 he => ?_)
    have hs1 := tS_rng (b := b) hp1
    have hE1 := tE_rng (b := b) hs1.2
    have hla := hR_last hH1 ht2 hc
    refine j_iload (pc := 33) dX8_readThing_33 rfl ?_
    refine j_iconst (pc := 35) dX8_readThing_35 ?_
    refine j_icmp_ge (pc := 36) 88 dX8_readThing_36 (by decide) (by omega) (by omega) (fun h_36 => ?_) (fun h_36 => ?_)
    · refine j_aload_n (pc := 88) dX8_readThing_88 rfl ?_
      refine j_goI (pc := 89) (j_runV k_X8_36 m_X8_stopNext (c_stopNext X I1 b n p1 hT1 h31 hp1) dX8_readThing_89 rfl (by decide) rfl (by decide) (by decide) rfl rfl (Nat.le_of_ble_eq_true rfl)) (fun r5 I5 h5 => ?_)
      replace h5 := st_of hp1 hH1 hok1 h5
      have h51 := h5.1
      refine j_retz dX8_readThing_92 (by omega) (?_) rfl
      refine ⟨by omega, h5.2.mv hfr1 ?_⟩
      rw [he, show 4 - k = 0 by omega]; rfl
    · refine j_aload_n (pc := 39) dX8_readThing_39 rfl ?_
      refine j_iconst (pc := 40) dX8_readThing_40 ?_
      refine j_goI (pc := 41) (j_runV k_X8_65 m_X8_numberNext (c_numNext X I1 b n p1 2 hT1 h31 hp1 (by omega)) dX8_readThing_41 rfl (by decide) rfl (by decide) (by decide) rfl rfl (Nat.le_of_ble_eq_true rfl)) (fun r1 I2 h1 => ?_)
      obtain ⟨g1, b1, w1, z1⟩ := nu_of hp1 h1 (by omega)
      have hso := tSo_le b n (tS b n p1)
      have hH2 := hR_rt hH1 g1
      have hla2 := hR_last hH2 ht2 hc
      have hek : 4 - k = (3 - k) + 1 := by omega
      have hun : pOwn b n t (4 - k) p1 f1 = if tSo b n (tS b n p1) = 3 then .ok (tE b n (tS b n p1), f1) else if tSo b n (tS b n p1) = 2 ∧ tV b n (tS b n p1) ≤ 2 ∧ tV b n (tS b n p1) ≠ lastF f1 t then pOwn b n t (3 - k) (tE b n (tS b n p1)) (mAddOw f1 t (3 - (3 - k)) (tV b n (tS b n p1))) else .error (tS b n p1) := by
        rw [hek]; rfl
      refine j_istore5 (pc := 44) dX8_readThing_44 (by decide) rfl ?_
      refine j_aload_n (pc := 46) dX8_readThing_46 rfl ?_
      refine j_getI (pc := 47) f_X8_40 dX8_readThing_47 rfl rfl (by decide) ?_
      rw [w1.1]
      refine j_iconst (pc := 50) dX8_readThing_50 ?_
      refine j_icmp_ne (pc := 51) 56 dX8_readThing_51 (by decide) (by omega) (by omega) (fun h_51 => ?_) (fun h_51 => ?_)
      · refine j_iload (pc := 56) dX8_readThing_56 rfl ?_
        refine j_iconst (pc := 58) dX8_readThing_58 ?_
        refine j_icmp_eq (pc := 59) 72 dX8_readThing_59 (by decide) (by omega) (by omega) (fun h_59 => ?_) (fun h_59 => ?_)
        · refine j_iconst (pc := 72) dX8_readThing_72 ?_
          refine j_retz dX8_readThing_73 (by omega) (?_) rfl
          first
            | (have hguard : r1 = -1 := by omega
               obtain ⟨s2, e3, hs2, k2⟩ := z1.er hguard
               refine ⟨Or.inl rfl, rdQ.er (hfr1.tr g1.rd) ?_ w1.2.1 hs1.2⟩
               rw [he, hun, if_neg (by omega), if_neg]
               intro hh
               unfold pNum at e3
               rw [if_pos ⟨hh.1, hh.2.1⟩] at e3
               exact absurd e3 (by simp))
            | (obtain ⟨p2, e3, hp2, hlt2, t2⟩ := z1.ok (by omega)
               obtain ⟨q1, q2, q3, q4, q5, q6, q7⟩ := pNum_ok hp1 e3
               refine ⟨Or.inl rfl, rdQ.er (hfr1.tr g1.rd) ?_ w1.2.1 hs1.2⟩
               rw [he, hun, if_neg (by omega), if_neg]
               intro hh
               have := hh.2.2
               omega)
        · refine j_iload (pc := 62) dX8_readThing_62 rfl ?_
          refine j_aload_n (pc := 64) dX8_readThing_64 rfl ?_
          refine j_iload_n (pc := 65) dX8_readThing_65 rfl ?_
          refine j_goI (pc := 66) (j_runV k_X8_85 m_X2_lastOwner (c_hLast80 X I2 t k ht hla2.1 (by omega)) dX8_readThing_66 rfl (by decide) rfl (by decide) (by decide) rfl rfl (Nat.le_of_ble_eq_true rfl)) (fun r2 I3 h2' => ?_)
          obtain ⟨e2, rfl⟩ := h2'
          rw [hla2.2] at e2
          have hlr : -1 ≤ lastF f1 t ∧ lastF f1 t ≤ 2 := lastF_rng hok1 ht
          refine j_icmp_ne (pc := 69) 74 dX8_readThing_69 (by decide) (by omega) (by omega) (fun h_69 => ?_) (fun h_69 => ?_)
          · obtain ⟨p2, e3, hp2, hlt2, t2⟩ := z1.ok (by omega)
            obtain ⟨q1, q2, q3, q4, q5, q6, q7⟩ := pNum_ok hp1 e3
            refine j_aload_n (pc := 74) dX8_readThing_74 rfl ?_
            refine j_iload_n (pc := 75) dX8_readThing_75 rfl ?_
            refine j_iload (pc := 76) dX8_readThing_76 rfl ?_
            refine j_goI (pc := 78) (j_runV k_X8_88 m_X2_addOwner (c_hOw80 X I3 t k r1 ht hla2.1 (by omega)) dX8_readThing_78 rfl (by decide) rfl (by decide) (by decide) rfl rfl (Nat.le_of_ble_eq_true rfl)) (fun r3 I4 h4 => ?_)
            obtain ⟨e4, e4'⟩ := h4
            have hz4 : ∀ z, z ≠ 80 → (z < 88 ∨ 95 < z) → I4 z = I3 z := by
              intro z hz hz2
              rw [e4']
              unfold hAddOw
              rw [jSf_n (by omega), jSf_n (by omega)]
            have hf4 : rdF I3 I4 := rdF.of hz4
            have hH4 : hR (mAddOw f1 t k r1) I4 80 := by rw [e4']; exact hR_ow hH2 hok1 ht2 hc (by omega) r1
            have hok4 := okSt_ow hok1 (t := t) (c := k) ht (by omega) (k := r1) ⟨by omega, by omega⟩
            refine j_pop (pc := 81) dX8_readThing_81 ?_
            refine j_iinc4 (pc := 82) dX8_readThing_82 (by decide) rfl ?_
            refine j_goto (pc := 85) 33 dX8_readThing_85 (by decide) ?_
            have hm21 : mAddOw f1 t k r1 21 = f1 21 := by unfold mAddOw; rw [jU_n (by omega), jU_n (by omega)]
            have hmc : mAddOw f1 t k r1 (27 + t) = ((k + 1 : Nat) : Int) := by
              unfold mAddOw
              first
                | (rw [jU_s]; omega)
                | (rw [jU_n (by omega), jU_s]; omega)
            refine ih (k + 1) (by omega) _ h t p2 (mAddOw f1 t k r1) I4 (by omega) ht (by rw [hm21]; exact ht2) hmc hH4 hok4 ((hT1.mv g1).rd hf4) ((hfr1.tr g1.rd).tr hf4) (by rw [hz4 78 (by omega) (by omega)]; exact t2) hp2 ?_
            rw [he, hun, if_neg (by omega), if_pos ⟨q5, by omega, by omega⟩, ← q6, ← q7, sub33 (by omega), sub34]
          · refine j_iconst (pc := 72) dX8_readThing_72 ?_
            refine j_retz dX8_readThing_73 (by omega) (?_) rfl
            first
              | (have hguard : r1 = -1 := by omega
                 obtain ⟨s2, e3, hs2, k2⟩ := z1.er hguard
                 refine ⟨Or.inl rfl, rdQ.er (hfr1.tr g1.rd) ?_ w1.2.1 hs1.2⟩
                 rw [he, hun, if_neg (by omega), if_neg]
                 intro hh
                 unfold pNum at e3
                 rw [if_pos ⟨hh.1, hh.2.1⟩] at e3
                 exact absurd e3 (by simp))
              | (obtain ⟨p2, e3, hp2, hlt2, t2⟩ := z1.ok (by omega)
                 obtain ⟨q1, q2, q3, q4, q5, q6, q7⟩ := pNum_ok hp1 e3
                 refine ⟨Or.inl rfl, rdQ.er (hfr1.tr g1.rd) ?_ w1.2.1 hs1.2⟩
                 rw [he, hun, if_neg (by omega), if_neg]
                 intro hh
                 have := hh.2.2
                 omega)
      · refine j_iconst (pc := 54) dX8_readThing_54 ?_
        refine j_retz dX8_readThing_55 (by omega) (?_) rfl
        refine ⟨Or.inr rfl, hfr1.tr g1.rd, Or.inl ⟨rfl, tE b n (tS b n p1), f1, ?_, hH2, hok1, w1.2.2, hE1.2⟩⟩
        rw [he, hun, if_pos (by omega)]
  refine j_aload_n (pc := 0) dX8_readThing_0 rfl ?_
  refine j_getI (pc := 1) f_X8_79 dX8_readThing_1 rfl rfl (by decide) ?_
  rw [hf21]
  refine j_iconst (pc := 4) dX8_readThing_4 ?_
  refine j_icmp_lt (pc := 5) 10 dX8_readThing_5 (by decide) (by omega) (by omega) (fun h_5 => ?_) (fun h_5 => ?_)
  · have hdef : pThing b n s0 p f = match pNum b n p 7 with
      | .error s => .error s
      | .ok (h, p1) => pOwn b n (f 21).toNat 4 p1 (mAddTh f (f 21).toNat h) := by
      unfold pThing
      rw [if_neg (by omega)]
      rfl
    refine j_aload_n (pc := 10) dX8_readThing_10 rfl ?_
    refine j_bipush (pc := 11) dX8_readThing_11 (by decide) ?_
    refine j_goI (pc := 13) (j_runV k_X8_65 m_X8_numberNext (c_numNext X I b n p 7 hT h3 hp (by omega)) dX8_readThing_13 rfl (by decide) rfl (by decide) (by decide) rfl rfl (Nat.le_of_ble_eq_true rfl)) (fun r1 I1 h1 => ?_)
    obtain ⟨f1, b1, w1, z1⟩ := nu_of hp h1 (by omega)
    refine j_istore_n2 (pc := 16) dX8_readThing_16 (by decide) rfl ?_
    refine j_iload_n (pc := 17) dX8_readThing_17 rfl ?_
    refine j_iconst (pc := 18) dX8_readThing_18 ?_
    refine j_icmp_ne (pc := 19) 24 dX8_readThing_19 (by decide) (by omega) (by omega) (fun h_19 => ?_) (fun h_19 => ?_)
    · obtain ⟨p1, e1, hp1, hlt1, t1⟩ := z1.ok (by omega)
      have hT1 := hT.mv f1
      have hH1 := hR_rt hH f1
      obtain ⟨t, ht⟩ := Int.eq_ofNat_of_zero_le hr21.1
      have hs10 : I1 80 10 = (t : Int) := hH1.2.1.trans ht
      refine j_aload_n (pc := 24) dX8_readThing_24 rfl ?_
      refine j_iload_n (pc := 25) dX8_readThing_25 rfl ?_
      refine j_goI (pc := 26) (j_runV k_X8_82 m_X2_addThing (c_hTh80 X I1 t r1 hs10 (by omega)) dX8_readThing_26 rfl (by decide) rfl (by decide) (by decide) rfl rfl (Nat.le_of_ble_eq_true rfl)) (fun r4 I4 h4 => ?_)
      obtain ⟨e4, e4'⟩ := h4
      have hz4 : ∀ z, z ≠ 80 → (z < 88 ∨ 95 < z) → I4 z = I1 z := by
        intro z hz hz2
        rw [e4']
        unfold hAddTh
        rw [jSf_n (by omega), jSf_n (by omega), jSf_n (by omega)]
      have hf4 : rdF I1 I4 := rdF.of hz4
      have hH4 : hR (mAddTh f t r1) I4 80 := by rw [e4']; exact hR_th hH1 hok ht (by omega) r1
      have hok4 := okSt_th hok (t := t) (by omega) (k := r1) ⟨by omega, by omega⟩
      rw [e4]
      refine j_istore_n3 (pc := 29) dX8_readThing_29 (by decide) rfl ?_
      refine j_iconst (pc := 30) dX8_readThing_30 ?_
      refine j_istore4 (pc := 31) dX8_readThing_31 (by decide) rfl ?_
      have hm21 : mAddTh f t r1 21 = (t : Int) + 1 := by
        unfold mAddTh
        first
          | rw [jU_s]
          | rw [jU_n (by omega), jU_s]
          | rw [jU_n (by omega), jU_n (by omega), jU_s]
      have hmc : mAddTh f t r1 (27 + t) = ((0 : Nat) : Int) := by
        unfold mAddTh
        first
          | (rw [jU_s]; rfl)
          | (rw [jU_n (by omega), jU_s]; rfl)
          | (rw [jU_n (by omega), jU_n (by omega), jU_s]; rfl)
      refine key 0 _ r1 t p1 (mAddTh f t r1) I4 (by omega) (by omega) (by rw [hm21]; omega) hmc hH4 hok4 (hT1.rd hf4) (f1.rd.tr hf4) (by rw [hz4 78 (by omega) (by omega)]; exact t1) hp1 ?_
      rw [hdef, e1]
      show pOwn b n (f 21).toNat 4 p1 (mAddTh f (f 21).toNat r1) = _
      rw [ht, Int.toNat_natCast]
    · refine j_iconst (pc := 22) dX8_readThing_22 ?_
      refine j_retz dX8_readThing_23 (by omega) (?_) rfl
      obtain ⟨s3, e3, hs3, k3⟩ := z1.er (by omega)
      exact ⟨Or.inl rfl, rdQ.er f1.rd (by rw [hdef, e3]) k3 hs3⟩
  · refine j_iconst (pc := 8) dX8_readThing_8 ?_
    refine j_retz dX8_readThing_9 (by omega) (?_) rfl
    exact ⟨Or.inl rfl, rdQ.er rdF.rf (by unfold pThing; rw [if_pos (by omega)]) h2 hs0⟩
/-! an item -/
theorem c_rdItem (X : jX) (I : jMI) (b : Nat → Int) (n s : Nat) (f : Nat → Int) (hT : rtA b n I) (h2 : I 78 2 = (s : Nat)) (h3 : I 78 3 = (tE b n s : Nat)) (h4 : I 78 4 = (tSo b n s : Nat)) (hs : s ≤ n) (hH : hR f I 80) (hok : okSt f) : C_X8_readItem X [jR 78, jR 80] I (fun r I' => (r = 0 ∨ r = 1) ∧ rdQ n I (pItem b n s f) r I') := by
  refine CG.of (by decide) [some (jR 78), some (jR 80)] rfl (Nat.le_of_ble_eq_true rfl) ?_
  have hE := tE_rng (b := b) hs
  have hdef : pItem b n s f = @ite _ (isWd b n s wStair) (Classical.propDecidable _) (pStair b n (tE b n s) f) (@ite _ (isWd b n s wSleep) (Classical.propDecidable _) (pSleep b n s (tE b n s) f) (@ite _ (isWd b n s wThing) (Classical.propDecidable _) (pThing b n s (tE b n s) f) (.error s))) := rfl
  refine j_aload_n (pc := 0) dX8_readItem_0 rfl ?_
  refine j_ldcS (pc := 1) (i := 1) (by omega) rfl (fun U hU => hU.2.2.2.2.2.1.2.1) dX8_readItem_1 ?_
  refine j_goI (pc := 3) (j_runV k_X8_32 m_X8_isWord (c_isWord X I b n s 1 (by omega) hT h2 hs h3 h4) dX8_readItem_3 rfl (by decide) rfl (by decide) (by decide) rfl rfl (Nat.le_of_ble_eq_true rfl)) (fun r1 I1 h1 => ?_)
  obtain ⟨h1, rfl⟩ := h1
  have hr1 : r1 = 0 ∨ r1 = 1 := h1.elim (fun h => Or.inr h.1) (fun h => Or.inl h.1)
  refine j_if_eq (pc := 6) 15 dX8_readItem_6 (by decide) (by omega) (fun h_6 => ?_) (fun h_6 => ?_)
  · have hn1 : ¬ isWd b n s wStair := by
      rcases h1 with h | h
      · have := h.1; omega
      · exact h.2
    refine j_aload_n (pc := 15) dX8_readItem_15 rfl ?_
    refine j_ldcS (pc := 16) (i := 2) (by omega) rfl (fun U hU => hU.2.2.2.2.2.1.2.2.1) dX8_readItem_16 ?_
    refine j_goI (pc := 18) (j_runV k_X8_32 m_X8_isWord (c_isWord X I1 b n s 2 (by omega) hT h2 hs h3 h4) dX8_readItem_18 rfl (by decide) rfl (by decide) (by decide) rfl rfl (Nat.le_of_ble_eq_true rfl)) (fun r2 I2 h5 => ?_)
    obtain ⟨h5, rfl⟩ := h5
    have hr2 : r2 = 0 ∨ r2 = 1 := h5.elim (fun h => Or.inr h.1) (fun h => Or.inl h.1)
    refine j_if_eq (pc := 21) 30 dX8_readItem_21 (by decide) (by omega) (fun h_21 => ?_) (fun h_21 => ?_)
    · have hn2 : ¬ isWd b n s wSleep := by
        rcases h5 with h | h
        · have := h.1; omega
        · exact h.2
      refine j_aload_n (pc := 30) dX8_readItem_30 rfl ?_
      refine j_ldcS (pc := 31) (i := 3) (by omega) rfl (fun U hU => hU.2.2.2.2.2.1.2.2.2) dX8_readItem_31 ?_
      refine j_goI (pc := 33) (j_runV k_X8_32 m_X8_isWord (c_isWord X I2 b n s 3 (by omega) hT h2 hs h3 h4) dX8_readItem_33 rfl (by decide) rfl (by decide) (by decide) rfl rfl (Nat.le_of_ble_eq_true rfl)) (fun r3 I3 h6 => ?_)
      obtain ⟨h6, rfl⟩ := h6
      have hr3 : r3 = 0 ∨ r3 = 1 := h6.elim (fun h => Or.inr h.1) (fun h => Or.inl h.1)
      refine j_if_eq (pc := 36) 51 dX8_readItem_36 (by decide) (by omega) (fun h_36 => ?_) (fun h_36 => ?_)
      · have hn3 : ¬ isWd b n s wThing := by
          rcases h6 with h | h
          · have := h.1; omega
          · exact h.2
        refine j_iconst (pc := 51) dX8_readItem_51 ?_
        refine j_retz dX8_readItem_52 (by omega) ?_ rfl
        exact ⟨Or.inl rfl, rdQ.er rdF.rf (by rw [hdef, if_neg hn1, if_neg hn2, if_neg hn3]) h2 hs⟩
      · have hw3 : isWd b n s wThing := by
          rcases h6 with h | h
          · exact h.2
          · have := h.1; omega
        refine j_aload_n (pc := 39) dX8_readItem_39 rfl ?_
        refine j_aload_n (pc := 40) dX8_readItem_40 rfl ?_
        refine j_goI (pc := 41) (j_runV k_X8_62 m_X8_readThing (c_rdThing X I3 b n (tE b n s) s f hT h2 h3 hE.2 hs hH hok) dX8_readItem_41 rfl (by decide) rfl (by decide) (by decide) rfl rfl (Nat.le_of_ble_eq_true rfl)) (fun r4 I4 h7 => ?_)
        have h71 := h7.1
        have e : pItem b n s f = pThing b n s (tE b n s) f := by rw [hdef, if_neg hn1, if_neg hn2, if_pos hw3]
        refine j_if_eq (pc := 44) 51 dX8_readItem_44 (by decide) (by omega) (fun h_44 => ?_) (fun h_44 => ?_)
        · refine j_iconst (pc := 51) dX8_readItem_51 ?_
          refine j_retz dX8_readItem_52 (by omega) ?_ rfl
          rw [e]; rw [h_44] at h7; exact h7
        · refine j_iconst (pc := 47) dX8_readItem_47 ?_
          refine j_goto (pc := 48) 52 dX8_readItem_48 (by decide) ?_
          refine j_retz dX8_readItem_52 (by omega) ?_ rfl
          have e4 : r4 = 1 := by omega
          rw [e]; rw [e4] at h7; exact h7
    · have hw2 : isWd b n s wSleep := by
        rcases h5 with h | h
        · exact h.2
        · have := h.1; omega
      refine j_aload_n (pc := 24) dX8_readItem_24 rfl ?_
      refine j_aload_n (pc := 25) dX8_readItem_25 rfl ?_
      refine j_goI (pc := 26) (j_runV k_X8_57 m_X8_readSleeper (c_rdSleep X I2 b n (tE b n s) s f hT h2 h3 hE.2 hs hH hok) dX8_readItem_26 rfl (by decide) rfl (by decide) (by decide) rfl rfl (Nat.le_of_ble_eq_true rfl)) (fun r4 I4 h7 => ?_)
      have h71 := h7.1
      refine j_retz dX8_readItem_29 (by omega) ?_ rfl
      rw [hdef, if_neg hn1, if_pos hw2]; exact h7
  · have hw1 : isWd b n s wStair := by
      rcases h1 with h | h
      · exact h.2
      · have := h.1; omega
    refine j_aload_n (pc := 9) dX8_readItem_9 rfl ?_
    refine j_aload_n (pc := 10) dX8_readItem_10 rfl ?_
    refine j_goI (pc := 11) (j_runV k_X8_52 m_X8_readStair (c_rdStair X I1 b n (tE b n s) f hT h3 hE.2 hH hok) dX8_readItem_11 rfl (by decide) rfl (by decide) (by decide) rfl rfl (Nat.le_of_ble_eq_true rfl)) (fun r4 I4 h7 => ?_)
    have h71 := h7.1
    refine j_retz dX8_readItem_14 (by omega) ?_ rfl
    rw [hdef, if_pos hw1]; exact h7
