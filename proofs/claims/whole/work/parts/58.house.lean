/-! ===== the class: a house ===== -/
theorem c_wakers (X : jX) (I : jMI) (f : Nat → Int) (n : Int) (room : Nat) (mi : Int) (hH : hR f I 2) (hok : okSt f) (hn : 0 ≤ n ∧ n ≤ 30) (hr : room < 8) (hm : 0 ≤ mi ∧ mi ≤ 59) : C_X2_wakers X [jR 2, jI n, jI room, jI mi] I (fun r I' => ∃ w : Nat, r = w ∧ isW f n room mi w ∧ I' = I) := by
  refine CG.of (by decide) [some (jR 2), some (jI n), some (jI room), some (jI mi), none, none] rfl (Nat.le_of_ble_eq_true rfl) ?_
  obtain ⟨S, hS, hS5⟩ := okSt_5 hok
  have key : ∀ (s w : Nat), s ≤ S → w < 2 ^ 5 → (∀ i, w.testBit i = true ↔ (i < s ∧ wkB f n room mi i)) → S_X2_wakers X 6 [some (jR 2), some (jI n), some (jI room), some (jI mi), some (jI w), some (jI s)] [] I (fun r I' => ∃ w : Nat, r = w ∧ isW f n room mi w ∧ I' = I) := by
    refine mu2 (fun s _ => 5 - s) _ (fun s w ih hs hw hb => ?_)
    refine j_iload (pc := 6) dX2_wakers_6 rfl ?_
    refine j_aload_n (pc := 8) dX2_wakers_8 rfl ?_
    refine j_getI (pc := 9) f_X2_61 dX2_wakers_9 rfl rfl (by decide) ?_
    rw [show I 2 9 = (S : Int) from hH.1.trans hS]
    refine j_icmp_ge (pc := 12) 42 dX2_wakers_12 (by decide) (by omega) (by omega) (fun h_12 => ?_) (fun h_12 => ?_)
    · refine j_iload (pc := 42) dX2_wakers_42 rfl ?_
      exact j_reti dX2_wakers_44 (⟨w, rfl, ⟨by omega, fun i => by rw [hb i]; exact ⟨fun h => ⟨by omega, h.2⟩, fun h => ⟨by omega, h.2⟩⟩⟩, rfl⟩) rfl
    · refine j_iload_n (pc := 15) dX2_wakers_15 rfl ?_
      refine j_aload_n (pc := 16) dX2_wakers_16 rfl ?_
      refine j_iload (pc := 17) dX2_wakers_17 rfl ?_
      refine j_iload_n (pc := 19) dX2_wakers_19 rfl ?_
      refine j_iload_n (pc := 20) dX2_wakers_20 rfl ?_
      refine j_goI (pc := 21) (j_runV k_X2_90 m_X2_leastNoise (c_least X I f s room mi hH hok (by omega) (by omega) hr hm) dX2_wakers_21 rfl (by decide) rfl (by decide) (by decide) rfl rfl (Nat.le_of_ble_eq_true rfl)) (fun r1 I1 h1 => ?_)
      obtain ⟨h1, rfl⟩ := h1
      have hrr := isLn_rng (okSt_sl3 hok (show s < 5 by omega)).2.2 h1
      have hiff := isLn_w (n := n) hr (okSt_sl3 hok (show s < 5 by omega)).2.2 hn.2 h1
      refine j_icmp_lt (pc := 24) 36 dX2_wakers_24 (by decide) (by omega) (by omega) (fun h_24 => ?_) (fun h_24 => ?_)
      · refine j_iinc5 (pc := 36) dX2_wakers_36 (by decide) rfl ?_
        refine j_goto (pc := 39) 6 dX2_wakers_39 (by decide) ?_
        first
          | (refine ih (s + 1) (w ||| 2 ^ s) (by omega) (by omega) (lt_or_pow hw (by omega)) (bt_set hb (fun i => ?_))
             have hx := hiff.mp (by omega)
             constructor
             · rintro ⟨h1, h2⟩
               by_cases e : i = s
               · exact Or.inr e
               · exact Or.inl ⟨by omega, h2⟩
             · rintro (⟨h1, h2⟩ | rfl)
               · exact ⟨by omega, h2⟩
               · exact ⟨by omega, hx⟩)
          | (refine ih (s + 1) w (by omega) (by omega) hw (fun i => ?_)
             have hx : ¬ wkB f n room mi s := fun h => by have := hiff.mpr h; omega
             rw [hb i]
             constructor
             · rintro ⟨h1, h2⟩
               exact ⟨by omega, h2⟩
             · rintro ⟨h1, h2⟩
               by_cases e : i = s
               · subst e; exact absurd h2 hx
               · exact ⟨by omega, h2⟩)
      · refine j_iload (pc := 27) dX2_wakers_27 rfl ?_
        refine j_iconst (pc := 29) dX2_wakers_29 ?_
        refine j_iload (pc := 30) dX2_wakers_30 rfl ?_
        refine j_ishl (pc := 32) dX2_wakers_32 ?_
        rw [jshl_n (by omega)]
        refine j_ior (pc := 33) dX2_wakers_33 ?_
        rw [jbor_n (by omega) (by have := Nat.pow_lt_pow_right (a := 2) (by omega) (show s < 5 by omega); omega)]
        refine j_istore4 (pc := 34) dX2_wakers_34 (by decide) rfl ?_
        refine j_iinc5 (pc := 36) dX2_wakers_36 (by decide) rfl ?_
        refine j_goto (pc := 39) 6 dX2_wakers_39 (by decide) ?_
        first
          | (refine ih (s + 1) (w ||| 2 ^ s) (by omega) (by omega) (lt_or_pow hw (by omega)) (bt_set hb (fun i => ?_))
             have hx := hiff.mp (by omega)
             constructor
             · rintro ⟨h1, h2⟩
               by_cases e : i = s
               · exact Or.inr e
               · exact Or.inl ⟨by omega, h2⟩
             · rintro (⟨h1, h2⟩ | rfl)
               · exact ⟨by omega, h2⟩
               · exact ⟨by omega, hx⟩)
          | (refine ih (s + 1) w (by omega) (by omega) hw (fun i => ?_)
             have hx : ¬ wkB f n room mi s := fun h => by have := hiff.mpr h; omega
             rw [hb i]
             constructor
             · rintro ⟨h1, h2⟩
               exact ⟨by omega, h2⟩
             · rintro ⟨h1, h2⟩
               by_cases e : i = s
               · subst e; exact absurd h2 hx
               · exact ⟨by omega, h2⟩)
  refine j_iconst (pc := 0) dX2_wakers_0 ?_
  refine j_istore4 (pc := 1) dX2_wakers_1 (by decide) rfl ?_
  refine j_iconst (pc := 3) dX2_wakers_3 ?_
  refine j_istore5 (pc := 4) dX2_wakers_4 (by decide) rfl ?_
  exact key 0 0 (by omega) (by omega) (fun i => by simp)
/-- no noise up to here wakes anybody -/
def isMo (f : Nat → Int) (room : Nat) (mi : Int) (S : Nat) (v : Int) : Prop := 0 ≤ v ∧ v ≤ 30 ∧ ∀ n : Int, n ≤ 30 → (n ≤ v ↔ ∀ s : Nat, s < S → ¬ wkB f n room mi s)
theorem c_loudest (X : jX) (I : jMI) (f : Nat → Int) (room : Nat) (mi : Int) (hH : hR f I 2) (hok : okSt f) (hr : room < 8) (hm : 0 ≤ mi ∧ mi ≤ 59) : C_X2_loudest X [jR 2, jI room, jI mi] I (fun r I' => (∃ S : Nat, f 5 = S ∧ isMo f room mi S r) ∧ I' = I) := by
  refine CG.of (by decide) [some (jR 2), some (jI room), some (jI mi), none, none] rfl (Nat.le_of_ble_eq_true rfl) ?_
  obtain ⟨S, hS, hS5⟩ := okSt_5 hok
  have key : ∀ (s : Nat) (v : Int), s ≤ S → isMo f room mi s v → S_X2_loudest X 6 [some (jR 2), some (jI room), some (jI mi), some (jI v), some (jI s)] [] I (fun r I' => (∃ S : Nat, f 5 = S ∧ isMo f room mi S r) ∧ I' = I) := by
    refine mu2 (fun s _ => 5 - s) _ (fun s v ih hs hv => ?_)
    have hv0 := hv.1
    have hv1 := hv.2.1
    refine j_iload (pc := 6) dX2_loudest_6 rfl ?_
    refine j_aload_n (pc := 8) dX2_loudest_8 rfl ?_
    refine j_getI (pc := 9) f_X2_61 dX2_loudest_9 rfl rfl (by decide) ?_
    rw [show I 2 9 = (S : Int) from hH.1.trans hS]
    refine j_icmp_ge (pc := 12) 36 dX2_loudest_12 (by decide) (by omega) (by omega) (fun h_12 => ?_) (fun h_12 => ?_)
    · refine j_iload_n (pc := 36) dX2_loudest_36 rfl ?_
      refine j_reti dX2_loudest_37 (?_) rfl
      obtain rfl : s = S := by omega
      exact ⟨⟨s, hS, hv⟩, rfl⟩
    · refine j_iload_n (pc := 15) dX2_loudest_15 rfl ?_
      refine j_aload_n (pc := 16) dX2_loudest_16 rfl ?_
      refine j_iload (pc := 17) dX2_loudest_17 rfl ?_
      refine j_iload_n (pc := 19) dX2_loudest_19 rfl ?_
      refine j_iload_n (pc := 20) dX2_loudest_20 rfl ?_
      refine j_goI (pc := 21) (j_runV k_X2_90 m_X2_leastNoise (c_least X I f s room mi hH hok (by omega) (by omega) hr hm) dX2_loudest_21 rfl (by decide) rfl (by decide) (by decide) rfl rfl (Nat.le_of_ble_eq_true rfl)) (fun r1 I1 h1 => ?_)
      obtain ⟨h1, rfl⟩ := h1
      have hrr := isLn_rng (okSt_sl3 hok (show s < 5 by omega)).2.2 h1
      refine j_iconst (pc := 24) dX2_loudest_24 ?_
      refine j_isub (pc := 25) dX2_loudest_25 ?_
      refine j_goI (pc := 26) (j_runS k_X2_81 m_J9_min_7cf53 (c_min X I1 v (r1 - 1) (by omega) (by omega)) dX2_loudest_26 (by decide) rfl rfl (Nat.le_of_ble_eq_true rfl)) (fun r2 I2 h2 => ?_)
      obtain ⟨h2, rfl⟩ := h2
      refine j_istore_n3 (pc := 29) dX2_loudest_29 (by decide) rfl ?_
      refine j_iinc4 (pc := 30) dX2_loudest_30 (by decide) rfl ?_
      refine j_goto (pc := 33) 6 dX2_loudest_33 (by decide) ?_
      refine ih (s + 1) r2 (by omega) (by omega) ⟨by split at h2 <;> omega, by split at h2 <;> omega, fun n hn => ?_⟩
      have hiff := isLn_w (n := n) hr (okSt_sl3 hok (show s < 5 by omega)).2.2 hn h1
      have hold := hv.2.2 n hn
      have e : n ≤ r2 ↔ (n ≤ v ∧ ¬ r1 ≤ n) := by split at h2 <;> omega
      rw [e, hiff, hold]
      constructor
      · rintro ⟨h3, h4⟩ i hi
        by_cases e : i = s
        · subst e; exact h4
        · exact h3 i (by omega)
      · intro h3
        exact ⟨fun i hi => h3 i (by omega), h3 s (by omega)⟩
  refine j_bipush (pc := 0) dX2_loudest_0 (by decide) ?_
  refine j_istore_n3 (pc := 2) dX2_loudest_2 (by decide) rfl ?_
  refine j_iconst (pc := 3) dX2_loudest_3 ?_
  refine j_istore4 (pc := 4) dX2_loudest_4 (by decide) rfl ?_
  exact key 0 30 (by omega) ⟨by omega, by omega, fun n hn => ⟨fun _ s hs => by omega, fun _ => hn⟩⟩
/-! what a house is given -/
def hAddSl (I : jMI) (H s : Nat) (k r e : Int) : jMI := jSf (jSf (jSf (jSf I (H + 10) (jU (I (H + 10)) s k)) (H + 11) (jU (I (H + 11)) s r)) (H + 12) (jU (I (H + 12)) s e)) H (jU (I H) 9 ((s : Int) + 1))
def hAddTh (I : jMI) (H t : Nat) (h : Int) : jMI := jSf (jSf (jSf I (H + 13) (jU (I (H + 13)) t h)) (H + 14) (jU (I (H + 14)) t 0)) H (jU (I H) 10 ((t : Int) + 1))
def hAddOw (I : jMI) (H t c : Nat) (p : Int) : jMI := jSf (jSf I (H + 15) (jU (I (H + 15)) (4 * t + c) p)) (H + 14) (jU (I (H + 14)) t ((c : Int) + 1))
theorem c_hSl2 (X : jX) (I : jMI) (s : Nat) (k r e : Int) (hs : I 2 9 = s) (hs5 : s < 5) : C_X2_addSleeper X [jR 2, jI k, jI r, jI e] I (fun v I' => v = s ∧ I' = hAddSl I 2 s k r e) := by
  refine CG.of (by decide) [some (jR 2), some (jI k), some (jI r), some (jI e)] rfl (Nat.le_of_ble_eq_true rfl) ?_
  refine j_aload_n (pc := 0) dX2_addSleeper_0 rfl ?_
  refine j_getR (pc := 1) f_X2_40 dX2_addSleeper_1 rfl rfl (by decide) rfl ?_
  refine j_aload_n (pc := 4) dX2_addSleeper_4 rfl ?_
  refine j_getI (pc := 5) f_X2_61 dX2_addSleeper_5 rfl rfl (by decide) ?_
  rw [hs]
  refine j_iload_n (pc := 8) dX2_addSleeper_8 rfl ?_
  refine j_iast_b (pc := 9) (s) dX2_addSleeper_9 rfl (by decide) (by decide) (by omega) (by omega) ?_
  refine j_aload_n (pc := 10) dX2_addSleeper_10 rfl ?_
  refine j_getR (pc := 11) f_X2_43 dX2_addSleeper_11 rfl rfl (by decide) rfl ?_
  refine j_aload_n (pc := 14) dX2_addSleeper_14 rfl ?_
  refine j_getI_c (pc := 15) f_X2_61 dX2_addSleeper_15 rfl rfl (by decide) (by decide) ?_
  rw [hs]
  refine j_iload_n (pc := 18) dX2_addSleeper_18 rfl ?_
  refine j_iast_b (pc := 19) (s) dX2_addSleeper_19 rfl (by decide) (by decide) (by omega) (by omega) ?_
  refine j_aload_n (pc := 20) dX2_addSleeper_20 rfl ?_
  refine j_getR (pc := 21) f_X2_46 dX2_addSleeper_21 rfl rfl (by decide) rfl ?_
  refine j_aload_n (pc := 24) dX2_addSleeper_24 rfl ?_
  refine j_getI_c (pc := 25) f_X2_61 dX2_addSleeper_25 rfl rfl (by decide) (by decide) ?_
  rw [jSf_n (by decide), hs]
  refine j_iload_n (pc := 28) dX2_addSleeper_28 rfl ?_
  refine j_iast_b (pc := 29) (s) dX2_addSleeper_29 rfl (by decide) (by decide) (by omega) (by omega) ?_
  refine j_aload_n (pc := 30) dX2_addSleeper_30 rfl ?_
  refine j_dupR (pc := 31) dX2_addSleeper_31 ?_
  refine j_getI_c (pc := 32) f_X2_61 dX2_addSleeper_32 rfl rfl (by decide) (by decide) ?_
  rw [jSf_n (by decide), jSf_n (by decide), hs]
  refine j_iconst (pc := 35) dX2_addSleeper_35 ?_
  refine j_iadd (pc := 36) dX2_addSleeper_36 ?_
  refine j_putI_b (pc := 37) f_X2_61 dX2_addSleeper_37 rfl rfl rfl (by decide) ?_
  refine j_aload_n (pc := 40) dX2_addSleeper_40 rfl ?_
  refine j_getI_a (pc := 41) f_X2_61 dX2_addSleeper_41 rfl rfl (by decide) ?_
  rw [jU_s]
  refine j_iconst (pc := 44) dX2_addSleeper_44 ?_
  refine j_isub (pc := 45) dX2_addSleeper_45 ?_
  refine j_reti dX2_addSleeper_46 (?_) rfl
  refine ⟨by omega, ?_⟩
  unfold hAddSl
  rw [jSf_n (k' := 13) (by decide), jSf_n (k' := 14) (by decide), jSf_n (k' := 14) (by decide), jSf_n (k' := 2) (by decide), jSf_n (k' := 2) (by decide), jSf_n (k' := 2) (by decide)]
theorem c_hTh2 (X : jX) (I : jMI) (t : Nat) (h : Int) (ht : I 2 10 = t) (ht5 : t < 5) : C_X2_addThing X [jR 2, jI h] I (fun v I' => v = t ∧ I' = hAddTh I 2 t h) := by
  refine CG.of (by decide) [some (jR 2), some (jI h)] rfl (Nat.le_of_ble_eq_true rfl) ?_
  refine j_aload_n (pc := 0) dX2_addThing_0 rfl ?_
  refine j_getR (pc := 1) f_X2_49 dX2_addThing_1 rfl rfl (by decide) rfl ?_
  refine j_aload_n (pc := 4) dX2_addThing_4 rfl ?_
  refine j_getI (pc := 5) f_X2_65 dX2_addThing_5 rfl rfl (by decide) ?_
  rw [ht]
  refine j_iload_n (pc := 8) dX2_addThing_8 rfl ?_
  refine j_iast_b (pc := 9) (t) dX2_addThing_9 rfl (by decide) (by decide) (by omega) (by omega) ?_
  refine j_aload_n (pc := 10) dX2_addThing_10 rfl ?_
  refine j_getR (pc := 11) f_X2_52 dX2_addThing_11 rfl rfl (by decide) rfl ?_
  refine j_aload_n (pc := 14) dX2_addThing_14 rfl ?_
  refine j_getI_c (pc := 15) f_X2_65 dX2_addThing_15 rfl rfl (by decide) (by decide) ?_
  rw [ht]
  refine j_iconst (pc := 18) dX2_addThing_18 ?_
  refine j_iast_b (pc := 19) (t) dX2_addThing_19 rfl (by decide) (by decide) (by omega) (by omega) ?_
  refine j_aload_n (pc := 20) dX2_addThing_20 rfl ?_
  refine j_dupR (pc := 21) dX2_addThing_21 ?_
  refine j_getI_c (pc := 22) f_X2_65 dX2_addThing_22 rfl rfl (by decide) (by decide) ?_
  rw [jSf_n (by decide), ht]
  refine j_iconst (pc := 25) dX2_addThing_25 ?_
  refine j_iadd (pc := 26) dX2_addThing_26 ?_
  refine j_putI_b (pc := 27) f_X2_65 dX2_addThing_27 rfl rfl rfl (by decide) ?_
  refine j_aload_n (pc := 30) dX2_addThing_30 rfl ?_
  refine j_getI_a (pc := 31) f_X2_65 dX2_addThing_31 rfl rfl (by decide) ?_
  rw [jU_s]
  refine j_iconst (pc := 34) dX2_addThing_34 ?_
  refine j_isub (pc := 35) dX2_addThing_35 ?_
  refine j_reti dX2_addThing_36 (?_) rfl
  refine ⟨by omega, ?_⟩
  unfold hAddTh
  rw [jSf_n (k' := 16) (by decide), jSf_n (k' := 2) (by decide), jSf_n (k' := 2) (by decide)]
theorem c_hOw2 (X : jX) (I : jMI) (t c : Nat) (p : Int) (ht : t < 5) (hc : I 16 t = c) (hc4 : c < 4) : C_X2_addOwner X [jR 2, jI t, jI p] I (fun v I' => v = c + 1 ∧ I' = hAddOw I 2 t c p) := by
  refine CG.of (by decide) [some (jR 2), some (jI t), some (jI p)] rfl (Nat.le_of_ble_eq_true rfl) ?_
  refine j_aload_n (pc := 0) dX2_addOwner_0 rfl ?_
  refine j_getR (pc := 1) f_X2_55 dX2_addOwner_1 rfl rfl (by decide) rfl ?_
  refine j_iload_n (pc := 4) dX2_addOwner_4 rfl ?_
  refine j_iconst (pc := 5) dX2_addOwner_5 ?_
  refine j_imul (pc := 6) dX2_addOwner_6 ?_
  refine j_aload_n (pc := 7) dX2_addOwner_7 rfl ?_
  refine j_getR (pc := 8) f_X2_52 dX2_addOwner_8 rfl rfl (by decide) rfl ?_
  refine j_iload_n (pc := 11) dX2_addOwner_11 rfl ?_
  refine j_iald_b (pc := 12) (t) dX2_addOwner_12 rfl (by decide) (by decide) (by omega) (by omega) ?_
  rw [hc]
  refine j_iadd (pc := 13) dX2_addOwner_13 ?_
  refine j_iload_n (pc := 14) dX2_addOwner_14 rfl ?_
  refine j_iast_b (pc := 15) (4 * t + c) dX2_addOwner_15 rfl (by decide) (by decide) (by omega) (by omega) ?_
  refine j_aload_n (pc := 16) dX2_addOwner_16 rfl ?_
  refine j_getR (pc := 17) f_X2_52 dX2_addOwner_17 rfl rfl (by decide) rfl ?_
  refine j_iload_n (pc := 20) dX2_addOwner_20 rfl ?_
  refine j_dup2 (pc := 21) dX2_addOwner_21 ?_
  refine j_iald_c (pc := 22) (t) dX2_addOwner_22 rfl (by decide) (by decide) (by omega) (by omega) (by decide) ?_
  rw [hc]
  refine j_iconst (pc := 23) dX2_addOwner_23 ?_
  refine j_iadd (pc := 24) dX2_addOwner_24 ?_
  refine j_iast_b (pc := 25) (t) dX2_addOwner_25 rfl (by decide) (by decide) (by omega) (by omega) ?_
  refine j_aload_n (pc := 26) dX2_addOwner_26 rfl ?_
  refine j_getR (pc := 27) f_X2_52 dX2_addOwner_27 rfl rfl (by decide) rfl ?_
  refine j_iload_n (pc := 30) dX2_addOwner_30 rfl ?_
  refine j_iald_a (pc := 31) (t) dX2_addOwner_31 rfl (by decide) (by decide) (by omega) (by omega) ?_
  rw [jU_s]
  refine j_reti dX2_addOwner_32 (?_) rfl
  refine ⟨rfl, ?_⟩
  unfold hAddOw
  rw [jSf_n (k' := 16) (by decide)]
theorem c_hLast2 (X : jX) (I : jMI) (t c : Nat) (ht : t < 5) (hc : I 16 t = c) (hc4 : c ≤ 4) : C_X2_lastOwner X [jR 2, jI t] I (fun v I' => v = (if c = 0 then -1 else I 17 (4 * t + c - 1)) ∧ I' = I) := by
  refine CG.of (by decide) [some (jR 2), some (jI t), none] rfl (Nat.le_of_ble_eq_true rfl) ?_
  refine j_aload_n (pc := 0) dX2_lastOwner_0 rfl ?_
  refine j_getR (pc := 1) f_X2_52 dX2_lastOwner_1 rfl rfl (by decide) rfl ?_
  refine j_iload_n (pc := 4) dX2_lastOwner_4 rfl ?_
  refine j_iald_b (pc := 5) (t) dX2_lastOwner_5 rfl (by decide) (by decide) (by omega) (by omega) ?_
  rw [hc]
  refine j_istore_n2 (pc := 6) dX2_lastOwner_6 (by decide) rfl ?_
  refine j_iload_n (pc := 7) dX2_lastOwner_7 rfl ?_
  refine j_if_ne (pc := 8) 15 dX2_lastOwner_8 (by decide) (by omega) (fun h_8 => ?_) (fun h_8 => ?_)
  · refine j_aload_n (pc := 15) dX2_lastOwner_15 rfl ?_
    refine j_getR (pc := 16) f_X2_55 dX2_lastOwner_16 rfl rfl (by decide) rfl ?_
    refine j_iload_n (pc := 19) dX2_lastOwner_19 rfl ?_
    refine j_iconst (pc := 20) dX2_lastOwner_20 ?_
    refine j_imul (pc := 21) dX2_lastOwner_21 ?_
    refine j_iload_n (pc := 22) dX2_lastOwner_22 rfl ?_
    refine j_iadd (pc := 23) dX2_lastOwner_23 ?_
    refine j_iconst (pc := 24) dX2_lastOwner_24 ?_
    refine j_isub (pc := 25) dX2_lastOwner_25 ?_
    refine j_iald_b (pc := 26) (4 * t + c - 1) dX2_lastOwner_26 rfl (by decide) (by decide) (by omega) (by omega) ?_
    refine j_reti dX2_lastOwner_27 (?_) rfl
    refine ⟨?_, rfl⟩
    first
      | rw [if_pos (by omega)]
      | rw [if_neg (by omega)]
  · refine j_iconst (pc := 11) dX2_lastOwner_11 ?_
    refine j_goto (pc := 12) 27 dX2_lastOwner_12 (by decide) ?_
    refine j_reti dX2_lastOwner_27 (?_) rfl
    refine ⟨?_, rfl⟩
    first
      | rw [if_pos (by omega)]
      | rw [if_neg (by omega)]
theorem c_hSl80 (X : jX) (I : jMI) (s : Nat) (k r e : Int) (hs : I 80 9 = s) (hs5 : s < 5) : C_X2_addSleeper X [jR 80, jI k, jI r, jI e] I (fun v I' => v = s ∧ I' = hAddSl I 80 s k r e) := by
  refine CG.of (by decide) [some (jR 80), some (jI k), some (jI r), some (jI e)] rfl (Nat.le_of_ble_eq_true rfl) ?_
  refine j_aload_n (pc := 0) dX2_addSleeper_0 rfl ?_
  refine j_getR (pc := 1) f_X2_40 dX2_addSleeper_1 rfl rfl (by decide) rfl ?_
  refine j_aload_n (pc := 4) dX2_addSleeper_4 rfl ?_
  refine j_getI (pc := 5) f_X2_61 dX2_addSleeper_5 rfl rfl (by decide) ?_
  rw [hs]
  refine j_iload_n (pc := 8) dX2_addSleeper_8 rfl ?_
  refine j_iast_b (pc := 9) (s) dX2_addSleeper_9 rfl (by decide) (by decide) (by omega) (by omega) ?_
  refine j_aload_n (pc := 10) dX2_addSleeper_10 rfl ?_
  refine j_getR (pc := 11) f_X2_43 dX2_addSleeper_11 rfl rfl (by decide) rfl ?_
  refine j_aload_n (pc := 14) dX2_addSleeper_14 rfl ?_
  refine j_getI_c (pc := 15) f_X2_61 dX2_addSleeper_15 rfl rfl (by decide) (by decide) ?_
  rw [hs]
  refine j_iload_n (pc := 18) dX2_addSleeper_18 rfl ?_
  refine j_iast_b (pc := 19) (s) dX2_addSleeper_19 rfl (by decide) (by decide) (by omega) (by omega) ?_
  refine j_aload_n (pc := 20) dX2_addSleeper_20 rfl ?_
  refine j_getR (pc := 21) f_X2_46 dX2_addSleeper_21 rfl rfl (by decide) rfl ?_
  refine j_aload_n (pc := 24) dX2_addSleeper_24 rfl ?_
  refine j_getI_c (pc := 25) f_X2_61 dX2_addSleeper_25 rfl rfl (by decide) (by decide) ?_
  rw [jSf_n (by decide), hs]
  refine j_iload_n (pc := 28) dX2_addSleeper_28 rfl ?_
  refine j_iast_b (pc := 29) (s) dX2_addSleeper_29 rfl (by decide) (by decide) (by omega) (by omega) ?_
  refine j_aload_n (pc := 30) dX2_addSleeper_30 rfl ?_
  refine j_dupR (pc := 31) dX2_addSleeper_31 ?_
  refine j_getI_c (pc := 32) f_X2_61 dX2_addSleeper_32 rfl rfl (by decide) (by decide) ?_
  rw [jSf_n (by decide), jSf_n (by decide), hs]
  refine j_iconst (pc := 35) dX2_addSleeper_35 ?_
  refine j_iadd (pc := 36) dX2_addSleeper_36 ?_
  refine j_putI_b (pc := 37) f_X2_61 dX2_addSleeper_37 rfl rfl rfl (by decide) ?_
  refine j_aload_n (pc := 40) dX2_addSleeper_40 rfl ?_
  refine j_getI_a (pc := 41) f_X2_61 dX2_addSleeper_41 rfl rfl (by decide) ?_
  rw [jU_s]
  refine j_iconst (pc := 44) dX2_addSleeper_44 ?_
  refine j_isub (pc := 45) dX2_addSleeper_45 ?_
  refine j_reti dX2_addSleeper_46 (?_) rfl
  refine ⟨by omega, ?_⟩
  unfold hAddSl
  rw [jSf_n (k' := 91) (by decide), jSf_n (k' := 92) (by decide), jSf_n (k' := 92) (by decide), jSf_n (k' := 80) (by decide), jSf_n (k' := 80) (by decide), jSf_n (k' := 80) (by decide)]
theorem c_hTh80 (X : jX) (I : jMI) (t : Nat) (h : Int) (ht : I 80 10 = t) (ht5 : t < 5) : C_X2_addThing X [jR 80, jI h] I (fun v I' => v = t ∧ I' = hAddTh I 80 t h) := by
  refine CG.of (by decide) [some (jR 80), some (jI h)] rfl (Nat.le_of_ble_eq_true rfl) ?_
  refine j_aload_n (pc := 0) dX2_addThing_0 rfl ?_
  refine j_getR (pc := 1) f_X2_49 dX2_addThing_1 rfl rfl (by decide) rfl ?_
  refine j_aload_n (pc := 4) dX2_addThing_4 rfl ?_
  refine j_getI (pc := 5) f_X2_65 dX2_addThing_5 rfl rfl (by decide) ?_
  rw [ht]
  refine j_iload_n (pc := 8) dX2_addThing_8 rfl ?_
  refine j_iast_b (pc := 9) (t) dX2_addThing_9 rfl (by decide) (by decide) (by omega) (by omega) ?_
  refine j_aload_n (pc := 10) dX2_addThing_10 rfl ?_
  refine j_getR (pc := 11) f_X2_52 dX2_addThing_11 rfl rfl (by decide) rfl ?_
  refine j_aload_n (pc := 14) dX2_addThing_14 rfl ?_
  refine j_getI_c (pc := 15) f_X2_65 dX2_addThing_15 rfl rfl (by decide) (by decide) ?_
  rw [ht]
  refine j_iconst (pc := 18) dX2_addThing_18 ?_
  refine j_iast_b (pc := 19) (t) dX2_addThing_19 rfl (by decide) (by decide) (by omega) (by omega) ?_
  refine j_aload_n (pc := 20) dX2_addThing_20 rfl ?_
  refine j_dupR (pc := 21) dX2_addThing_21 ?_
  refine j_getI_c (pc := 22) f_X2_65 dX2_addThing_22 rfl rfl (by decide) (by decide) ?_
  rw [jSf_n (by decide), ht]
  refine j_iconst (pc := 25) dX2_addThing_25 ?_
  refine j_iadd (pc := 26) dX2_addThing_26 ?_
  refine j_putI_b (pc := 27) f_X2_65 dX2_addThing_27 rfl rfl rfl (by decide) ?_
  refine j_aload_n (pc := 30) dX2_addThing_30 rfl ?_
  refine j_getI_a (pc := 31) f_X2_65 dX2_addThing_31 rfl rfl (by decide) ?_
  rw [jU_s]
  refine j_iconst (pc := 34) dX2_addThing_34 ?_
  refine j_isub (pc := 35) dX2_addThing_35 ?_
  refine j_reti dX2_addThing_36 (?_) rfl
  refine ⟨by omega, ?_⟩
  unfold hAddTh
  rw [jSf_n (k' := 94) (by decide), jSf_n (k' := 80) (by decide), jSf_n (k' := 80) (by decide)]
theorem c_hOw80 (X : jX) (I : jMI) (t c : Nat) (p : Int) (ht : t < 5) (hc : I 94 t = c) (hc4 : c < 4) : C_X2_addOwner X [jR 80, jI t, jI p] I (fun v I' => v = c + 1 ∧ I' = hAddOw I 80 t c p) := by
  refine CG.of (by decide) [some (jR 80), some (jI t), some (jI p)] rfl (Nat.le_of_ble_eq_true rfl) ?_
  refine j_aload_n (pc := 0) dX2_addOwner_0 rfl ?_
  refine j_getR (pc := 1) f_X2_55 dX2_addOwner_1 rfl rfl (by decide) rfl ?_
  refine j_iload_n (pc := 4) dX2_addOwner_4 rfl ?_
  refine j_iconst (pc := 5) dX2_addOwner_5 ?_
  refine j_imul (pc := 6) dX2_addOwner_6 ?_
  refine j_aload_n (pc := 7) dX2_addOwner_7 rfl ?_
  refine j_getR (pc := 8) f_X2_52 dX2_addOwner_8 rfl rfl (by decide) rfl ?_
  refine j_iload_n (pc := 11) dX2_addOwner_11 rfl ?_
  refine j_iald_b (pc := 12) (t) dX2_addOwner_12 rfl (by decide) (by decide) (by omega) (by omega) ?_
  rw [hc]
  refine j_iadd (pc := 13) dX2_addOwner_13 ?_
  refine j_iload_n (pc := 14) dX2_addOwner_14 rfl ?_
  refine j_iast_b (pc := 15) (4 * t + c) dX2_addOwner_15 rfl (by decide) (by decide) (by omega) (by omega) ?_
  refine j_aload_n (pc := 16) dX2_addOwner_16 rfl ?_
  refine j_getR (pc := 17) f_X2_52 dX2_addOwner_17 rfl rfl (by decide) rfl ?_
  refine j_iload_n (pc := 20) dX2_addOwner_20 rfl ?_
  refine j_dup2 (pc := 21) dX2_addOwner_21 ?_
  refine j_iald_c (pc := 22) (t) dX2_addOwner_22 rfl (by decide) (by decide) (by omega) (by omega) (by decide) ?_
  rw [hc]
  refine j_iconst (pc := 23) dX2_addOwner_23 ?_
  refine j_iadd (pc := 24) dX2_addOwner_24 ?_
  refine j_iast_b (pc := 25) (t) dX2_addOwner_25 rfl (by decide) (by decide) (by omega) (by omega) ?_
  refine j_aload_n (pc := 26) dX2_addOwner_26 rfl ?_
  refine j_getR (pc := 27) f_X2_52 dX2_addOwner_27 rfl rfl (by decide) rfl ?_
  refine j_iload_n (pc := 30) dX2_addOwner_30 rfl ?_
  refine j_iald_a (pc := 31) (t) dX2_addOwner_31 rfl (by decide) (by decide) (by omega) (by omega) ?_
  rw [jU_s]
  refine j_reti dX2_addOwner_32 (?_) rfl
  refine ⟨rfl, ?_⟩
  unfold hAddOw
  rw [jSf_n (k' := 94) (by decide)]
theorem c_hLast80 (X : jX) (I : jMI) (t c : Nat) (ht : t < 5) (hc : I 94 t = c) (hc4 : c ≤ 4) : C_X2_lastOwner X [jR 80, jI t] I (fun v I' => v = (if c = 0 then -1 else I 95 (4 * t + c - 1)) ∧ I' = I) := by
  refine CG.of (by decide) [some (jR 80), some (jI t), none] rfl (Nat.le_of_ble_eq_true rfl) ?_
  refine j_aload_n (pc := 0) dX2_lastOwner_0 rfl ?_
  refine j_getR (pc := 1) f_X2_52 dX2_lastOwner_1 rfl rfl (by decide) rfl ?_
  refine j_iload_n (pc := 4) dX2_lastOwner_4 rfl ?_
  refine j_iald_b (pc := 5) (t) dX2_lastOwner_5 rfl (by decide) (by decide) (by omega) (by omega) ?_
  rw [hc]
  refine j_istore_n2 (pc := 6) dX2_lastOwner_6 (by decide) rfl ?_
  refine j_iload_n (pc := 7) dX2_lastOwner_7 rfl ?_
  refine j_if_ne (pc := 8) 15 dX2_lastOwner_8 (by decide) (by omega) (fun h_8 => ?_) (fun h_8 => ?_)
  · refine j_aload_n (pc := 15) dX2_lastOwner_15 rfl ?_
    refine j_getR (pc := 16) f_X2_55 dX2_lastOwner_16 rfl rfl (by decide) rfl ?_
    refine j_iload_n (pc := 19) dX2_lastOwner_19 rfl ?_
    refine j_iconst (pc := 20) dX2_lastOwner_20 ?_
    refine j_imul (pc := 21) dX2_lastOwner_21 ?_
    refine j_iload_n (pc := 22) dX2_lastOwner_22 rfl ?_
    refine j_iadd (pc := 23) dX2_lastOwner_23 ?_
    refine j_iconst (pc := 24) dX2_lastOwner_24 ?_
    refine j_isub (pc := 25) dX2_lastOwner_25 ?_
    refine j_iald_b (pc := 26) (4 * t + c - 1) dX2_lastOwner_26 rfl (by decide) (by decide) (by omega) (by omega) ?_
    refine j_reti dX2_lastOwner_27 (?_) rfl
    refine ⟨?_, rfl⟩
    first
      | rw [if_pos (by omega)]
      | rw [if_neg (by omega)]
  · refine j_iconst (pc := 11) dX2_lastOwner_11 ?_
    refine j_goto (pc := 12) 27 dX2_lastOwner_12 (by decide) ?_
    refine j_reti dX2_lastOwner_27 (?_) rfl
    refine ⟨?_, rfl⟩
    first
      | rw [if_pos (by omega)]
      | rw [if_neg (by omega)]
