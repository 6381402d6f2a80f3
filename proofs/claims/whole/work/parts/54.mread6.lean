theorem pAll_h {b : Nat → Int} {n p : Nat} {f : Nat → Int} (hw : isWd b n (tS b n 0) wHouse) (hs : pStop b n (tE b n (tS b n 0)) f = .ok (p, f)) : pAll b n f = pRest b n 145 1 p f := by
  unfold pAll; rw [if_pos hw, hs]
theorem pAll_e {b : Nat → Int} {n s : Nat} {f : Nat → Int} (hw : isWd b n (tS b n 0) wHouse) (hs : pStop b n (tE b n (tS b n 0)) f = .error s) : pAll b n f = .error s := by
  unfold pAll; rw [if_pos hw, hs]
theorem pAll_n {b : Nat → Int} {n : Nat} {f : Nat → Int} (hw : ¬ isWd b n (tS b n 0) wHouse) : pAll b n f = .error (tS b n 0) := by
  unfold pAll; rw [if_neg hw]
theorem pRest_0 {b : Nat → Int} {n k it p : Nat} {f : Nat → Int} (h : tSo b n (tS b n p) = 0) : pRest b n (k + 1) it p f = .ok (it, f) := by
  unfold pRest; rw [if_pos h]
theorem pRest_e {b : Nat → Int} {n k it p s : Nat} {f : Nat → Int} (h : tSo b n (tS b n p) ≠ 0) (he : pItem b n (tS b n p) f = .error s) : pRest b n (k + 1) it p f = .error s := by
  rw [pRest, if_neg h, he]
theorem pRest_s {b : Nat → Int} {n k it p p' : Nat} {f f' : Nat → Int} (h : tSo b n (tS b n p) ≠ 0) (he : pItem b n (tS b n p) f = .ok (p', f')) : pRest b n (k + 1) it p f = pRest b n k (it + 1) p' f' := by
  rw [pRest, if_neg h, he]
theorem okSt_st0 (g : Nat → Int) : okSt (st0 g) := by
  intro k hk
  unfold st0 stLo stHi
  by_cases h : k < 71
  · rw [if_pos h, if_pos h]
    refine ⟨by omega, ?_⟩
    repeat' split
    all_goals omega
  · rw [if_neg h, if_neg h, if_pos hk]
    refine ⟨by omega, ?_⟩
    repeat' split
    all_goals omega
/-- how the text's reading ends -/
def txQ (b : Nat → Int) (n : Nat) (ap : Int) (I : jMI) (r : Int) (I' : jMI) : Prop :=
  (∃ (c : Nat) (f' : Nat → Int), r = c ∧ pAll b n (st0 (I 106)) = .ok (c, f') ∧ (ap = 1 → I' 106 = f' ∧ I' 105 16 = 0 ∧ frU (mAnew I) I') ∧ (ap = 0 → frT I I')) ∨ (r = -1 ∧ ∃ s, pAll b n (st0 (I 106)) = .error s ∧ I' 105 9 = (s : Nat) ∧ s ≤ n ∧ (ap = 0 → frT I I'))
theorem pNum_n {b : Nat → Int} {n p s : Nat} {most : Int} (hp : p ≤ n) (h : pNum b n p most = .error s) : s ≤ n := by
  rw [pNum_er h]; exact (tS_rng hp).2
theorem pStop_n {b : Nat → Int} {n p s : Nat} {f : Nat → Int} (hp : p ≤ n) (h : pStop b n p f = .error s) : s ≤ n := by
  unfold pStop at h
  split at h
  · exact absurd h (by simp)
  · rw [← Except.error.inj h]; exact (tS_rng hp).2
theorem pOwn_n {b : Nat → Int} {n t : Nat} : ∀ (k p : Nat) (f : Nat → Int) {s : Nat}, p ≤ n → pOwn b n t k p f = .error s → s ≤ n := by
  intro k
  induction k with
  | zero => intro p f s hp h; exact pStop_n hp h
  | succ k ih =>
    intro p f s hp h
    have e : pOwn b n t (k + 1) p f = if tSo b n (tS b n p) = 3 then .ok (tE b n (tS b n p), f) else if tSo b n (tS b n p) = 2 ∧ tV b n (tS b n p) ≤ 2 ∧ tV b n (tS b n p) ≠ lastF f t then pOwn b n t k (tE b n (tS b n p)) (mAddOw f t (3 - k) (tV b n (tS b n p))) else .error (tS b n p) := rfl
    rw [e] at h
    split at h
    · exact absurd h (by simp)
    · split at h
      · exact ih _ _ (tE_rng (tS_rng hp).2).2 h
      · rw [← Except.error.inj h]; exact (tS_rng hp).2
theorem pItem_n {b : Nat → Int} {n s s' : Nat} {f : Nat → Int} (hs : s ≤ n) (h : pItem b n s f = .error s') : s' ≤ n := by
  have hE := (tE_rng (b := b) hs).2
  unfold pItem at h
  split at h
  · unfold pStair at h
    cases h1 : pNum b n (tE b n s) 7 with
    | error s2 => rw [h1] at h; rw [← Except.error.inj h]; exact pNum_n hE h1
    | ok x =>
      obtain ⟨a, p1⟩ := x
      obtain ⟨-, -, -, a4, -⟩ := pNum_ok hE h1
      rw [h1] at h; dsimp only at h
      cases h2 : pNum b n p1 7 with
      | error s2 => rw [h2] at h; rw [← Except.error.inj h]; exact pNum_n a4 h2
      | ok x =>
        obtain ⟨c, p2⟩ := x
        obtain ⟨-, -, -, c4, -⟩ := pNum_ok a4 h2
        rw [h2] at h; dsimp only at h
        split at h
        · rw [← Except.error.inj h]; exact (tS_rng a4).2
        · cases h3 : pNum b n p2 9 with
          | error s2 => rw [h3] at h; rw [← Except.error.inj h]; exact pNum_n c4 h3
          | ok x =>
            obtain ⟨v, p3⟩ := x
            obtain ⟨-, -, -, v4, -⟩ := pNum_ok c4 h3
            rw [h3] at h; dsimp only at h
            exact pStop_n v4 h
  · split at h
    · unfold pSleep at h
      split at h
      · rw [← Except.error.inj h]; exact hs
      · cases h1 : pNum b n (tE b n s) 5 with
        | error s2 => rw [h1] at h; rw [← Except.error.inj h]; exact pNum_n hE h1
        | ok x =>
          obtain ⟨a, p1⟩ := x
          obtain ⟨-, -, -, a4, -⟩ := pNum_ok hE h1
          rw [h1] at h; dsimp only at h
          cases h2 : pNum b n p1 7 with
          | error s2 => rw [h2] at h; rw [← Except.error.inj h]; exact pNum_n a4 h2
          | ok x =>
            obtain ⟨c, p2⟩ := x
            obtain ⟨-, -, -, c4, -⟩ := pNum_ok a4 h2
            rw [h2] at h; dsimp only at h
            cases h3 : pNum b n p2 9 with
            | error s2 => rw [h3] at h; rw [← Except.error.inj h]; exact pNum_n c4 h3
            | ok x =>
              obtain ⟨v, p3⟩ := x
              obtain ⟨-, -, -, v4, -⟩ := pNum_ok c4 h3
              rw [h3] at h; dsimp only at h
              exact pStop_n v4 h
    · split at h
      · unfold pThing at h
        split at h
        · rw [← Except.error.inj h]; exact hs
        · cases h1 : pNum b n (tE b n s) 7 with
          | error s2 => rw [h1] at h; rw [← Except.error.inj h]; exact pNum_n hE h1
          | ok x =>
            obtain ⟨a, p1⟩ := x
            obtain ⟨-, -, -, a4, -⟩ := pNum_ok hE h1
            rw [h1] at h; dsimp only at h
            exact pOwn_n _ _ _ a4 h
      · rw [← Except.error.inj h]; exact hs
set_option maxHeartbeats 4000000 in
theorem c_readText (X : jX) (I : jMI) (b : Nat → Int) (n : Nat) (ap : Int) (hn : I 105 5 = (n : Nat)) (hn5 : n ≤ 150) (hbb : I 108 = b) (hb : ∀ i, i < n → 0 ≤ b i ∧ b i ≤ 127) (hap : ap = 0 ∨ ap = 1) : C_X12_readText X [jR 105, jI ap] I (txQ b n ap I) := by
  refine CG.of (by decide) [some (jR 105), some (jI ap), none] rfl (Nat.le_of_ble_eq_true rfl) ?_
  have k21 : ∀ (k it p : Nat) (f : Nat → Int) (J : jMI), it + k = 146 → 1 ≤ it → n - p < k → p ≤ n → pAll b n (st0 (I 106)) = pRest b n k it p f → rdT b n (tS b n p) J → okSt f → J 105 12 = f 5 → J 105 13 = f 21 → (ap = 1 → J 106 = f ∧ J 105 16 = 0 ∧ frU (mAnew I) J) → (ap = 0 → frT I J) → S_X12_readText X 21 [some (jR 105), some (jI ap), some (jI it)] [] J (txQ b n ap I) := by
    intro k
    induction k with
    | zero => intro it p f J _ _ h; omega
    | succ k ih =>
      intro it p f J hk hit hf hp hall hT hok h12 h13 h1 h0
      have hr : rc (tSo b n (tS b n p)) = 3 ↔ tSo b n (tS b n p) = 0 := by unfold rc tSo; repeat' split
                                                                           all_goals omega
      have hr2 : 0 ≤ rc (tSo b n (tS b n p)) ∧ rc (tSo b n (tS b n p)) ≤ 10 := by unfold rc tSo; repeat' split
                                                                                  all_goals omega
      have h7 := hT.2.1
      refine j_iload_n (pc := 21) dX12_readText_21 rfl ?_
      refine j_if_eq (pc := 22) 33 dX12_readText_22 (by decide) (by omega) (fun h_22 => ?_) (fun h_22 => ?_)
      · exact absurd h_22 (by omega)
      · refine j_aload_n (pc := 25) dX12_readText_25 rfl ?_
        refine j_getI (pc := 26) f_X12_145 dX12_readText_26 rfl rfl (by decide) ?_
        rw [h7]
        refine j_iconst (pc := 29) dX12_readText_29 ?_
        refine j_icmp_eq (pc := 30) 54 dX12_readText_30 (by decide) (by omega) (by omega) (fun h_30 => ?_) (fun h_30 => ?_)
        · refine j_iload_n (pc := 54) dX12_readText_54 rfl ?_
          refine j_reti dX12_readText_55 (?_) rfl
          have e0 := hr.mp (by omega)
          exact Or.inl ⟨it, f, rfl, by rw [hall, pRest_0 e0], h1, h0⟩
        · refine j_aload_n (pc := 33) dX12_readText_33 rfl ?_
          refine j_iload_n (pc := 34) dX12_readText_34 rfl ?_
          refine j_iload_n (pc := 35) dX12_readText_35 rfl ?_
          refine j_goI (pc := 36) (j_runV k_X12_191 m_X12_readItem (c_readItem X J b n (tS b n p) it ap f hT (by omega) hok hap h12 h13 (fun h => (h1 h).1)) dX12_readText_36 rfl (by decide) rfl (by decide) (by decide) rfl rfl (Nat.le_of_ble_eq_true rfl)) (fun r1 I1 o1 => ?_)
          have hr1 : r1 = 0 ∨ r1 = 1 := by rcases o1 with ⟨h, _⟩ | ⟨h, _⟩ <;> omega
          refine j_if_ne (pc := 39) 44 dX12_readText_39 (by decide) (by omega) (fun h_39 => ?_) (fun h_39 => ?_)
          · obtain ⟨p', f', e5, e6, e7, e8, e9, e10, e11⟩ := or1 o1 (by omega)
            obtain ⟨t1, t2, t3⟩ := pItem_ok (tS_rng hp).2 hok e5
            refine j_iinc2 (pc := 44) dX12_readText_44 (by decide) rfl ?_
            refine j_aload_n (pc := 47) dX12_readText_47 rfl ?_
            refine j_goV (pc := 48) (j_runV k_X12_160 m_X12_nextToken (c_nextToken X I1 p' n e6.1 e6.2.1 hn5 e6.2.2.2.1 (by rw [e6.2.2.2.2.1]; exact hb)) dX12_readText_48 rfl (by decide) rfl (by decide) (by decide) rfl rfl (Nat.le_of_ble_eq_true rfl)) (fun I2 h2 => ?_)
            obtain ⟨g, rfl, h2⟩ := h2
            rw [e6.2.2.2.2.1] at h2
            obtain ⟨u1, u2⟩ := nT_T e6 h2
            refine j_goto (pc := 51) 21 dX12_readText_51 (by decide) ?_
            have e0 : tSo b n (tS b n p) ≠ 0 := fun h => by have := hr.mpr h; omega
            have hS := tS_rng (b := b) hp
            refine ih (it + 1) p' f' _ (by omega) (by omega) (by omega) t3 (by rw [hall, pRest_s e0 e5]) u1 t1 ?_ ?_ (fun h => ⟨?_, ?_, ?_⟩) (fun h => ?_)
            · rw [u2.2 12 (by omega) (by omega) (by omega) (by omega)]; exact e7
            · rw [u2.2 13 (by omega) (by omega) (by omega) (by omega)]; exact e8
            · rw [u2.1 106 (by omega) (by omega)]; exact e9 h
            · rw [u2.2 16 (by omega) (by omega) (by omega) (by omega), e11.2 16 (by omega) (by omega) (by omega) (by omega) (by omega) (by omega) (by omega)]; exact (h1 h).2.1
            · exact ((h1 h).2.2.tr e11).tr u2.ft.fu
            · refine (h0 h).tr (frT.tr ⟨fun z z1 z2 => ?_, e11.2⟩ u2.ft)
              by_cases hz : z = 106
              · subst hz; exact e10 h
              · exact e11.1 z z1 z2 hz
          · refine j_iconst (pc := 42) dX12_readText_42 ?_
            refine j_reti dX12_readText_43 (?_) rfl
            have e0 : tSo b n (tS b n p) ≠ 0 := fun h => by have := hr.mpr h; omega
            obtain ⟨s', e5, e6, e7⟩ := or0 o1 (by omega)
            exact Or.inr ⟨rfl, s', by rw [hall, pRest_e e0 e5], e6, pItem_n (tS_rng hp).2 e5, fun h => (h0 h).tr (e7 h)⟩
  have hg0 : rdA b n 0 (jSf I 105 (jU (jU (jU (I 105) 6 0) 12 0) 13 0)) := ⟨by rw [jSf_s, jU_n (by omega), jU_n (by omega), jU_s]; rfl, by rw [jSf_s, jU_n (by omega), jU_n (by omega), jU_n (by omega)]; exact hn, hn5, by omega, by rw [jSf_n (by decide)]; exact hbb, hb⟩
  have k0 : ∀ g : Nat → Int, (∀ j, j ≠ 6 → j ≠ 7 → j ≠ 8 → j ≠ 9 → g j = jU (jU (jU (I 105) 6 0) 12 0) 13 0 j) → rdT b n (tS b n 0) (jSf I 105 g) → frT I (jSf I 105 g) → g 12 = 0 → g 13 = 0 → S_X12_readText X 21 [some (jR 105), some (jI ap), some (jI 0)] [] (jSf I 105 g) (txQ b n ap I) := by
    intro g nf u1 f0 g12 g13
    refine j_iload_n (pc := 21) dX12_readText_21 rfl ?_
    refine j_if_eq (pc := 22) 33 dX12_readText_22 (by decide) (by omega) (fun h_22 => ?_) (fun h_22 => ?_)
    · refine j_aload_n (pc := 33) dX12_readText_33 rfl ?_
      refine j_iload_n (pc := 34) dX12_readText_34 rfl ?_
      refine j_iload_n (pc := 35) dX12_readText_35 rfl ?_
      refine j_goI (pc := 36) (j_runV k_X12_191 m_X12_readItem (c_readHouse X (jSf I 105 g) b n (tS b n 0) ap u1 hap) dX12_readText_36 rfl (by decide) rfl (by decide) (by decide) rfl rfl (Nat.le_of_ble_eq_true rfl)) (fun r2 I2 o2 => ?_)
      have hr2 : r2 = 0 ∨ r2 = 1 := by rcases o2 with ⟨h, _⟩ | ⟨h, _⟩ <;> omega
      refine j_if_ne (pc := 39) 44 dX12_readText_39 (by decide) (by omega) (fun h_39 => ?_) (fun h_39 => ?_)
      · obtain ⟨e1, p', e2, e3, e4⟩ := or1 o2 (by omega)
        refine j_iinc2 (pc := 44) dX12_readText_44 (by decide) rfl ?_
        refine j_aload_n (pc := 47) dX12_readText_47 rfl ?_
        refine j_goV (pc := 48) (j_runV k_X12_160 m_X12_nextToken (c_nextToken X I2 p' n e3.1 e3.2.1 hn5 e3.2.2.2.1 (by rw [e3.2.2.2.2.1]; exact hb)) dX12_readText_48 rfl (by decide) rfl (by decide) (by decide) rfl rfl (Nat.le_of_ble_eq_true rfl)) (fun I3 h3 => ?_)
        obtain ⟨g', rfl, h3⟩ := h3
        rw [e3.2.2.2.2.1] at h3
        obtain ⟨v1, v2⟩ := nT_T e3 h3
        refine j_goto (pc := 51) 21 dX12_readText_51 (by decide) ?_
        have hlen : 6 ≤ p' := by
          have h5 : tE b n (tS b n 0) - tS b n 0 = 5 := e1.2.1
          obtain ⟨-, e7, -⟩ := pStop_ok (f := fun _ => 0) (tE_rng (b := b) (tS_rng (b := b) (Nat.zero_le n)).2).2 (e2 _)
          omega
        have e5 := e4.tr v2
        have z12 : (jSf I2 105 g') 105 12 = 0 := by
          rw [e5.2 12 (by omega) (by omega) (by omega) (by omega)]
          split
          · unfold mAnew; rw [jSf_s, jU_n (by omega), jSf_s]; exact g12
          · rw [jSf_s]; exact g12
        have z13 : (jSf I2 105 g') 105 13 = 0 := by
          rw [e5.2 13 (by omega) (by omega) (by omega) (by omega)]
          split
          · unfold mAnew; rw [jSf_s, jU_n (by omega), jSf_s]; exact g13
          · rw [jSf_s]; exact g13
        refine k21 145 1 p' (st0 (I 106)) _ (by omega) (by omega) (by omega) e3.2.2.2.1 (pAll_h e1 (e2 _)) v1 (okSt_st0 _) ?_ ?_ (fun h => ?_) (fun h => ?_)
        · rw [z12]; rfl
        · rw [z13]; rfl
        · rw [if_pos h] at e5
          refine ⟨?_, ?_, ?_⟩
          · rw [e5.1 106 (by omega) (by omega)]; unfold mAnew; rw [jSf_n (by decide), jSf_s, jSf_n (by decide)]
          · rw [e5.2 16 (by omega) (by omega) (by omega) (by omega)]; unfold mAnew; rw [jSf_s, jU_s]
          · refine frU.tr ?_ e5.ft.fu
            refine ⟨fun z z1 z2 z3 => ?_, fun j a b c d e f g' => ?_⟩
            · unfold mAnew; rw [jSf_n z1, jSf_n z3, jSf_n z1, jSf_n z1, jSf_n z3]
            · unfold mAnew
              rw [jSf_s, jSf_s, jSf_s]
              by_cases hj : j = 16
              · subst hj; rw [jU_s, jU_s]
              · rw [jU_n hj, jU_n hj, nf j a b c d, jU_n g', jU_n f, jU_n a]
        · rw [if_neg (by omega)] at e5
          exact f0.tr e5.ft
      · refine j_iconst (pc := 42) dX12_readText_42 ?_
        refine j_reti dX12_readText_43 (?_) rfl
        rcases or0 o2 (by omega) with ⟨e1, rfl⟩ | ⟨e1, s', e2, e3, e4⟩
        · exact Or.inr ⟨rfl, _, pAll_n e1, u1.1, (tS_rng (Nat.zero_le n)).2, fun _ => f0⟩
        · exact Or.inr ⟨rfl, s', pAll_e e1 (e2 _), e3, pStop_n (f := fun _ => 0) (tE_rng (tS_rng (Nat.zero_le n)).2).2 (e2 _), fun h => f0.tr (e4 h).ft⟩
    · exact absurd rfl h_22
  refine j_aload_n (pc := 0) dX12_readText_0 rfl ?_
  refine j_iconst (pc := 1) dX12_readText_1 ?_
  refine j_putI_b (pc := 2) f_X12_133 dX12_readText_2 rfl rfl rfl (by decide) ?_
  refine j_aload_n (pc := 5) dX12_readText_5 rfl ?_
  refine j_iconst (pc := 6) dX12_readText_6 ?_
  refine j_putI_a (pc := 7) f_X12_182 dX12_readText_7 rfl rfl rfl (by decide) ?_
  refine j_aload_n (pc := 10) dX12_readText_10 rfl ?_
  refine j_iconst (pc := 11) dX12_readText_11 ?_
  refine j_putI_a (pc := 12) f_X12_185 dX12_readText_12 rfl rfl rfl (by decide) ?_
  refine j_iconst (pc := 15) dX12_readText_15 ?_
  refine j_istore_n2 (pc := 16) dX12_readText_16 (by decide) rfl ?_
  refine j_aload_n (pc := 17) dX12_readText_17 rfl ?_
  refine j_goV (pc := 18) (j_runV k_X12_160 m_X12_nextToken (c_nextToken X (jSf I 105 (jU (jU (jU (I 105) 6 0) 12 0) 13 0)) 0 n hg0.1 hg0.2.1 hn5 (by omega) (by rw [hg0.2.2.2.2.1]; exact hb)) dX12_readText_18 rfl (by decide) rfl (by decide) (by decide) rfl rfl (Nat.le_of_ble_eq_true rfl)) (fun I1 h1 => ?_)
  obtain ⟨g, rfl, h1⟩ := h1
  rw [hg0.2.2.2.2.1] at h1
  obtain ⟨u1, u2⟩ := nT_T hg0 h1
  have nf := h1.2.2.2.2.2
  rw [jSf_f] at u1 u2 ⊢
  rw [jSf_s] at nf
  have f0 : frT I (jSf I 105 g) := ⟨fun z z1 z2 => jSf_n z1, fun j a b c d e f g' => by rw [jSf_s, nf j a b c d, jU_n g', jU_n f, jU_n a]⟩
  have g12 : g 12 = 0 := by rw [nf 12 (by omega) (by omega) (by omega) (by omega), jU_n (by omega), jU_s]
  have g13 : g 13 = 0 := by rw [nf 13 (by omega) (by omega) (by omega) (by omega), jU_s]
  exact k0 g nf u1 f0 g12 g13
theorem c_mread (X : jX) (I : jMI) (q : Int → jMI → Prop) (b : Nat → Int) (n : Nat) (hn : I 105 5 = (n : Nat)) (hn5 : n ≤ 150) (hbb : I 108 = b) (hb : ∀ i, i < n → 0 ≤ b i ∧ b i ≤ 127)
    (q0 : ∀ (s : Nat) (I' : jMI), pAll b n (st0 (I 106)) = .error s → s ≤ n → frT I I' → q (-10 - s) I')
    (q1 : ∀ (c : Nat) (f' : Nat → Int) (I' : jMI), pAll b n (st0 (I 106)) = .ok (c, f') → I' 106 = f' → I' 105 16 = 0 → frU (mAnew I) I' → q c I') : C_X12_read X [jR 105] I q := by
  refine CG.of (by decide) [some (jR 105)] rfl (Nat.le_of_ble_eq_true rfl) ?_
  refine j_aload_n (pc := 0) dX12_read_0 rfl ?_
  refine j_iconst (pc := 1) dX12_read_1 ?_
  refine j_goI (pc := 2) (j_runV k_X12_195 m_X12_readText (c_readText X I b n 0 hn hn5 hbb hb (by omega)) dX12_read_2 rfl (by decide) rfl (by decide) (by decide) rfl rfl (Nat.le_of_ble_eq_true rfl)) (fun r1 I1 o1 => ?_)
  have hrr : r1 = -1 ∨ 0 ≤ r1 ∧ r1 ≤ 146 := by
    rcases o1 with ⟨c, f', e1, e2, -⟩ | ⟨e1, -⟩
    · obtain ⟨-, h1, h2⟩ := pAll_ok (okSt_st0 _) e2; omega
    · omega
  refine j_if_ge (pc := 5) 16 dX12_read_5 (by decide) (by omega) (fun h_5 => ?_) (fun h_5 => ?_)
  · have hfr : frT I I1 := by
      rcases o1 with ⟨c, f', e1, e2, -, e3⟩ | ⟨e1, -⟩
      · exact e3 rfl
      · omega
    have e106 : I1 106 = I 106 := hfr.1 106 (by omega) (by omega)
    refine j_aload_n (pc := 16) dX12_read_16 rfl ?_
    refine j_iconst (pc := 17) dX12_read_17 ?_
    refine j_goI (pc := 18) (j_runV k_X12_195 m_X12_readText (c_readText X I1 b n 1 (by rw [hfr.2 5 (by omega) (by omega) (by omega) (by omega) (by omega) (by omega) (by omega)]; exact hn) hn5 (by rw [hfr.1 108 (by omega) (by omega)]; exact hbb) hb (by omega)) dX12_read_18 rfl (by decide) rfl (by decide) (by decide) rfl rfl (Nat.le_of_ble_eq_true rfl)) (fun r2 I2 o2 => ?_)
    refine j_reti dX12_read_21 (?_) rfl
    have hall : ∃ c f', pAll b n (st0 (I 106)) = .ok (c, f') := by
      rcases o1 with ⟨c, f', e1, e2, -, e3⟩ | ⟨e1, -⟩
      · exact ⟨c, f', e2⟩
      · omega
    obtain ⟨c, f', hall⟩ := hall
    rcases o2 with ⟨c', f'', e1, e2, e3, -⟩ | ⟨e1, s, e2, -⟩
    · rw [e106] at e2
      obtain ⟨e4, e5, e6⟩ := e3 rfl
      subst e1
      refine q1 c' f'' I2 e2 e4 e5 (frU.tr ⟨fun z z1 z2 z3 => ?_, fun j a b c d e f g => ?_⟩ e6)
      · unfold mAnew; rw [jSf_n z1, jSf_n z3, jSf_n z1, jSf_n z3]; exact hfr.1 z z1 z2
      · unfold mAnew
        rw [jSf_s, jSf_s]
        by_cases hj : j = 16
        · subst hj; rw [jU_s, jU_s]
        · rw [jU_n hj, jU_n hj]; exact hfr.2 j a b c d e f g
    · rw [e106, hall] at e2
      exact absurd e2 (by simp)
  · refine j_bipush (pc := 8) dX12_read_8 (by decide) ?_
    refine j_aload_n (pc := 10) dX12_read_10 rfl ?_
    refine j_getI (pc := 11) f_X12_139 dX12_read_11 rfl rfl (by decide) ?_
    refine j_isub (pc := 14) dX12_read_14 ?_
    refine j_reti dX12_read_15 (?_) rfl
    rcases o1 with ⟨c, f', e1, e2, -⟩ | ⟨e1, s, e2, e3, e4, e5⟩
    · omega
    · rw [e3]
      exact q0 s I1 e2 e4 (e5 rfl)
