/-! ===== the reference: reading an item ===== -/
def frO (J I : jMI) : Prop := (∀ z, z ≠ 105 → z ≠ 109 → J z = I z) ∧ ∀ j, j ≠ 6 → j ≠ 7 → j ≠ 8 → j ≠ 9 → j ≠ 11 → J 105 j = I 105 j
/-- the owners up to here -/
def ownR (b : Nat → Int) (n p0 p c : Nat) (row : Nat → Int) : Prop := ∀ f t, f (27 + t) = 0 → t < 5 → pOwn b n t 4 p0 f = pOwn b n t (4 - c) p (adF f t row c)
theorem ownR_next {b : Nat → Int} {n p0 p c : Nat} {row : Nat → Int} (h : ownR b n p0 p c row) (hc : c < 4) (h2 : tSo b n (tS b n p) = 2) (hv : tV b n (tS b n p) ≤ 2) (hl : c = 0 ∨ row c ≠ tV b n (tS b n p)) : ownR b n p0 (tE b n (tS b n p)) (c + 1) (jU row (c + 1) (tV b n (tS b n p))) := by
  intro f t hf ht
  rw [h f t hf ht]
  obtain ⟨k, hk⟩ : ∃ k, 4 - c = k + 1 := ⟨3 - c, by omega⟩
  have hv0 := tV_rng h2
  rw [hk, show 4 - (c + 1) = k by omega]
  have e : pOwn b n t (k + 1) p (adF f t row c) = if tSo b n (tS b n p) = 3 then .ok (tE b n (tS b n p), adF f t row c) else if tSo b n (tS b n p) = 2 ∧ tV b n (tS b n p) ≤ 2 ∧ tV b n (tS b n p) ≠ lastF (adF f t row c) t then pOwn b n t k (tE b n (tS b n p)) (mAddOw (adF f t row c) t (3 - k) (tV b n (tS b n p))) else .error (tS b n p) := rfl
  have hne : tV b n (tS b n p) ≠ lastF (adF f t row c) t := by
    rw [adF_last hf ht (by omega)]
    split <;> omega
  rw [e, if_neg (by omega), if_pos ⟨h2, hv, hne⟩]
  · show _ = pOwn b n t k (tE b n (tS b n p)) (mAddOw (adF f t (jU row (c + 1) (tV b n (tS b n p))) c) t c (jU row (c + 1) (tV b n (tS b n p)) (c + 1)))
    rw [jU_s, show 3 - k = c by omega, adF_congr (row' := row) c (fun i hi => jU_n (by omega))]
theorem ownR_stop {b : Nat → Int} {n p0 p c : Nat} {row : Nat → Int} (h : ownR b n p0 p c row) (h3 : tSo b n (tS b n p) = 3) : ∀ f t, f (27 + t) = 0 → t < 5 → pOwn b n t 4 p0 f = .ok (tE b n (tS b n p), adF f t row c) := by
  intro f t hf ht
  rw [h f t hf ht]
  cases hk : 4 - c with
  | zero => show pStop b n p _ = _; unfold pStop; rw [if_pos h3]
  | succ k =>
    have e : pOwn b n t (k + 1) p (adF f t row c) = if tSo b n (tS b n p) = 3 then .ok (tE b n (tS b n p), adF f t row c) else if tSo b n (tS b n p) = 2 ∧ tV b n (tS b n p) ≤ 2 ∧ tV b n (tS b n p) ≠ lastF (adF f t row c) t then pOwn b n t k (tE b n (tS b n p)) (mAddOw (adF f t row c) t (3 - k) (tV b n (tS b n p))) else .error (tS b n p) := rfl
    rw [e, if_pos h3]
theorem ownR_err {b : Nat → Int} {n p0 p c : Nat} {row : Nat → Int} (h : ownR b n p0 p c row) (h3 : tSo b n (tS b n p) ≠ 3) (hx : c = 4 ∨ tSo b n (tS b n p) ≠ 2 ∨ 2 < tV b n (tS b n p) ∨ (c ≠ 0 ∧ row c = tV b n (tS b n p))) (hc4 : c ≤ 4) : ∀ f t, f (27 + t) = 0 → t < 5 → pOwn b n t 4 p0 f = .error (tS b n p) := by
  intro f t hf ht
  rw [h f t hf ht]
  cases hk : 4 - c with
  | zero => show pStop b n p _ = _; unfold pStop; rw [if_neg h3]
  | succ k =>
    have e : pOwn b n t (k + 1) p (adF f t row c) = if tSo b n (tS b n p) = 3 then .ok (tE b n (tS b n p), adF f t row c) else if tSo b n (tS b n p) = 2 ∧ tV b n (tS b n p) ≤ 2 ∧ tV b n (tS b n p) ≠ lastF (adF f t row c) t then pOwn b n t k (tE b n (tS b n p)) (mAddOw (adF f t row c) t (3 - k) (tV b n (tS b n p))) else .error (tS b n p) := rfl
    rw [e, if_neg h3, if_neg]
    rintro ⟨a1, a2, a3⟩
    rw [adF_last hf ht hc4] at a3
    split at a3 <;> omega
set_option maxHeartbeats 4000000 in
theorem c_readOwners (X : jX) (I : jMI) (b : Nat → Int) (p0 n : Nat) (hp : I 105 6 = p0) (hn : I 105 5 = n) (hn5 : n ≤ 150) (hpn : p0 ≤ n) (hbb : I 108 = b) (hb : ∀ i, i < n → 0 ≤ b i ∧ b i ≤ 127) : C_X12_readOwners X [jR 105] I (fun r I' => ∃ c : Nat, c ≤ 4 ∧ I' 105 11 = c ∧ (∀ i, i < c → 0 ≤ I' 109 (i + 1) ∧ I' 109 (i + 1) ≤ 2) ∧ frO I' I ∧ ((r = 1 ∧ ∃ p', (∀ f t, f (27 + t) = 0 → t < 5 → pOwn b n t 4 p0 f = .ok (p', adF f t (I' 109) c)) ∧ I' 105 6 = (p' : Nat)) ∨ (r = 0 ∧ ∃ s, (∀ f t, f (27 + t) = 0 → t < 5 → pOwn b n t 4 p0 f = .error s) ∧ I' 105 9 = (s : Nat)))) := by
  refine CG.of (by decide) [some (jR 105)] rfl (Nat.le_of_ble_eq_true rfl) ?_
  generalize hQ : (fun (r : Int) (I' : jMI) => ∃ c : Nat, c ≤ 4 ∧ I' 105 11 = c ∧ (∀ i, i < c → 0 ≤ I' 109 (i + 1) ∧ I' 109 (i + 1) ≤ 2) ∧ frO I' I ∧ ((r = 1 ∧ ∃ p', (∀ f t, f (27 + t) = 0 → t < 5 → pOwn b n t 4 p0 f = .ok (p', adF f t (I' 109) c)) ∧ I' 105 6 = (p' : Nat)) ∨ (r = 0 ∧ ∃ s, (∀ f t, f (27 + t) = 0 → t < 5 → pOwn b n t 4 p0 f = .error s) ∧ I' 105 9 = (s : Nat)))) = Q
  have key : ∀ (c : Nat) (p : Nat) (J : jMI), c ≤ 4 → p ≤ n → J 105 9 = (tS b n p : Nat) → J 105 7 = rc (tSo b n (tS b n p)) → (tSo b n (tS b n p) ≠ 4 → J 105 6 = (tE b n (tS b n p) : Nat)) → (tSo b n (tS b n p) = 2 → J 105 8 = tV b n (tS b n p)) → (0 ≤ J 105 8 ∧ J 105 8 ≤ 2000) → J 105 11 = c → (∀ i, i < c → 0 ≤ J 109 (i + 1) ∧ J 109 (i + 1) ≤ 2) → frO J I → ownR b n p0 p c (J 109) → S_X12_readOwners X 9 [some (jR 105)] [] J Q := by
    refine mu3 (fun c _ _ => 5 - c) _ (fun c p J ih hc hpn h9 h7 h6 h8 h8r h11 hrow hfr hR => ?_)
    have hS := tS_rng (b := b) hpn
    have hE := tE_rng (b := b) hS.2
    have hr : rc (tSo b n (tS b n p)) = 2 ↔ tSo b n (tS b n p) = 2 := by unfold rc tSo; repeat' split
                                                                         all_goals omega
    have hr4 : rc (tSo b n (tS b n p)) = 4 ↔ tSo b n (tS b n p) = 3 := by unfold rc tSo; repeat' split
                                                                          all_goals omega
    have hr2 : 0 ≤ rc (tSo b n (tS b n p)) ∧ rc (tSo b n (tS b n p)) ≤ 10 := by unfold rc tSo; repeat' split
                                                                                all_goals omega
    have kend : (tSo b n (tS b n p) ≠ 3 → (c = 4 ∨ tSo b n (tS b n p) ≠ 2 ∨ 2 < tV b n (tS b n p) ∨ (c ≠ 0 ∧ J 109 c = tV b n (tS b n p)))) → S_X12_readOwners X 88 [some (jR 105)] [] J Q := by
      intro hx
      refine j_aload_n (pc := 88) dX12_readOwners_88 rfl ?_
      refine j_getI (pc := 89) f_X12_145 dX12_readOwners_89 rfl rfl (by decide) ?_
      rw [h7]
      refine j_iconst (pc := 92) dX12_readOwners_92 ?_
      refine j_icmp_ne (pc := 93) 100 dX12_readOwners_93 (by decide) (by omega) (by omega) (fun h_93 => ?_) (fun h_93 => ?_)
      · refine j_iconst (pc := 100) dX12_readOwners_100 ?_
        refine j_retz dX12_readOwners_101 (by omega) (?_) rfl
        subst hQ
        refine ⟨c, hc, h11, hrow, hfr, ?_⟩
        first
          | (have e3 := hr4.mp (by omega)
             exact Or.inl ⟨rfl, _, ownR_stop hR e3, h6 (by omega)⟩)
          | (have e3 : tSo b n (tS b n p) ≠ 3 := fun h => by have := hr4.mpr h; omega
             exact Or.inr ⟨rfl, _, ownR_err hR e3 (hx e3) hc, h9⟩)
      · refine j_iconst (pc := 96) dX12_readOwners_96 ?_
        refine j_goto (pc := 97) 101 dX12_readOwners_97 (by decide) ?_
        refine j_retz dX12_readOwners_101 (by omega) (?_) rfl
        subst hQ
        refine ⟨c, hc, h11, hrow, hfr, ?_⟩
        first
          | (have e3 := hr4.mp (by omega)
             exact Or.inl ⟨rfl, _, ownR_stop hR e3, h6 (by omega)⟩)
          | (have e3 : tSo b n (tS b n p) ≠ 3 := fun h => by have := hr4.mpr h; omega
             exact Or.inr ⟨rfl, _, ownR_err hR e3 (hx e3) hc, h9⟩)
    refine j_aload_n (pc := 9) dX12_readOwners_9 rfl ?_
    refine j_getI (pc := 10) f_X12_145 dX12_readOwners_10 rfl rfl (by decide) ?_
    rw [h7]
    refine j_iconst (pc := 13) dX12_readOwners_13 ?_
    refine j_icmp_ne (pc := 14) 88 dX12_readOwners_14 (by decide) (by omega) (by omega) (fun h_14 => ?_) (fun h_14 => ?_)
    · refine kend (fun h3 => ?_)
      first
        | (right; left; exact fun h => by have := hr.mpr h; omega)
        | (have e2 := hr.mp (by omega)
           have e8 := h8 e2
           first
             | (right; right; left; omega)
             | (left; omega)
             | (right; right; right; omega))
    · refine j_aload_n (pc := 17) dX12_readOwners_17 rfl ?_
      refine j_getI (pc := 18) f_X12_142 dX12_readOwners_18 rfl rfl (by decide) ?_
      refine j_iconst (pc := 21) dX12_readOwners_21 ?_
      refine j_icmp_ge (pc := 22) 88 dX12_readOwners_22 (by decide) (by omega) (by omega) (fun h_22 => ?_) (fun h_22 => ?_)
      · refine kend (fun h3 => ?_)
        first
          | (right; left; exact fun h => by have := hr.mpr h; omega)
          | (have e2 := hr.mp (by omega)
             have e8 := h8 e2
             first
               | (right; right; left; omega)
               | (left; omega)
               | (right; right; right; omega))
      · refine j_aload_n (pc := 25) dX12_readOwners_25 rfl ?_
        refine j_getI (pc := 26) f_X12_163 dX12_readOwners_26 rfl rfl (by decide) ?_
        rw [h11]
        refine j_iconst (pc := 29) dX12_readOwners_29 ?_
        refine j_icmp_ge (pc := 30) 88 dX12_readOwners_30 (by decide) (by omega) (by omega) (fun h_30 => ?_) (fun h_30 => ?_)
        · refine kend (fun h3 => ?_)
          first
            | (right; left; exact fun h => by have := hr.mpr h; omega)
            | (have e2 := hr.mp (by omega)
               have e8 := h8 e2
               first
                 | (right; right; left; omega)
                 | (left; omega)
                 | (right; right; right; omega))
        · refine j_aload_n (pc := 33) dX12_readOwners_33 rfl ?_
          refine j_getI (pc := 34) f_X12_163 dX12_readOwners_34 rfl rfl (by decide) ?_
          rw [h11]
          refine j_if_eq (pc := 37) 56 dX12_readOwners_37 (by decide) (by omega) (fun h_37 => ?_) (fun h_37 => ?_)
          · have e2 := hr.mp (by omega)
            have e8 := h8 e2
            have hE2 := tE_lt (b := b) (n := n) (s := tS b n p) (by omega) (by omega)
            refine j_aload_n (pc := 56) dX12_readOwners_56 rfl ?_
            refine j_getR (pc := 57) f_X12_23 dX12_readOwners_57 rfl rfl (by decide) rfl ?_
            refine j_aload_n (pc := 60) dX12_readOwners_60 rfl ?_
            refine j_getI (pc := 61) f_X12_163 dX12_readOwners_61 rfl rfl (by decide) ?_
            rw [h11]
            refine j_iconst (pc := 64) dX12_readOwners_64 ?_
            refine j_iadd (pc := 65) dX12_readOwners_65 ?_
            refine j_aload_n (pc := 66) dX12_readOwners_66 rfl ?_
            refine j_getI (pc := 67) f_X12_142 dX12_readOwners_67 rfl rfl (by decide) ?_
            refine j_iast_b (pc := 70) (c + 1) dX12_readOwners_70 rfl (by decide) (by decide) (by omega) (by omega) ?_
            refine j_aload_n (pc := 71) dX12_readOwners_71 rfl ?_
            refine j_dupR (pc := 72) dX12_readOwners_72 ?_
            refine j_getI_c (pc := 73) f_X12_163 dX12_readOwners_73 rfl rfl (by decide) (by decide) ?_
            refine j_iconst (pc := 76) dX12_readOwners_76 ?_
            refine j_iadd (pc := 77) dX12_readOwners_77 ?_
            refine j_putI_b (pc := 78) f_X12_163 dX12_readOwners_78 rfl rfl rfl (by decide) ?_
            refine j_aload_n (pc := 81) dX12_readOwners_81 rfl ?_
            rw [show J 105 11 = (c : Int) from h11]
            refine j_goV (pc := 82) (j_runV k_X12_160 m_X12_nextToken (c_nextToken X (jSf (jSf J 109 (jU (J 109) (c + 1) (J 105 8))) 105 (jU (jSf J 109 (jU (J 109) (c + 1) (J 105 8)) 105) 11 ((c : Int) + 1))) (tE b n (tS b n p)) n (by rw [jSf_s, jU_n (by omega), jSf_n (by decide)]; exact h6 (by omega)) (by rw [jSf_s, jU_n (by omega), jSf_n (by decide), hfr.2 5 (by omega) (by omega) (by omega) (by omega) (by omega)]; exact hn) hn5 hE.2 (by rw [jSf_n (by decide), jSf_n (by decide), hfr.1 108 (by omega) (by omega), hbb]; exact hb)) dX12_readOwners_82 rfl (by decide) rfl (by decide) (by decide) rfl rfl (Nat.le_of_ble_eq_true rfl)) (fun I1 h1 => ?_)
            obtain ⟨g, rfl, h1⟩ := h1
            rw [jSf_f]
            rw [jSf_s, jSf_n (by decide), jSf_n (by decide), jSf_n (by decide), hfr.1 108 (by omega) (by omega), hbb] at h1
            obtain ⟨n9, n7, n6, n8, n8r, nf⟩ := h1
            refine j_goto (pc := 85) 9 dX12_readOwners_85 (by decide) ?_
            have g11 : g 11 = ((c + 1 : Nat) : Int) := by rw [nf 11 (by omega) (by omega) (by omega) (by omega), jU_s]; omega
            refine ih (c + 1) (tE b n (tS b n p)) _ (by omega) (by omega) hE.2 ?_ ?_ ?_ ?_ ?_ ?_ ?_ ?_ ?_
            · rw [jSf_s]; exact n9
            · rw [jSf_s]; exact n7
            · rw [jSf_s]; exact n6
            · rw [jSf_s]; exact n8
            · rw [jSf_s]; exact n8r
            · rw [jSf_s]; exact g11
            · intro i hi
              rw [jSf_n (by decide), jSf_s]
              by_cases e : i = c
              · subst e; rw [jU_s]; omega
              · rw [jU_n (by omega)]; exact hrow i (by omega)
            · refine ⟨fun z z1 z2 => ?_, fun j j1 j2 j3 j4 j5 => ?_⟩
              · rw [jSf_n z1, jSf_n z2]; exact hfr.1 z z1 z2
              · rw [jSf_s, nf j j1 j2 j3 j4, jU_n j5]; exact hfr.2 j j1 j2 j3 j4 j5
            · rw [jSf_n (by decide), jSf_s, e8]
              refine ownR_next hR (by omega) e2 (by omega) ?_
              first
                | (left; omega)
                | (right; omega)
          · refine j_aload_n (pc := 40) dX12_readOwners_40 rfl ?_
            refine j_getR (pc := 41) f_X12_23 dX12_readOwners_41 rfl rfl (by decide) rfl ?_
            refine j_aload_n (pc := 44) dX12_readOwners_44 rfl ?_
            refine j_getI (pc := 45) f_X12_163 dX12_readOwners_45 rfl rfl (by decide) ?_
            rw [h11]
            refine j_iald_b (pc := 48) (c) dX12_readOwners_48 rfl (by decide) (by decide) (by omega) (by omega) ?_
            have hrc := hrow (c - 1) (by omega)
            rw [show c - 1 + 1 = c by omega] at hrc
            refine j_aload_n (pc := 49) dX12_readOwners_49 rfl ?_
            refine j_getI (pc := 50) f_X12_142 dX12_readOwners_50 rfl rfl (by decide) ?_
            refine j_icmp_eq (pc := 53) 88 dX12_readOwners_53 (by decide) (by omega) (by omega) (fun h_53 => ?_) (fun h_53 => ?_)
            · refine kend (fun h3 => ?_)
              first
                | (right; left; exact fun h => by have := hr.mpr h; omega)
                | (have e2 := hr.mp (by omega)
                   have e8 := h8 e2
                   first
                     | (right; right; left; omega)
                     | (left; omega)
                     | (right; right; right; omega))
            · have e2 := hr.mp (by omega)
              have e8 := h8 e2
              have hE2 := tE_lt (b := b) (n := n) (s := tS b n p) (by omega) (by omega)
              refine j_aload_n (pc := 56) dX12_readOwners_56 rfl ?_
              refine j_getR (pc := 57) f_X12_23 dX12_readOwners_57 rfl rfl (by decide) rfl ?_
              refine j_aload_n (pc := 60) dX12_readOwners_60 rfl ?_
              refine j_getI (pc := 61) f_X12_163 dX12_readOwners_61 rfl rfl (by decide) ?_
              rw [h11]
              refine j_iconst (pc := 64) dX12_readOwners_64 ?_
              refine j_iadd (pc := 65) dX12_readOwners_65 ?_
              refine j_aload_n (pc := 66) dX12_readOwners_66 rfl ?_
              refine j_getI (pc := 67) f_X12_142 dX12_readOwners_67 rfl rfl (by decide) ?_
              refine j_iast_b (pc := 70) (c + 1) dX12_readOwners_70 rfl (by decide) (by decide) (by omega) (by omega) ?_
              refine j_aload_n (pc := 71) dX12_readOwners_71 rfl ?_
              refine j_dupR (pc := 72) dX12_readOwners_72 ?_
              refine j_getI_c (pc := 73) f_X12_163 dX12_readOwners_73 rfl rfl (by decide) (by decide) ?_
              refine j_iconst (pc := 76) dX12_readOwners_76 ?_
              refine j_iadd (pc := 77) dX12_readOwners_77 ?_
              refine j_putI_b (pc := 78) f_X12_163 dX12_readOwners_78 rfl rfl rfl (by decide) ?_
              refine j_aload_n (pc := 81) dX12_readOwners_81 rfl ?_
              rw [show J 105 11 = (c : Int) from h11]
              refine j_goV (pc := 82) (j_runV k_X12_160 m_X12_nextToken (c_nextToken X (jSf (jSf J 109 (jU (J 109) (c + 1) (J 105 8))) 105 (jU (jSf J 109 (jU (J 109) (c + 1) (J 105 8)) 105) 11 ((c : Int) + 1))) (tE b n (tS b n p)) n (by rw [jSf_s, jU_n (by omega), jSf_n (by decide)]; exact h6 (by omega)) (by rw [jSf_s, jU_n (by omega), jSf_n (by decide), hfr.2 5 (by omega) (by omega) (by omega) (by omega) (by omega)]; exact hn) hn5 hE.2 (by rw [jSf_n (by decide), jSf_n (by decide), hfr.1 108 (by omega) (by omega), hbb]; exact hb)) dX12_readOwners_82 rfl (by decide) rfl (by decide) (by decide) rfl rfl (Nat.le_of_ble_eq_true rfl)) (fun I1 h1 => ?_)
              obtain ⟨g, rfl, h1⟩ := h1
              rw [jSf_f]
              rw [jSf_s, jSf_n (by decide), jSf_n (by decide), jSf_n (by decide), hfr.1 108 (by omega) (by omega), hbb] at h1
              obtain ⟨n9, n7, n6, n8, n8r, nf⟩ := h1
              refine j_goto (pc := 85) 9 dX12_readOwners_85 (by decide) ?_
              have g11 : g 11 = ((c + 1 : Nat) : Int) := by rw [nf 11 (by omega) (by omega) (by omega) (by omega), jU_s]; omega
              refine ih (c + 1) (tE b n (tS b n p)) _ (by omega) (by omega) hE.2 ?_ ?_ ?_ ?_ ?_ ?_ ?_ ?_ ?_
              · rw [jSf_s]; exact n9
              · rw [jSf_s]; exact n7
              · rw [jSf_s]; exact n6
              · rw [jSf_s]; exact n8
              · rw [jSf_s]; exact n8r
              · rw [jSf_s]; exact g11
              · intro i hi
                rw [jSf_n (by decide), jSf_s]
                by_cases e : i = c
                · subst e; rw [jU_s]; omega
                · rw [jU_n (by omega)]; exact hrow i (by omega)
              · refine ⟨fun z z1 z2 => ?_, fun j j1 j2 j3 j4 j5 => ?_⟩
                · rw [jSf_n z1, jSf_n z2]; exact hfr.1 z z1 z2
                · rw [jSf_s, nf j j1 j2 j3 j4, jU_n j5]; exact hfr.2 j j1 j2 j3 j4 j5
              · rw [jSf_n (by decide), jSf_s, e8]
                refine ownR_next hR (by omega) e2 (by omega) ?_
                first
                  | (left; omega)
                  | (right; omega)
  refine j_aload_n (pc := 0) dX12_readOwners_0 rfl ?_
  refine j_iconst (pc := 1) dX12_readOwners_1 ?_
  refine j_putI_b (pc := 2) f_X12_163 dX12_readOwners_2 rfl rfl rfl (by decide) ?_
  refine j_aload_n (pc := 5) dX12_readOwners_5 rfl ?_
  refine j_goV (pc := 6) (j_runV k_X12_160 m_X12_nextToken (c_nextToken X (jSf I 105 (jU (I 105) 11 0)) p0 n (by rw [jSf_s, jU_n (by omega)]; exact hp) (by rw [jSf_s, jU_n (by omega)]; exact hn) hn5 hpn (by rw [jSf_n (by decide), hbb]; exact hb)) dX12_readOwners_6 rfl (by decide) rfl (by decide) (by decide) rfl rfl (Nat.le_of_ble_eq_true rfl)) (fun I1 h1 => ?_)
  obtain ⟨g, rfl, h1⟩ := h1
  rw [jSf_f]
  rw [jSf_s, jSf_n (by decide), hbb] at h1
  obtain ⟨n9, n7, n6, n8, n8r, nf⟩ := h1
  refine key 0 p0 _ (by omega) hpn ?_ ?_ ?_ ?_ ?_ ?_ ?_ ?_ ?_
  · rw [jSf_s]; exact n9
  · rw [jSf_s]; exact n7
  · rw [jSf_s]; exact n6
  · rw [jSf_s]; exact n8
  · rw [jSf_s]; exact n8r
  · rw [jSf_s, nf 11 (by omega) (by omega) (by omega) (by omega), jU_s]; rfl
  · intro i hi; omega
  · refine ⟨fun z z1 z2 => jSf_n z1, fun j j1 j2 j3 j4 j5 => ?_⟩
    rw [jSf_s, nf j j1 j2 j3 j4, jU_n j5]
  · intro f t hf ht; rfl
