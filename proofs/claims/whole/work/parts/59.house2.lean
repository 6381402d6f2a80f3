/-! ===== the class: a house and the reference's row ===== -/
theorem hR_fr {f : Nat → Int} {I I' : jMI} {H : Nat} (h : hR f I H) (hf : ∀ z, z = H ∨ (H + 8 ≤ z ∧ z ≤ H + 15) → I' z = I z) : hR f I' H := by
  unfold hR at *
  rw [hf H (Or.inl rfl), hf (H + 8) (by omega), hf (H + 9) (by omega), hf (H + 10) (by omega), hf (H + 11) (by omega), hf (H + 12) (by omega), hf (H + 13) (by omega), hf (H + 14) (by omega), hf (H + 15) (by omega)]
  exact h
theorem cr_congr2 {f f' : Nat → Int} (h : ∀ k, 71 ≤ k → f k = f' k) : cr f = cr f' := by
  funext a b
  unfold cr
  split
  · rfl
  · exact h _ (by omega)
theorem edg_congr2 {f f' : Nat → Int} (h : ∀ k, 71 ≤ k → f k = f' k) : edg f = edg f' := by
  funext a b
  unfold edg
  rw [cr_congr2 h]
theorem hR_cg {f f' : Nat → Int} {I : jMI} {H : Nat} (h : hR f I H) (hok : okSt f) (hf : ∀ k, (5 ≤ k ∧ k < 52) ∨ 71 ≤ k → f k = f' k) : hR f' I H := by
  obtain ⟨a1, a2, a3, a4, a5, a6⟩ := h
  have hc := cr_congr2 (f := f) (f' := f') (fun k hk => hf k (Or.inr hk))
  have he := edg_congr2 (f := f) (f' := f') (fun k hk => hf k (Or.inr hk))
  have h5 := hf 5 (by omega)
  have h21 := hf 21 (by omega)
  obtain ⟨S, hS, hS5⟩ := okSt_5 hok
  obtain ⟨T, hT, hT5⟩ := okSt_21 hok
  refine ⟨by rw [← h5]; exact a1, by rw [← h21]; exact a2, by rw [← hc]; exact a3, by rw [← he]; exact a4, fun s hs => ?_, fun t ht => ?_⟩
  · rw [← h5] at hs
    have hs5 := a5 s hs
    rw [← hf (6 + s) (by omega), ← hf (11 + s) (by omega), ← hf (16 + s) (by omega)]
    exact hs5
  · rw [← h21] at ht
    obtain ⟨c, hc, hc4⟩ := okSt_27 hok (show t < 5 by omega)
    obtain ⟨c1, c2, c3⟩ := a6 t ht
    rw [← hf (22 + t) (by omega), ← hf (27 + t) (by omega)]
    refine ⟨c1, c2, fun k hk => ?_⟩
    rw [← hf (32 + 4 * t + k) (by omega)]
    exact c3 k hk
theorem hR_sl {f : Nat → Int} {I : jMI} {H s : Nat} (h : hR f I H) (hok : okSt f) (hs : f 5 = s) (hs5 : s < 5) (k r e : Int) : hR (mAddSl f s k r e) (hAddSl I H s k r e) H := by
  obtain ⟨a1, a2, a3, a4, a5, a6⟩ := h
  have hm : ∀ j, j ≠ 5 → j ≠ 6 + s → j ≠ 11 + s → j ≠ 16 + s → mAddSl f s k r e j = f j := by
    intro j j1 j2 j3 j4; unfold mAddSl; rw [jU_n j1, jU_n j4, jU_n j3, jU_n j2]
  have e5 : mAddSl f s k r e 5 = (s : Int) + 1 := by unfold mAddSl; rw [jU_s]
  have hc := cr_congr2 (f := mAddSl f s k r e) (f' := f) (fun j hj => hm j (by omega) (by omega) (by omega) (by omega))
  have he := edg_congr2 (f := mAddSl f s k r e) (f' := f) (fun j hj => hm j (by omega) (by omega) (by omega) (by omega))
  have i0 : hAddSl I H s k r e H = jU (I H) 9 ((s : Int) + 1) := by unfold hAddSl; rw [jSf_s]
  have i10 : hAddSl I H s k r e (H + 10) = jU (I (H + 10)) s k := by unfold hAddSl; rw [jSf_n (by omega), jSf_n (by omega), jSf_n (by omega), jSf_s]
  have i11 : hAddSl I H s k r e (H + 11) = jU (I (H + 11)) s r := by unfold hAddSl; rw [jSf_n (by omega), jSf_n (by omega), jSf_s]
  have i12 : hAddSl I H s k r e (H + 12) = jU (I (H + 12)) s e := by unfold hAddSl; rw [jSf_n (by omega), jSf_s]
  have ix : ∀ z, z ≠ H → z ≠ H + 10 → z ≠ H + 11 → z ≠ H + 12 → hAddSl I H s k r e z = I z := by
    intro z z1 z2 z3 z4; unfold hAddSl; rw [jSf_n z1, jSf_n z4, jSf_n z3, jSf_n z2]
  obtain ⟨T, hT, hT5⟩ := okSt_21 hok
  unfold hR
  rw [i0, i10, i11, i12, ix (H + 8) (by omega) (by omega) (by omega) (by omega), ix (H + 9) (by omega) (by omega) (by omega) (by omega), ix (H + 13) (by omega) (by omega) (by omega) (by omega), ix (H + 14) (by omega) (by omega) (by omega) (by omega), ix (H + 15) (by omega) (by omega) (by omega) (by omega), hc, he, e5, hm 21 (by omega) (by omega) (by omega) (by omega)]
  refine ⟨by rw [jU_s], by rw [jU_n (by omega)]; exact a2, a3, a4, fun z hz => ?_, fun t ht => ?_⟩
  · by_cases hzs : z = s
    · subst hzs
      rw [jU_s, jU_s, jU_s]
      unfold mAddSl
      rw [jU_n (by omega), jU_n (by omega), jU_n (by omega), jU_s, jU_n (by omega), jU_n (by omega), jU_s, jU_n (by omega), jU_s]
      exact ⟨rfl, rfl, rfl⟩
    · rw [jU_n hzs, jU_n hzs, jU_n hzs, hm (6 + z) (by omega) (by omega) (by omega) (by omega), hm (11 + z) (by omega) (by omega) (by omega) (by omega), hm (16 + z) (by omega) (by omega) (by omega) (by omega)]
      exact a5 z (by omega)
  · obtain ⟨c, hc, hc4⟩ := okSt_27 hok (show t < 5 by omega)
    obtain ⟨c1, c2, c3⟩ := a6 t ht
    rw [hm (22 + t) (by omega) (by omega) (by omega) (by omega), hm (27 + t) (by omega) (by omega) (by omega) (by omega)]
    refine ⟨c1, c2, fun k hk => ?_⟩
    rw [hm (32 + 4 * t + k) (by omega) (by omega) (by omega) (by omega)]
    exact c3 k hk
theorem hR_th {f : Nat → Int} {I : jMI} {H t : Nat} (h : hR f I H) (hok : okSt f) (ht : f 21 = t) (ht5 : t < 5) (h0 : Int) : hR (mAddTh f t h0) (hAddTh I H t h0) H := by
  obtain ⟨a1, a2, a3, a4, a5, a6⟩ := h
  have hm : ∀ j, j ≠ 21 → j ≠ 22 + t → j ≠ 27 + t → mAddTh f t h0 j = f j := by
    intro j j1 j2 j3; unfold mAddTh; rw [jU_n j1, jU_n j3, jU_n j2]
  have e21 : mAddTh f t h0 21 = (t : Int) + 1 := by unfold mAddTh; rw [jU_s]
  have hc := cr_congr2 (f := mAddTh f t h0) (f' := f) (fun j hj => hm j (by omega) (by omega) (by omega))
  have he := edg_congr2 (f := mAddTh f t h0) (f' := f) (fun j hj => hm j (by omega) (by omega) (by omega))
  have i0 : hAddTh I H t h0 H = jU (I H) 10 ((t : Int) + 1) := by unfold hAddTh; rw [jSf_s]
  have i13 : hAddTh I H t h0 (H + 13) = jU (I (H + 13)) t h0 := by unfold hAddTh; rw [jSf_n (by omega), jSf_n (by omega), jSf_s]
  have i14 : hAddTh I H t h0 (H + 14) = jU (I (H + 14)) t 0 := by unfold hAddTh; rw [jSf_n (by omega), jSf_s]
  have ix : ∀ z, z ≠ H → z ≠ H + 13 → z ≠ H + 14 → hAddTh I H t h0 z = I z := by
    intro z z1 z2 z3; unfold hAddTh; rw [jSf_n z1, jSf_n z3, jSf_n z2]
  obtain ⟨S, hS, hS5⟩ := okSt_5 hok
  unfold hR
  rw [i0, i13, i14, ix (H + 8) (by omega) (by omega) (by omega), ix (H + 9) (by omega) (by omega) (by omega), ix (H + 10) (by omega) (by omega) (by omega), ix (H + 11) (by omega) (by omega) (by omega), ix (H + 12) (by omega) (by omega) (by omega), ix (H + 15) (by omega) (by omega) (by omega), hc, he, e21, hm 5 (by omega) (by omega) (by omega)]
  refine ⟨by rw [jU_n (by omega)]; exact a1, by rw [jU_s], a3, a4, fun z hz => ?_, fun z hz => ?_⟩
  · rw [hm (6 + z) (by omega) (by omega) (by omega), hm (11 + z) (by omega) (by omega) (by omega), hm (16 + z) (by omega) (by omega) (by omega)]
    exact a5 z hz
  · by_cases hzs : z = t
    · subst hzs
      have e1 : mAddTh f z h0 (22 + z) = h0 := by unfold mAddTh; rw [jU_n (by omega), jU_n (by omega), jU_s]
      have e2 : mAddTh f z h0 (27 + z) = 0 := by unfold mAddTh; rw [jU_n (by omega), jU_s]
      rw [jU_s, jU_s, e1, e2]
      exact ⟨rfl, rfl, fun k hk => by omega⟩
    · obtain ⟨c, hc, hc4⟩ := okSt_27 hok (show z < 5 by omega)
      obtain ⟨c1, c2, c3⟩ := a6 z (by omega)
      rw [jU_n hzs, jU_n hzs, hm (22 + z) (by omega) (by omega) (by omega), hm (27 + z) (by omega) (by omega) (by omega)]
      refine ⟨c1, c2, fun k hk => ?_⟩
      rw [hm (32 + 4 * z + k) (by omega) (by omega) (by omega)]
      exact c3 k hk
theorem hR_ow {f : Nat → Int} {I : jMI} {H t c : Nat} (h : hR f I H) (hok : okSt f) (ht : (t : Int) < f 21) (hc : f (27 + t) = c) (hc4 : c < 4) (p : Int) : hR (mAddOw f t c p) (hAddOw I H t c p) H := by
  obtain ⟨a1, a2, a3, a4, a5, a6⟩ := h
  obtain ⟨S, hS, hS5⟩ := okSt_5 hok
  obtain ⟨T, hT, hT5⟩ := okSt_21 hok
  have hm : ∀ j, j ≠ 27 + t → j ≠ 32 + 4 * t + c → mAddOw f t c p j = f j := by
    intro j j1 j2; unfold mAddOw; rw [jU_n j1, jU_n j2]
  have hcc := cr_congr2 (f := mAddOw f t c p) (f' := f) (fun j hj => hm j (by omega) (by omega))
  have he := edg_congr2 (f := mAddOw f t c p) (f' := f) (fun j hj => hm j (by omega) (by omega))
  have i14 : hAddOw I H t c p (H + 14) = jU (I (H + 14)) t ((c : Int) + 1) := by unfold hAddOw; rw [jSf_s]
  have i15 : hAddOw I H t c p (H + 15) = jU (I (H + 15)) (4 * t + c) p := by unfold hAddOw; rw [jSf_n (by omega), jSf_s]
  have ix : ∀ z, z ≠ H + 14 → z ≠ H + 15 → hAddOw I H t c p z = I z := by
    intro z z1 z2; unfold hAddOw; rw [jSf_n z1, jSf_n z2]
  unfold hR
  rw [i14, i15, ix H (by omega) (by omega), ix (H + 8) (by omega) (by omega), ix (H + 9) (by omega) (by omega), ix (H + 10) (by omega) (by omega), ix (H + 11) (by omega) (by omega), ix (H + 12) (by omega) (by omega), ix (H + 13) (by omega) (by omega), hcc, he, hm 5 (by omega) (by omega), hm 21 (by omega) (by omega)]
  refine ⟨a1, a2, a3, a4, fun z hz => ?_, fun z hz => ?_⟩
  · rw [hm (6 + z) (by omega) (by omega), hm (11 + z) (by omega) (by omega), hm (16 + z) (by omega) (by omega)]
    exact a5 z hz
  · obtain ⟨c1, c2, c3⟩ := a6 z hz
    by_cases hzs : z = t
    · subst hzs
      have e2 : mAddOw f z c p (27 + z) = (c : Int) + 1 := by unfold mAddOw; rw [jU_s]
      rw [jU_s, e2, hm (22 + z) (by omega) (by omega)]
      refine ⟨c1, rfl, fun k hk => ?_⟩
      by_cases hkc : k = c
      · subst hkc
        rw [jU_s]
        unfold mAddOw
        rw [jU_n (by omega), jU_s]
      · rw [jU_n (by omega), hm (32 + 4 * z + k) (by omega) (by omega)]
        exact c3 k (by omega)
    · obtain ⟨cz, hcz, hcz4⟩ := okSt_27 hok (show z < 5 by omega)
      rw [jU_n hzs, hm (22 + z) (by omega) (by omega), hm (27 + z) (by omega) (by omega)]
      refine ⟨c1, c2, fun k hk => ?_⟩
      rw [jU_n (by omega), hm (32 + 4 * z + k) (by omega) (by omega)]
      exact c3 k hk
theorem hR_last {f : Nat → Int} {I : jMI} {H t c : Nat} (h : hR f I H) (ht : (t : Int) < f 21) (hc : f (27 + t) = c) : I (H + 14) t = c ∧ (if c = 0 then (-1 : Int) else I (H + 15) (4 * t + c - 1)) = lastF f t := by
  obtain ⟨c1, c2, c3⟩ := h.2.2.2.2.2 t ht
  refine ⟨c2.trans hc, ?_⟩
  unfold lastF
  rw [hc]
  by_cases hz : c = 0
  · rw [if_pos hz, if_pos (by omega)]
  · rw [if_neg hz, if_neg (by omega), show 4 * t + c - 1 = 4 * t + (c - 1) by omega, c3 (c - 1) (by omega), show 32 + 4 * t + (c - 1) = 32 + 4 * t + (c : Int).toNat - 1 by omega]
/-! stairs -/
theorem cr_set {f : Nat → Int} {a b x y : Nat} {c : Int} (ha : a < 8) (hb : b < 8) (hab : a ≠ b) (hx : x < 8) (hy : y < 8) : cr (jU f (71 + pairN a b) c) x y = if (x = a ∧ y = b) ∨ (x = b ∧ y = a) then c else cr f x y := by
  unfold cr
  by_cases hxy : x = y
  · rw [if_pos hxy, if_pos hxy, if_neg (by omega)]
  · rw [if_neg hxy, if_neg hxy]
    by_cases hc : (x = a ∧ y = b) ∨ (x = b ∧ y = a)
    · rw [if_pos hc]
      rcases hc with ⟨rfl, rfl⟩ | ⟨rfl, rfl⟩
      · rw [jU_s]
      · rw [pairN_comm x y, jU_s]
    · rw [if_neg hc]
      refine jU_n (fun h => hc ?_)
      rcases pairN_inj hx hy ha hb hxy hab (by omega) with h | h
      · exact Or.inl h
      · exact Or.inr h
abbrev G_X2_empty (X : jX) (R : jMR) (n : Nat) (As : List jV) (I : jMI) (q : jMI → Prop) : Prop := CG X yX2_empty cX2_empty 2 none 2 0 0 As I R n (jGv R n q)
abbrev SG_X2_empty (X : jX) (R : jMR) (n : Nat) (pc : Nat) (L : List (Option jV)) (st : List jV) (I : jMI) (q : jMI → Prop) : Prop := J X RX2 "empty" cX2_empty 2 none 2 0 0 pc L st I R n (jGv R n q)
/-- an empty row -/
def isE (f : Nat → Int) : Prop := f 5 = 0 ∧ f 21 = 0 ∧ ∀ k, 71 ≤ k → k < 99 → f k = -1
theorem isE_st0 (g : Nat → Int) : isE (st0 g) := ⟨rfl, rfl, fun k h1 h2 => by unfold st0; rw [if_neg (by omega), if_pos h2]⟩
theorem isE_cr {f : Nat → Int} (h : isE f) {a b : Nat} (ha : a < 8) (hb : b < 8) : cr f a b = -1 := by
  unfold cr
  split
  · rfl
  · have := pairN_lt ha hb (by assumption)
    exact h.2.2 _ (by omega) (by omega)
def emQ (I : jMI) (H : Nat) (I' : jMI) : Prop := (∀ z, z ≠ H → z ≠ H + 8 → z ≠ H + 9 → I' z = I z) ∧ (∀ j, j ≠ 9 → j ≠ 10 → I' H j = I H j) ∧ ∀ f, isE f → hR f I' H
theorem g_empty2 (X : jX) (R : jMR) (n : Nat) (I : jMI) (hR : R 2 = RF 2) (hn : 18 ≤ n) : G_X2_empty X R n [jR 2] I (emQ I 2) := by
  refine CG.of (by decide) [some (jR 2), none] rfl (Nat.le_of_ble_eq_true rfl) ?_
  have key : ∀ (i : Nat) (g : Nat → Int), i ≤ 64 → (∀ j, j < i → g j = -1) → SG_X2_empty X R n 12 [some (jR 2), some (jI i)] [] (jSf (jSf I 2 (jU (jU (I 2) 9 0) 10 0)) 10 g) (emQ I 2) := by
    refine mu2 (fun i _ => 64 - i) _ (fun i g ih hi hg => ?_)
    refine j_iload_n (pc := 12) dX2_empty_12 rfl ?_
    refine j_bipush (pc := 13) dX2_empty_13 (by decide) ?_
    refine j_icmp_ge (pc := 15) 31 dX2_empty_15 (by decide) (by omega) (by omega) (fun h_15 => ?_) (fun h_15 => ?_)
    · refine j_aload_n (pc := 31) dX2_empty_31 rfl ?_
      refine j_goVg (pc := 32) (j_runV k_X2_68 m_X2_measure (g_measure2 X R n (jSf (jSf I 2 (jU (jU (I 2) 9 0) 10 0)) 10 g) hR hn (fun _ _ => False) (fun _ _ h => h.elim) (fun a b ha hb => by rw [jSf_s, hg (8 * a + b) (by omega)]; exact ⟨by omega, ⟨fun h => h.elim, fun h => h rfl⟩⟩)) dX2_empty_32 rfl (by decide) rfl (by omega) (by decide) rfl rfl (Nat.le_of_ble_eq_true rfl)) (fun I1 h1 => ?_)
      obtain ⟨g', rfl, h1⟩ := h1
      refine j_retvg dX2_empty_35 (?_) rfl
      refine ⟨fun z z1 z2 z3 => by rw [jSf_n z3, jSf_n z2, jSf_n z1], fun j j1 j2 => by rw [jSf_n (by decide), jSf_n (by decide), jSf_s, jU_n j2, jU_n j1], fun f hf => ?_⟩
      have he : edg f = fun _ _ => False := by
        funext a b
        unfold edg
        refine propext ⟨fun h => ?_, fun h => h.elim⟩
        have := isE_cr hf h.1 h.2.1
        omega
      refine ⟨?_, ?_, fun a b ha hb => ?_, fun a b ha hb => ?_, fun s hs => ?_, fun t ht => ?_⟩
      · rw [jSf_n (by decide), jSf_n (by decide), jSf_s, jU_n (by omega), jU_s, hf.1]
      · rw [jSf_n (by decide), jSf_n (by decide), jSf_s, jU_s, hf.2.1]
      · rw [jSf_n (by decide), jSf_s, isE_cr hf ha hb]; exact hg _ (by omega)
      · rw [jSf_s, he]; exact h1 a b ha hb
      · have := hf.1; omega
      · have := hf.2.1; omega
    · refine j_aload_n (pc := 18) dX2_empty_18 rfl ?_
      refine j_getR (pc := 19) f_X2_33 dX2_empty_19 rfl rfl (by omega) ((congrFun hR _).trans rfl) ?_
      refine j_iload_n (pc := 22) dX2_empty_22 rfl ?_
      refine j_iconst (pc := 23) dX2_empty_23 ?_
      refine j_iast_a (pc := 24) (i) dX2_empty_24 rfl (by omega) (by decide) (by omega) (by omega) ?_
      refine j_iinc1 (pc := 25) dX2_empty_25 (by decide) rfl ?_
      refine j_goto (pc := 28) 12 dX2_empty_28 (by decide) ?_
      refine ih (i + 1) _ (by omega) (by omega) (fun j hj => ?_)
      by_cases e : j = i
      · subst e; rw [jU_s]
      · rw [jU_n e]; exact hg j (by omega)
  refine j_aload_n (pc := 0) dX2_empty_0 rfl ?_
  refine j_iconst (pc := 1) dX2_empty_1 ?_
  refine j_putI_b (pc := 2) f_X2_61 dX2_empty_2 rfl rfl rfl (by omega) ?_
  refine j_aload_n (pc := 5) dX2_empty_5 rfl ?_
  refine j_iconst (pc := 6) dX2_empty_6 ?_
  refine j_putI_a (pc := 7) f_X2_65 dX2_empty_7 rfl rfl rfl (by omega) ?_
  refine j_iconst (pc := 10) dX2_empty_10 ?_
  refine j_istore_n1 (pc := 11) dX2_empty_11 (by decide) rfl ?_
  have hy := key 0 (I 10) (by omega) (fun j hj => by omega)
  rw [show I 10 = (jSf I 2 (jU (jU (I 2) 9 0) 10 0)) 10 from (jSf_n (by decide)).symm, jSf_i] at hy
  exact hy
theorem g_empty28 (X : jX) (R : jMR) (n : Nat) (I : jMI) (hR : R 28 = RF 28) (hn : 44 ≤ n) : G_X2_empty X R n [jR 28] I (emQ I 28) := by
  refine CG.of (by decide) [some (jR 28), none] rfl (Nat.le_of_ble_eq_true rfl) ?_
  have key : ∀ (i : Nat) (g : Nat → Int), i ≤ 64 → (∀ j, j < i → g j = -1) → SG_X2_empty X R n 12 [some (jR 28), some (jI i)] [] (jSf (jSf I 28 (jU (jU (I 28) 9 0) 10 0)) 36 g) (emQ I 28) := by
    refine mu2 (fun i _ => 64 - i) _ (fun i g ih hi hg => ?_)
    refine j_iload_n (pc := 12) dX2_empty_12 rfl ?_
    refine j_bipush (pc := 13) dX2_empty_13 (by decide) ?_
    refine j_icmp_ge (pc := 15) 31 dX2_empty_15 (by decide) (by omega) (by omega) (fun h_15 => ?_) (fun h_15 => ?_)
    · refine j_aload_n (pc := 31) dX2_empty_31 rfl ?_
      refine j_goVg (pc := 32) (j_runV k_X2_68 m_X2_measure (g_measure28 X R n (jSf (jSf I 28 (jU (jU (I 28) 9 0) 10 0)) 36 g) hR hn (fun _ _ => False) (fun _ _ h => h.elim) (fun a b ha hb => by rw [jSf_s, hg (8 * a + b) (by omega)]; exact ⟨by omega, ⟨fun h => h.elim, fun h => h rfl⟩⟩)) dX2_empty_32 rfl (by decide) rfl (by omega) (by decide) rfl rfl (Nat.le_of_ble_eq_true rfl)) (fun I1 h1 => ?_)
      obtain ⟨g', rfl, h1⟩ := h1
      refine j_retvg dX2_empty_35 (?_) rfl
      refine ⟨fun z z1 z2 z3 => by rw [jSf_n z3, jSf_n z2, jSf_n z1], fun j j1 j2 => by rw [jSf_n (by decide), jSf_n (by decide), jSf_s, jU_n j2, jU_n j1], fun f hf => ?_⟩
      have he : edg f = fun _ _ => False := by
        funext a b
        unfold edg
        refine propext ⟨fun h => ?_, fun h => h.elim⟩
        have := isE_cr hf h.1 h.2.1
        omega
      refine ⟨?_, ?_, fun a b ha hb => ?_, fun a b ha hb => ?_, fun s hs => ?_, fun t ht => ?_⟩
      · rw [jSf_n (by decide), jSf_n (by decide), jSf_s, jU_n (by omega), jU_s, hf.1]
      · rw [jSf_n (by decide), jSf_n (by decide), jSf_s, jU_s, hf.2.1]
      · rw [jSf_n (by decide), jSf_s, isE_cr hf ha hb]; exact hg _ (by omega)
      · rw [jSf_s, he]; exact h1 a b ha hb
      · have := hf.1; omega
      · have := hf.2.1; omega
    · refine j_aload_n (pc := 18) dX2_empty_18 rfl ?_
      refine j_getR (pc := 19) f_X2_33 dX2_empty_19 rfl rfl (by omega) ((congrFun hR _).trans rfl) ?_
      refine j_iload_n (pc := 22) dX2_empty_22 rfl ?_
      refine j_iconst (pc := 23) dX2_empty_23 ?_
      refine j_iast_a (pc := 24) (i) dX2_empty_24 rfl (by omega) (by decide) (by omega) (by omega) ?_
      refine j_iinc1 (pc := 25) dX2_empty_25 (by decide) rfl ?_
      refine j_goto (pc := 28) 12 dX2_empty_28 (by decide) ?_
      refine ih (i + 1) _ (by omega) (by omega) (fun j hj => ?_)
      by_cases e : j = i
      · subst e; rw [jU_s]
      · rw [jU_n e]; exact hg j (by omega)
  refine j_aload_n (pc := 0) dX2_empty_0 rfl ?_
  refine j_iconst (pc := 1) dX2_empty_1 ?_
  refine j_putI_b (pc := 2) f_X2_61 dX2_empty_2 rfl rfl rfl (by omega) ?_
  refine j_aload_n (pc := 5) dX2_empty_5 rfl ?_
  refine j_iconst (pc := 6) dX2_empty_6 ?_
  refine j_putI_a (pc := 7) f_X2_65 dX2_empty_7 rfl rfl rfl (by omega) ?_
  refine j_iconst (pc := 10) dX2_empty_10 ?_
  refine j_istore_n1 (pc := 11) dX2_empty_11 (by decide) rfl ?_
  have hy := key 0 (I 36) (by omega) (fun j hj => by omega)
  rw [show I 36 = (jSf I 28 (jU (jU (I 28) 9 0) 10 0)) 36 from (jSf_n (by decide)).symm, jSf_i] at hy
  exact hy
theorem g_empty53 (X : jX) (R : jMR) (n : Nat) (I : jMI) (hR : R 53 = RF 53) (hn : 69 ≤ n) : G_X2_empty X R n [jR 53] I (emQ I 53) := by
  refine CG.of (by decide) [some (jR 53), none] rfl (Nat.le_of_ble_eq_true rfl) ?_
  have key : ∀ (i : Nat) (g : Nat → Int), i ≤ 64 → (∀ j, j < i → g j = -1) → SG_X2_empty X R n 12 [some (jR 53), some (jI i)] [] (jSf (jSf I 53 (jU (jU (I 53) 9 0) 10 0)) 61 g) (emQ I 53) := by
    refine mu2 (fun i _ => 64 - i) _ (fun i g ih hi hg => ?_)
    refine j_iload_n (pc := 12) dX2_empty_12 rfl ?_
    refine j_bipush (pc := 13) dX2_empty_13 (by decide) ?_
    refine j_icmp_ge (pc := 15) 31 dX2_empty_15 (by decide) (by omega) (by omega) (fun h_15 => ?_) (fun h_15 => ?_)
    · refine j_aload_n (pc := 31) dX2_empty_31 rfl ?_
      refine j_goVg (pc := 32) (j_runV k_X2_68 m_X2_measure (g_measure53 X R n (jSf (jSf I 53 (jU (jU (I 53) 9 0) 10 0)) 61 g) hR hn (fun _ _ => False) (fun _ _ h => h.elim) (fun a b ha hb => by rw [jSf_s, hg (8 * a + b) (by omega)]; exact ⟨by omega, ⟨fun h => h.elim, fun h => h rfl⟩⟩)) dX2_empty_32 rfl (by decide) rfl (by omega) (by decide) rfl rfl (Nat.le_of_ble_eq_true rfl)) (fun I1 h1 => ?_)
      obtain ⟨g', rfl, h1⟩ := h1
      refine j_retvg dX2_empty_35 (?_) rfl
      refine ⟨fun z z1 z2 z3 => by rw [jSf_n z3, jSf_n z2, jSf_n z1], fun j j1 j2 => by rw [jSf_n (by decide), jSf_n (by decide), jSf_s, jU_n j2, jU_n j1], fun f hf => ?_⟩
      have he : edg f = fun _ _ => False := by
        funext a b
        unfold edg
        refine propext ⟨fun h => ?_, fun h => h.elim⟩
        have := isE_cr hf h.1 h.2.1
        omega
      refine ⟨?_, ?_, fun a b ha hb => ?_, fun a b ha hb => ?_, fun s hs => ?_, fun t ht => ?_⟩
      · rw [jSf_n (by decide), jSf_n (by decide), jSf_s, jU_n (by omega), jU_s, hf.1]
      · rw [jSf_n (by decide), jSf_n (by decide), jSf_s, jU_s, hf.2.1]
      · rw [jSf_n (by decide), jSf_s, isE_cr hf ha hb]; exact hg _ (by omega)
      · rw [jSf_s, he]; exact h1 a b ha hb
      · have := hf.1; omega
      · have := hf.2.1; omega
    · refine j_aload_n (pc := 18) dX2_empty_18 rfl ?_
      refine j_getR (pc := 19) f_X2_33 dX2_empty_19 rfl rfl (by omega) ((congrFun hR _).trans rfl) ?_
      refine j_iload_n (pc := 22) dX2_empty_22 rfl ?_
      refine j_iconst (pc := 23) dX2_empty_23 ?_
      refine j_iast_a (pc := 24) (i) dX2_empty_24 rfl (by omega) (by decide) (by omega) (by omega) ?_
      refine j_iinc1 (pc := 25) dX2_empty_25 (by decide) rfl ?_
      refine j_goto (pc := 28) 12 dX2_empty_28 (by decide) ?_
      refine ih (i + 1) _ (by omega) (by omega) (fun j hj => ?_)
      by_cases e : j = i
      · subst e; rw [jU_s]
      · rw [jU_n e]; exact hg j (by omega)
  refine j_aload_n (pc := 0) dX2_empty_0 rfl ?_
  refine j_iconst (pc := 1) dX2_empty_1 ?_
  refine j_putI_b (pc := 2) f_X2_61 dX2_empty_2 rfl rfl rfl (by omega) ?_
  refine j_aload_n (pc := 5) dX2_empty_5 rfl ?_
  refine j_iconst (pc := 6) dX2_empty_6 ?_
  refine j_putI_a (pc := 7) f_X2_65 dX2_empty_7 rfl rfl rfl (by omega) ?_
  refine j_iconst (pc := 10) dX2_empty_10 ?_
  refine j_istore_n1 (pc := 11) dX2_empty_11 (by decide) rfl ?_
  have hy := key 0 (I 61) (by omega) (fun j hj => by omega)
  rw [show I 61 = (jSf I 53 (jU (jU (I 53) 9 0) 10 0)) 61 from (jSf_n (by decide)).symm, jSf_i] at hy
  exact hy
theorem g_empty80 (X : jX) (R : jMR) (n : Nat) (I : jMI) (hR : R 80 = RF 80) (hn : 96 ≤ n) : G_X2_empty X R n [jR 80] I (emQ I 80) := by
  refine CG.of (by decide) [some (jR 80), none] rfl (Nat.le_of_ble_eq_true rfl) ?_
  have key : ∀ (i : Nat) (g : Nat → Int), i ≤ 64 → (∀ j, j < i → g j = -1) → SG_X2_empty X R n 12 [some (jR 80), some (jI i)] [] (jSf (jSf I 80 (jU (jU (I 80) 9 0) 10 0)) 88 g) (emQ I 80) := by
    refine mu2 (fun i _ => 64 - i) _ (fun i g ih hi hg => ?_)
    refine j_iload_n (pc := 12) dX2_empty_12 rfl ?_
    refine j_bipush (pc := 13) dX2_empty_13 (by decide) ?_
    refine j_icmp_ge (pc := 15) 31 dX2_empty_15 (by decide) (by omega) (by omega) (fun h_15 => ?_) (fun h_15 => ?_)
    · refine j_aload_n (pc := 31) dX2_empty_31 rfl ?_
      refine j_goVg (pc := 32) (j_runV k_X2_68 m_X2_measure (g_measure80 X R n (jSf (jSf I 80 (jU (jU (I 80) 9 0) 10 0)) 88 g) hR hn (fun _ _ => False) (fun _ _ h => h.elim) (fun a b ha hb => by rw [jSf_s, hg (8 * a + b) (by omega)]; exact ⟨by omega, ⟨fun h => h.elim, fun h => h rfl⟩⟩)) dX2_empty_32 rfl (by decide) rfl (by omega) (by decide) rfl rfl (Nat.le_of_ble_eq_true rfl)) (fun I1 h1 => ?_)
      obtain ⟨g', rfl, h1⟩ := h1
      refine j_retvg dX2_empty_35 (?_) rfl
      refine ⟨fun z z1 z2 z3 => by rw [jSf_n z3, jSf_n z2, jSf_n z1], fun j j1 j2 => by rw [jSf_n (by decide), jSf_n (by decide), jSf_s, jU_n j2, jU_n j1], fun f hf => ?_⟩
      have he : edg f = fun _ _ => False := by
        funext a b
        unfold edg
        refine propext ⟨fun h => ?_, fun h => h.elim⟩
        have := isE_cr hf h.1 h.2.1
        omega
      refine ⟨?_, ?_, fun a b ha hb => ?_, fun a b ha hb => ?_, fun s hs => ?_, fun t ht => ?_⟩
      · rw [jSf_n (by decide), jSf_n (by decide), jSf_s, jU_n (by omega), jU_s, hf.1]
      · rw [jSf_n (by decide), jSf_n (by decide), jSf_s, jU_s, hf.2.1]
      · rw [jSf_n (by decide), jSf_s, isE_cr hf ha hb]; exact hg _ (by omega)
      · rw [jSf_s, he]; exact h1 a b ha hb
      · have := hf.1; omega
      · have := hf.2.1; omega
    · refine j_aload_n (pc := 18) dX2_empty_18 rfl ?_
      refine j_getR (pc := 19) f_X2_33 dX2_empty_19 rfl rfl (by omega) ((congrFun hR _).trans rfl) ?_
      refine j_iload_n (pc := 22) dX2_empty_22 rfl ?_
      refine j_iconst (pc := 23) dX2_empty_23 ?_
      refine j_iast_a (pc := 24) (i) dX2_empty_24 rfl (by omega) (by decide) (by omega) (by omega) ?_
      refine j_iinc1 (pc := 25) dX2_empty_25 (by decide) rfl ?_
      refine j_goto (pc := 28) 12 dX2_empty_28 (by decide) ?_
      refine ih (i + 1) _ (by omega) (by omega) (fun j hj => ?_)
      by_cases e : j = i
      · subst e; rw [jU_s]
      · rw [jU_n e]; exact hg j (by omega)
  refine j_aload_n (pc := 0) dX2_empty_0 rfl ?_
  refine j_iconst (pc := 1) dX2_empty_1 ?_
  refine j_putI_b (pc := 2) f_X2_61 dX2_empty_2 rfl rfl rfl (by omega) ?_
  refine j_aload_n (pc := 5) dX2_empty_5 rfl ?_
  refine j_iconst (pc := 6) dX2_empty_6 ?_
  refine j_putI_a (pc := 7) f_X2_65 dX2_empty_7 rfl rfl rfl (by omega) ?_
  refine j_iconst (pc := 10) dX2_empty_10 ?_
  refine j_istore_n1 (pc := 11) dX2_empty_11 (by decide) rfl ?_
  have hy := key 0 (I 88) (by omega) (fun j hj => by omega)
  rw [show I 88 = (jSf I 80 (jU (jU (I 80) 9 0) 10 0)) 88 from (jSf_n (by decide)).symm, jSf_i] at hy
  exact hy
theorem c_hSt2 (X : jX) (I : jMI) (f : Nat → Int) (a b : Nat) (c : Int) (hH : hR f I 2) (hok : okSt f) (ha : a < 8) (hb : b < 8) (hab : a ≠ b) (hc : 0 ≤ c ∧ c ≤ 9) : C_X2_addStair X [jR 2, jI a, jI b, jI c] I (fun v I' => v = cr f a b ∧ hR (jU f (71 + pairN a b) c) I' 2 ∧ ∀ z, z ≠ 10 → z ≠ 11 → I' z = I z) := by
  refine CG.of (by decide) [some (jR 2), some (jI a), some (jI b), some (jI c), none] rfl (Nat.le_of_ble_eq_true rfl) ?_
  obtain ⟨a1, a2, a3, a4, a5, a6⟩ := hH
  have hcr := cr_rng hok ha hb
  have hp := pairN_lt ha hb hab
  obtain ⟨S, hS, hS5⟩ := okSt_5 hok
  obtain ⟨T, hT, hT5⟩ := okSt_21 hok
  generalize hG : jU (jU (I 10) (8 * a + b) c) (8 * b + a) c = G
  have hcrG : ∀ x y, x < 8 → y < 8 → G (8 * x + y) = cr (jU f (71 + pairN a b) c) x y := by
    intro x y hx hy
    rw [cr_set ha hb hab hx hy, ← hG]
    by_cases h1 : 8 * x + y = 8 * b + a
    · rw [h1, jU_s, if_pos (Or.inr ⟨by omega, by omega⟩)]
    · rw [jU_n h1]
      by_cases h2 : 8 * x + y = 8 * a + b
      · rw [h2, jU_s, if_pos (Or.inl ⟨by omega, by omega⟩)]
      · rw [jU_n h2, if_neg (by omega)]; exact a3 x y hx hy
  have fin : ∀ I' : jMI, I' 10 = G → (∀ z, z ≠ 10 → z ≠ 11 → I' z = I z) → (∀ x y, x < 8 → y < 8 → isD (edg (jU f (71 + pairN a b) c)) x y 100 (I' 11 (8 * x + y))) → hR (jU f (71 + pairN a b) c) I' 2 := by
    intro I' h8 hz h9
    unfold hR
    rw [h8, hz 2 (by decide) (by decide), hz (2 + 10) (by decide) (by decide), hz (2 + 11) (by decide) (by decide), hz (2 + 12) (by decide) (by decide), hz (2 + 13) (by decide) (by decide), hz (2 + 14) (by decide) (by decide), hz (2 + 15) (by decide) (by decide), jU_n (show (5 : Nat) ≠ _ by omega), jU_n (show (21 : Nat) ≠ _ by omega)]
    refine ⟨a1, a2, hcrG, h9, fun s hs => ?_, fun t ht => ?_⟩
    · rw [jU_n (by omega), jU_n (by omega), jU_n (by omega)]; exact a5 s hs
    · obtain ⟨cz, hcz, hcz4⟩ := okSt_27 hok (show t < 5 by omega)
      obtain ⟨c1, c2, c3⟩ := a6 t ht
      rw [jU_n (by omega), jU_n (by omega)]
      refine ⟨c1, c2, fun k hk => ?_⟩
      rw [jU_n (by omega)]; exact c3 k hk
  have hmes : ∀ x y, x < 8 → y < 8 → (-1 ≤ (jSf I 10 G) 10 (8 * x + y) ∧ (jSf I 10 G) 10 (8 * x + y) ≤ 9) ∧ (edg (jU f (71 + pairN a b) c) x y ↔ (jSf I 10 G) 10 (8 * x + y) ≠ -1) := by
    intro x y hx hy
    have h1 := cr_rng (okSt_cr hok ha hb hab hc) hx hy
    rw [jSf_s, hcrG x y hx hy]
    refine ⟨by omega, ⟨fun h => ?_, fun h => ⟨hx, hy, by omega⟩⟩⟩
    have := h.2.2
    omega
  refine j_aload_n (pc := 0) dX2_addStair_0 rfl ?_
  refine j_getR (pc := 1) f_X2_33 dX2_addStair_1 rfl rfl (by decide) rfl ?_
  refine j_iload_n (pc := 4) dX2_addStair_4 rfl ?_
  refine j_iload_n (pc := 5) dX2_addStair_5 rfl ?_
  refine j_goI (pc := 6) (j_runSN k_X2_77 m_X11_pair (c_pair X I a b) dX2_addStair_6 (by decide) rfl rfl (Nat.le_of_ble_eq_true rfl)) (fun r1 I1 h1 => ?_)
  obtain ⟨rfl, rfl⟩ := h1
  refine j_iald_b (pc := 9) (8 * a + b) dX2_addStair_9 rfl (by decide) (by decide) (by omega) (by omega) ?_
  rw [show I1 10 (8 * a + b) = cr f a b from a3 a b ha hb]
  refine j_istore4 (pc := 10) dX2_addStair_10 (by decide) rfl ?_
  refine j_aload_n (pc := 12) dX2_addStair_12 rfl ?_
  refine j_getR (pc := 13) f_X2_33 dX2_addStair_13 rfl rfl (by decide) rfl ?_
  refine j_iload_n (pc := 16) dX2_addStair_16 rfl ?_
  refine j_iload_n (pc := 17) dX2_addStair_17 rfl ?_
  refine j_goI (pc := 18) (j_runSN k_X2_77 m_X11_pair (c_pair X I1 a b) dX2_addStair_18 (by decide) rfl rfl (Nat.le_of_ble_eq_true rfl)) (fun r2 I2 h2 => ?_)
  obtain ⟨rfl, rfl⟩ := h2
  refine j_iload_n (pc := 21) dX2_addStair_21 rfl ?_
  refine j_iast_b (pc := 22) (8 * a + b) dX2_addStair_22 rfl (by decide) (by decide) (by omega) (by omega) ?_
  refine j_aload_n (pc := 23) dX2_addStair_23 rfl ?_
  refine j_getR (pc := 24) f_X2_33 dX2_addStair_24 rfl rfl (by decide) rfl ?_
  refine j_iload_n (pc := 27) dX2_addStair_27 rfl ?_
  refine j_iload_n (pc := 28) dX2_addStair_28 rfl ?_
  refine j_goI (pc := 29) (j_runSN k_X2_77 m_X11_pair (c_pair X (jSf I2 10 (jU (I2 10) (8 * a + b) c)) b a) dX2_addStair_29 (by decide) rfl rfl (Nat.le_of_ble_eq_true rfl)) (fun r3 I3 h3 => ?_)
  obtain ⟨rfl, rfl⟩ := h3
  refine j_iload_n (pc := 32) dX2_addStair_32 rfl ?_
  refine j_iast_a (pc := 33) (8 * b + a) dX2_addStair_33 rfl (by decide) (by decide) (by omega) (by omega) ?_
  rw [hG]
  refine j_iload (pc := 34) dX2_addStair_34 rfl ?_
  refine j_iconst (pc := 36) dX2_addStair_36 ?_
  refine j_icmp_ne (pc := 37) 44 dX2_addStair_37 (by decide) (by omega) (by omega) (fun h_37 => ?_) (fun h_37 => ?_)
  · refine j_iload (pc := 44) dX2_addStair_44 rfl ?_
    refine j_reti dX2_addStair_46 (?_) rfl
    first
      | (refine ⟨rfl, fin _ (by rw [jSf_n (by decide), jSf_s]) (fun z z1 z2 => by rw [jSf_n z2, jSf_n z1]) (fun x y hx hy => by rw [jSf_s]; exact h4 x y hx hy), fun z z1 z2 => by rw [jSf_n z2, jSf_n z1]⟩)
      | (refine ⟨rfl, fin _ (by rw [jSf_s]) (fun z z1 z2 => by rw [jSf_n z1]) (fun x y hx hy => ?_), fun z z1 z2 => by rw [jSf_n z1]⟩
         have he : edg (jU f (71 + pairN a b) c) = edg f := by
           funext u v
           unfold edg
           refine propext ⟨fun ⟨h1, h2, h3⟩ => ⟨h1, h2, ?_⟩, fun ⟨h1, h2, h3⟩ => ⟨h1, h2, ?_⟩⟩
           · rw [cr_set ha hb hab h1 h2] at h3
             split at h3
             · rename_i hh
               rcases hh with ⟨rfl, rfl⟩ | ⟨rfl, rfl⟩
               · omega
               · rw [cr_comm]; omega
             · exact h3
           · rw [cr_set ha hb hab h1 h2]
             split
             · omega
             · exact h3
         rw [he, jSf_n (by decide)]
         exact a4 x y hx hy)
  · refine j_aload_n (pc := 40) dX2_addStair_40 rfl ?_
    refine j_goV (pc := 41) (j_runV k_X2_68 m_X2_measure (g_measure2 X RF 124 (jSf I2 10 G) rfl (by decide) (edg (jU f (71 + pairN a b) c)) (edg_lt _) hmes) dX2_addStair_41 rfl (by decide) rfl (by decide) (by decide) rfl rfl (Nat.le_of_ble_eq_true rfl)) (fun I4 h4 => ?_)
    obtain ⟨g', rfl, h4⟩ := h4
    refine j_iload (pc := 44) dX2_addStair_44 rfl ?_
    refine j_reti dX2_addStair_46 (?_) rfl
    first
      | (refine ⟨rfl, fin _ (by rw [jSf_n (by decide), jSf_s]) (fun z z1 z2 => by rw [jSf_n z2, jSf_n z1]) (fun x y hx hy => by rw [jSf_s]; exact h4 x y hx hy), fun z z1 z2 => by rw [jSf_n z2, jSf_n z1]⟩)
      | (refine ⟨rfl, fin _ (by rw [jSf_s]) (fun z z1 z2 => by rw [jSf_n z1]) (fun x y hx hy => ?_), fun z z1 z2 => by rw [jSf_n z1]⟩
         have he : edg (jU f (71 + pairN a b) c) = edg f := by
           funext u v
           unfold edg
           refine propext ⟨fun ⟨h1, h2, h3⟩ => ⟨h1, h2, ?_⟩, fun ⟨h1, h2, h3⟩ => ⟨h1, h2, ?_⟩⟩
           · rw [cr_set ha hb hab h1 h2] at h3
             split at h3
             · rename_i hh
               rcases hh with ⟨rfl, rfl⟩ | ⟨rfl, rfl⟩
               · omega
               · rw [cr_comm]; omega
             · exact h3
           · rw [cr_set ha hb hab h1 h2]
             split
             · omega
             · exact h3
         rw [he, jSf_n (by decide)]
         exact a4 x y hx hy)
theorem c_hSt80 (X : jX) (I : jMI) (f : Nat → Int) (a b : Nat) (c : Int) (hH : hR f I 80) (hok : okSt f) (ha : a < 8) (hb : b < 8) (hab : a ≠ b) (hc : 0 ≤ c ∧ c ≤ 9) : C_X2_addStair X [jR 80, jI a, jI b, jI c] I (fun v I' => v = cr f a b ∧ hR (jU f (71 + pairN a b) c) I' 80 ∧ ∀ z, z ≠ 88 → z ≠ 89 → I' z = I z) := by
  refine CG.of (by decide) [some (jR 80), some (jI a), some (jI b), some (jI c), none] rfl (Nat.le_of_ble_eq_true rfl) ?_
  obtain ⟨a1, a2, a3, a4, a5, a6⟩ := hH
  have hcr := cr_rng hok ha hb
  have hp := pairN_lt ha hb hab
  obtain ⟨S, hS, hS5⟩ := okSt_5 hok
  obtain ⟨T, hT, hT5⟩ := okSt_21 hok
  generalize hG : jU (jU (I 88) (8 * a + b) c) (8 * b + a) c = G
  have hcrG : ∀ x y, x < 8 → y < 8 → G (8 * x + y) = cr (jU f (71 + pairN a b) c) x y := by
    intro x y hx hy
    rw [cr_set ha hb hab hx hy, ← hG]
    by_cases h1 : 8 * x + y = 8 * b + a
    · rw [h1, jU_s, if_pos (Or.inr ⟨by omega, by omega⟩)]
    · rw [jU_n h1]
      by_cases h2 : 8 * x + y = 8 * a + b
      · rw [h2, jU_s, if_pos (Or.inl ⟨by omega, by omega⟩)]
      · rw [jU_n h2, if_neg (by omega)]; exact a3 x y hx hy
  have fin : ∀ I' : jMI, I' 88 = G → (∀ z, z ≠ 88 → z ≠ 89 → I' z = I z) → (∀ x y, x < 8 → y < 8 → isD (edg (jU f (71 + pairN a b) c)) x y 100 (I' 89 (8 * x + y))) → hR (jU f (71 + pairN a b) c) I' 80 := by
    intro I' h8 hz h9
    unfold hR
    rw [h8, hz 80 (by decide) (by decide), hz (80 + 10) (by decide) (by decide), hz (80 + 11) (by decide) (by decide), hz (80 + 12) (by decide) (by decide), hz (80 + 13) (by decide) (by decide), hz (80 + 14) (by decide) (by decide), hz (80 + 15) (by decide) (by decide), jU_n (show (5 : Nat) ≠ _ by omega), jU_n (show (21 : Nat) ≠ _ by omega)]
    refine ⟨a1, a2, hcrG, h9, fun s hs => ?_, fun t ht => ?_⟩
    · rw [jU_n (by omega), jU_n (by omega), jU_n (by omega)]; exact a5 s hs
    · obtain ⟨cz, hcz, hcz4⟩ := okSt_27 hok (show t < 5 by omega)
      obtain ⟨c1, c2, c3⟩ := a6 t ht
      rw [jU_n (by omega), jU_n (by omega)]
      refine ⟨c1, c2, fun k hk => ?_⟩
      rw [jU_n (by omega)]; exact c3 k hk
  have hmes : ∀ x y, x < 8 → y < 8 → (-1 ≤ (jSf I 88 G) 88 (8 * x + y) ∧ (jSf I 88 G) 88 (8 * x + y) ≤ 9) ∧ (edg (jU f (71 + pairN a b) c) x y ↔ (jSf I 88 G) 88 (8 * x + y) ≠ -1) := by
    intro x y hx hy
    have h1 := cr_rng (okSt_cr hok ha hb hab hc) hx hy
    rw [jSf_s, hcrG x y hx hy]
    refine ⟨by omega, ⟨fun h => ?_, fun h => ⟨hx, hy, by omega⟩⟩⟩
    have := h.2.2
    omega
  refine j_aload_n (pc := 0) dX2_addStair_0 rfl ?_
  refine j_getR (pc := 1) f_X2_33 dX2_addStair_1 rfl rfl (by decide) rfl ?_
  refine j_iload_n (pc := 4) dX2_addStair_4 rfl ?_
  refine j_iload_n (pc := 5) dX2_addStair_5 rfl ?_
  refine j_goI (pc := 6) (j_runSN k_X2_77 m_X11_pair (c_pair X I a b) dX2_addStair_6 (by decide) rfl rfl (Nat.le_of_ble_eq_true rfl)) (fun r1 I1 h1 => ?_)
  obtain ⟨rfl, rfl⟩ := h1
  refine j_iald_b (pc := 9) (8 * a + b) dX2_addStair_9 rfl (by decide) (by decide) (by omega) (by omega) ?_
  rw [show I1 88 (8 * a + b) = cr f a b from a3 a b ha hb]
  refine j_istore4 (pc := 10) dX2_addStair_10 (by decide) rfl ?_
  refine j_aload_n (pc := 12) dX2_addStair_12 rfl ?_
  refine j_getR (pc := 13) f_X2_33 dX2_addStair_13 rfl rfl (by decide) rfl ?_
  refine j_iload_n (pc := 16) dX2_addStair_16 rfl ?_
  refine j_iload_n (pc := 17) dX2_addStair_17 rfl ?_
  refine j_goI (pc := 18) (j_runSN k_X2_77 m_X11_pair (c_pair X I1 a b) dX2_addStair_18 (by decide) rfl rfl (Nat.le_of_ble_eq_true rfl)) (fun r2 I2 h2 => ?_)
  obtain ⟨rfl, rfl⟩ := h2
  refine j_iload_n (pc := 21) dX2_addStair_21 rfl ?_
  refine j_iast_b (pc := 22) (8 * a + b) dX2_addStair_22 rfl (by decide) (by decide) (by omega) (by omega) ?_
  refine j_aload_n (pc := 23) dX2_addStair_23 rfl ?_
  refine j_getR (pc := 24) f_X2_33 dX2_addStair_24 rfl rfl (by decide) rfl ?_
  refine j_iload_n (pc := 27) dX2_addStair_27 rfl ?_
  refine j_iload_n (pc := 28) dX2_addStair_28 rfl ?_
  refine j_goI (pc := 29) (j_runSN k_X2_77 m_X11_pair (c_pair X (jSf I2 88 (jU (I2 88) (8 * a + b) c)) b a) dX2_addStair_29 (by decide) rfl rfl (Nat.le_of_ble_eq_true rfl)) (fun r3 I3 h3 => ?_)
  obtain ⟨rfl, rfl⟩ := h3
  refine j_iload_n (pc := 32) dX2_addStair_32 rfl ?_
  refine j_iast_a (pc := 33) (8 * b + a) dX2_addStair_33 rfl (by decide) (by decide) (by omega) (by omega) ?_
  rw [hG]
  refine j_iload (pc := 34) dX2_addStair_34 rfl ?_
  refine j_iconst (pc := 36) dX2_addStair_36 ?_
  refine j_icmp_ne (pc := 37) 44 dX2_addStair_37 (by decide) (by omega) (by omega) (fun h_37 => ?_) (fun h_37 => ?_)
  · refine j_iload (pc := 44) dX2_addStair_44 rfl ?_
    refine j_reti dX2_addStair_46 (?_) rfl
    first
      | (refine ⟨rfl, fin _ (by rw [jSf_n (by decide), jSf_s]) (fun z z1 z2 => by rw [jSf_n z2, jSf_n z1]) (fun x y hx hy => by rw [jSf_s]; exact h4 x y hx hy), fun z z1 z2 => by rw [jSf_n z2, jSf_n z1]⟩)
      | (refine ⟨rfl, fin _ (by rw [jSf_s]) (fun z z1 z2 => by rw [jSf_n z1]) (fun x y hx hy => ?_), fun z z1 z2 => by rw [jSf_n z1]⟩
         have he : edg (jU f (71 + pairN a b) c) = edg f := by
           funext u v
           unfold edg
           refine propext ⟨fun ⟨h1, h2, h3⟩ => ⟨h1, h2, ?_⟩, fun ⟨h1, h2, h3⟩ => ⟨h1, h2, ?_⟩⟩
           · rw [cr_set ha hb hab h1 h2] at h3
             split at h3
             · rename_i hh
               rcases hh with ⟨rfl, rfl⟩ | ⟨rfl, rfl⟩
               · omega
               · rw [cr_comm]; omega
             · exact h3
           · rw [cr_set ha hb hab h1 h2]
             split
             · omega
             · exact h3
         rw [he, jSf_n (by decide)]
         exact a4 x y hx hy)
  · refine j_aload_n (pc := 40) dX2_addStair_40 rfl ?_
    refine j_goV (pc := 41) (j_runV k_X2_68 m_X2_measure (g_measure80 X RF 124 (jSf I2 88 G) rfl (by decide) (edg (jU f (71 + pairN a b) c)) (edg_lt _) hmes) dX2_addStair_41 rfl (by decide) rfl (by decide) (by decide) rfl rfl (Nat.le_of_ble_eq_true rfl)) (fun I4 h4 => ?_)
    obtain ⟨g', rfl, h4⟩ := h4
    refine j_iload (pc := 44) dX2_addStair_44 rfl ?_
    refine j_reti dX2_addStair_46 (?_) rfl
    first
      | (refine ⟨rfl, fin _ (by rw [jSf_n (by decide), jSf_s]) (fun z z1 z2 => by rw [jSf_n z2, jSf_n z1]) (fun x y hx hy => by rw [jSf_s]; exact h4 x y hx hy), fun z z1 z2 => by rw [jSf_n z2, jSf_n z1]⟩)
      | (refine ⟨rfl, fin _ (by rw [jSf_s]) (fun z z1 z2 => by rw [jSf_n z1]) (fun x y hx hy => ?_), fun z z1 z2 => by rw [jSf_n z1]⟩
         have he : edg (jU f (71 + pairN a b) c) = edg f := by
           funext u v
           unfold edg
           refine propext ⟨fun ⟨h1, h2, h3⟩ => ⟨h1, h2, ?_⟩, fun ⟨h1, h2, h3⟩ => ⟨h1, h2, ?_⟩⟩
           · rw [cr_set ha hb hab h1 h2] at h3
             split at h3
             · rename_i hh
               rcases hh with ⟨rfl, rfl⟩ | ⟨rfl, rfl⟩
               · omega
               · rw [cr_comm]; omega
             · exact h3
           · rw [cr_set ha hb hab h1 h2]
             split
             · omega
             · exact h3
         rw [he, jSf_n (by decide)]
         exact a4 x y hx hy)
