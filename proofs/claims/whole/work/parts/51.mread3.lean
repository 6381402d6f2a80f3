/-! ===== the reference: reading an item, all sorts ===== -/
def rdP (I I' : jMI) : Prop := (∀ z, z ≠ 105 → z ≠ 109 → I' z = I z) ∧ ∀ j, j ≠ 6 → j ≠ 7 → j ≠ 8 → j ≠ 9 → I' 105 j = I 105 j
theorem rdP.tr {I I1 I2 : jMI} (h : rdP I I1) (h' : rdP I1 I2) : rdP I I2 := ⟨fun z z1 z2 => (h'.1 z z1 z2).trans (h.1 z z1 z2), fun j a b c d => (h'.2 j a b c d).trans (h.2 j a b c d)⟩
theorem rdP.rf {I : jMI} : rdP I I := ⟨fun _ _ _ => rfl, fun _ _ _ _ _ => rfl⟩
def rdOk (b : Nat → Int) (n p : Nat) (most : Int) (i : Nat) (I' : jMI) : Prop := ∃ v p', pNum b n p most = .ok (v, p') ∧ I' 105 6 = (p' : Nat) ∧ I' 109 i = v ∧ I' 105 9 = (tS b n p : Nat)
def rdEr (b : Nat → Int) (n p : Nat) (most : Int) (I' : jMI) : Prop := ∃ s, pNum b n p most = .error s ∧ I' 105 9 = (s : Nat)
def enOk (b : Nat → Int) (n p : Nat) (I' : jMI) : Prop := ∃ p', (∀ f, pStop b n p f = .ok (p', f)) ∧ I' 105 6 = (p' : Nat)
def enEr (b : Nat → Int) (n p : Nat) (I' : jMI) : Prop := ∃ s, (∀ f, pStop b n p f = .error s) ∧ I' 105 9 = (s : Nat)
theorem CG_mono_b {X : jX} {own nm : String} {cc : ByteArray} : True := trivial
/-- where the reader stands -/
def rdA (b : Nat → Int) (n p : Nat) (I : jMI) : Prop := I 105 6 = (p : Nat) ∧ I 105 5 = (n : Nat) ∧ n ≤ 150 ∧ p ≤ n ∧ I 108 = b ∧ ∀ i, i < n → 0 ≤ b i ∧ b i ≤ 127
theorem c_reads2 (X : jX) (I : jMI) (b : Nat → Int) (p n i : Nat) (most : Int) (h : rdA b n p I) (hi : i < 5) (hm : 0 ≤ most ∧ most ≤ 100) : C_X12_reads X [jR 105, jI i, jI most] I (fun r I' => rdP I I' ∧ (∀ k, k ≠ i → I' 109 k = I 109 k) ∧ ((r = 1 ∧ rdOk b n p most i I') ∨ (r = 0 ∧ rdEr b n p most I'))) := by
  obtain ⟨h1, h2, h3, h4, h5, h6⟩ := h
  refine CG.of (by decide) [some (jR 105), some (jI i), some (jI most)] rfl (Nat.le_of_ble_eq_true rfl) ?_
  have hr : rc (tSo b n (tS b n p)) = 2 ↔ tSo b n (tS b n p) = 2 := by unfold rc; repeat' split
                                                                       all_goals omega
  have hr2 : 0 ≤ rc (tSo b n (tS b n p)) ∧ rc (tSo b n (tS b n p)) ≤ 10 := by unfold rc tSo; repeat' split
                                                                              all_goals omega
  refine j_aload_n (pc := 0) dX12_reads_0 rfl ?_
  refine j_goV (pc := 1) (j_runV k_X12_160 m_X12_nextToken (c_nextToken X I p n h1 h2 h3 h4 (by rw [h5]; exact h6)) dX12_reads_1 rfl (by decide) rfl (by decide) (by decide) rfl rfl (Nat.le_of_ble_eq_true rfl)) (fun I1 e1 => ?_)
  obtain ⟨g, rfl, e1⟩ := e1
  rw [h5] at e1
  obtain ⟨n9, n7, n6, n8, n8r, nf⟩ := e1
  refine j_aload_n (pc := 4) dX12_reads_4 rfl ?_
  refine j_getR (pc := 5) f_X12_23 dX12_reads_5 rfl rfl (by decide) rfl ?_
  refine j_iload_n (pc := 8) dX12_reads_8 rfl ?_
  refine j_aload_n (pc := 9) dX12_reads_9 rfl ?_
  refine j_getI_a (pc := 10) f_X12_142 dX12_reads_10 rfl rfl (by decide) ?_
  refine j_iast_b (pc := 13) (i) dX12_reads_13 rfl (by decide) (by decide) (by omega) (by omega) ?_
  rw [jSf_n (by decide)]
  refine j_aload_n (pc := 14) dX12_reads_14 rfl ?_
  refine j_getI_c (pc := 15) f_X12_145 dX12_reads_15 rfl rfl (by decide) (by decide) ?_
  rw [jSf_s, n7]
  refine j_iconst (pc := 18) dX12_reads_18 ?_
  refine j_icmp_ne (pc := 19) 34 dX12_reads_19 (by decide) (by omega) (by omega) (fun h_19 => ?_) (fun h_19 => ?_)
  · refine j_iconst (pc := 34) dX12_reads_34 ?_
    refine j_retz dX12_reads_35 (by omega) (?_) rfl
    refine ⟨⟨fun z z1 z2 => by rw [jSf_n z2, jSf_n z1], fun j a b c d => by rw [jSf_n (by decide), jSf_s]; exact nf j a b c d⟩, fun k hk => by rw [jSf_s, jU_n hk], ?_⟩
    unfold rdOk rdEr pNum
    rw [jSf_n (by decide), jSf_s, jSf_s, jU_s]
    first
      | (refine Or.inl ⟨rfl, ?_⟩
         have e2 := hr.mp (by omega)
         rw [if_pos ⟨e2, by rw [← n8 e2]; omega⟩]
         exact ⟨_, _, rfl, n6 (by omega), n8 e2, n9⟩)
      | (refine Or.inr ⟨rfl, ?_⟩
         rw [if_neg (fun h => by have e2 := hr.mpr h.1; have e3 := n8 h.1; have e4 := h.2; omega)]
         exact ⟨_, rfl, n9⟩)
  · refine j_aload_n (pc := 22) dX12_reads_22 rfl ?_
    refine j_getI_c (pc := 23) f_X12_142 dX12_reads_23 rfl rfl (by decide) (by decide) ?_
    rw [jSf_s]
    refine j_iload_n (pc := 26) dX12_reads_26 rfl ?_
    refine j_icmp_gt (pc := 27) 34 dX12_reads_27 (by decide) (by omega) (by omega) (fun h_27 => ?_) (fun h_27 => ?_)
    · refine j_iconst (pc := 34) dX12_reads_34 ?_
      refine j_retz dX12_reads_35 (by omega) (?_) rfl
      refine ⟨⟨fun z z1 z2 => by rw [jSf_n z2, jSf_n z1], fun j a b c d => by rw [jSf_n (by decide), jSf_s]; exact nf j a b c d⟩, fun k hk => by rw [jSf_s, jU_n hk], ?_⟩
      unfold rdOk rdEr pNum
      rw [jSf_n (by decide), jSf_s, jSf_s, jU_s]
      first
        | (refine Or.inl ⟨rfl, ?_⟩
           have e2 := hr.mp (by omega)
           rw [if_pos ⟨e2, by rw [← n8 e2]; omega⟩]
           exact ⟨_, _, rfl, n6 (by omega), n8 e2, n9⟩)
        | (refine Or.inr ⟨rfl, ?_⟩
           rw [if_neg (fun h => by have e2 := hr.mpr h.1; have e3 := n8 h.1; have e4 := h.2; omega)]
           exact ⟨_, rfl, n9⟩)
    · refine j_iconst (pc := 30) dX12_reads_30 ?_
      refine j_goto (pc := 31) 35 dX12_reads_31 (by decide) ?_
      refine j_retz dX12_reads_35 (by omega) (?_) rfl
      refine ⟨⟨fun z z1 z2 => by rw [jSf_n z2, jSf_n z1], fun j a b c d => by rw [jSf_n (by decide), jSf_s]; exact nf j a b c d⟩, fun k hk => by rw [jSf_s, jU_n hk], ?_⟩
      unfold rdOk rdEr pNum
      rw [jSf_n (by decide), jSf_s, jSf_s, jU_s]
      first
        | (refine Or.inl ⟨rfl, ?_⟩
           have e2 := hr.mp (by omega)
           rw [if_pos ⟨e2, by rw [← n8 e2]; omega⟩]
           exact ⟨_, _, rfl, n6 (by omega), n8 e2, n9⟩)
        | (refine Or.inr ⟨rfl, ?_⟩
           rw [if_neg (fun h => by have e2 := hr.mpr h.1; have e3 := n8 h.1; have e4 := h.2; omega)]
           exact ⟨_, rfl, n9⟩)
theorem c_ends2 (X : jX) (I : jMI) (b : Nat → Int) (p n : Nat) (h : rdA b n p I) : C_X12_ends X [jR 105] I (fun r I' => rdP I I' ∧ ((r = 1 ∧ enOk b n p I') ∨ (r = 0 ∧ enEr b n p I'))) := by
  obtain ⟨h1, h2, h3, h4, h5, h6⟩ := h
  refine CG.of (by decide) [some (jR 105)] rfl (Nat.le_of_ble_eq_true rfl) ?_
  have hr : rc (tSo b n (tS b n p)) = 4 ↔ tSo b n (tS b n p) = 3 := by unfold rc tSo; repeat' split
                                                                       all_goals omega
  have hr2 : 0 ≤ rc (tSo b n (tS b n p)) ∧ rc (tSo b n (tS b n p)) ≤ 10 := by unfold rc tSo; repeat' split
                                                                              all_goals omega
  refine j_aload_n (pc := 0) dX12_ends_0 rfl ?_
  refine j_goV (pc := 1) (j_runV k_X12_160 m_X12_nextToken (c_nextToken X I p n h1 h2 h3 h4 (by rw [h5]; exact h6)) dX12_ends_1 rfl (by decide) rfl (by decide) (by decide) rfl rfl (Nat.le_of_ble_eq_true rfl)) (fun I1 e1 => ?_)
  obtain ⟨g, rfl, e1⟩ := e1
  rw [h5] at e1
  obtain ⟨n9, n7, n6, n8, n8r, nf⟩ := e1
  refine j_aload_n (pc := 4) dX12_ends_4 rfl ?_
  refine j_getI_a (pc := 5) f_X12_145 dX12_ends_5 rfl rfl (by decide) ?_
  rw [n7]
  refine j_iconst (pc := 8) dX12_ends_8 ?_
  refine j_icmp_ne (pc := 9) 16 dX12_ends_9 (by decide) (by omega) (by omega) (fun h_9 => ?_) (fun h_9 => ?_)
  · refine j_iconst (pc := 16) dX12_ends_16 ?_
    refine j_retz dX12_ends_17 (by omega) (?_) rfl
    refine ⟨⟨fun z z1 z2 => by rw [jSf_n z1], fun j a b c d => by rw [jSf_s]; exact nf j a b c d⟩, ?_⟩
    unfold enOk enEr pStop
    rw [jSf_s]
    first
      | (refine Or.inl ⟨rfl, _, fun f => if_pos (hr.mp (by omega)), n6 (by have := hr.mp (by omega); omega)⟩)
      | (refine Or.inr ⟨rfl, _, fun f => if_neg (fun h => by have := hr.mpr h; omega), n9⟩)
  · refine j_iconst (pc := 12) dX12_ends_12 ?_
    refine j_goto (pc := 13) 17 dX12_ends_13 (by decide) ?_
    refine j_retz dX12_ends_17 (by omega) (?_) rfl
    refine ⟨⟨fun z z1 z2 => by rw [jSf_n z1], fun j a b c d => by rw [jSf_s]; exact nf j a b c d⟩, ?_⟩
    unfold enOk enEr pStop
    rw [jSf_s]
    first
      | (refine Or.inl ⟨rfl, _, fun f => if_pos (hr.mp (by omega)), n6 (by have := hr.mp (by omega); omega)⟩)
      | (refine Or.inr ⟨rfl, _, fun f => if_neg (fun h => by have := hr.mpr h; omega), n9⟩)
/-- a token has been read -/
def rdT (b : Nat → Int) (n s : Nat) (I : jMI) : Prop := I 105 9 = (s : Nat) ∧ I 105 7 = rc (tSo b n s) ∧ (tSo b n s = 1 → I 105 6 = (tE b n s : Nat)) ∧ I 105 5 = (n : Nat) ∧ n ≤ 150 ∧ s ≤ n ∧ I 108 = b ∧ ∀ i, i < n → 0 ≤ b i ∧ b i ≤ 127
theorem rdA.mv {b : Nat → Int} {n p p' : Nat} {I I' : jMI} (h : rdA b n p I) (hr : rdP I I') (h6 : I' 105 6 = (p' : Nat)) (hp : p' ≤ n) : rdA b n p' I' :=
  ⟨h6, by rw [hr.2 5 (by omega) (by omega) (by omega) (by omega)]; exact h.2.1, h.2.2.1, hp, by rw [hr.1 108 (by omega) (by omega)]; exact h.2.2.2.2.1, h.2.2.2.2.2⟩
theorem rdT.wd {b : Nat → Int} {n s : Nat} {I : jMI} (h : rdT b n s I) (h1 : tSo b n s = 1) : rdA b n (tE b n s) I :=
  ⟨h.2.2.1 h1, h.2.2.2.1, h.2.2.2.2.1, (tE_rng h.2.2.2.2.2.1).2, h.2.2.2.2.2.2.1, h.2.2.2.2.2.2.2⟩
theorem c_isWd (X : jX) (I : jMI) (b : Nat → Int) (n s : Nat) (C : Int) (w : List Int) (h : rdT b n s I) (hC : 0 ≤ C ∧ C ≤ 20000000000) (hw : wdC b n s C ↔ isWd b n s w) : C_X12_isWord X [jR 105, jL C] I (fun r I' => ((r = 1 ∧ isWd b n s w) ∨ (r = 0 ∧ ¬ isWd b n s w)) ∧ I' = I) := by
  have hc := c_misWord X I b n s C h.2.2.2.2.2.2.1 h.1 h.2.1 h.2.2.1 h.2.2.2.2.2.1 h.2.2.2.2.1 hC
  rw [hw] at hc
  exact hc
def frT (I I' : jMI) : Prop := (∀ z, z ≠ 105 → z ≠ 109 → I' z = I z) ∧ ∀ j, j ≠ 6 → j ≠ 7 → j ≠ 8 → j ≠ 9 → j ≠ 11 → j ≠ 12 → j ≠ 13 → I' 105 j = I 105 j
def frU (I I' : jMI) : Prop := (∀ z, z ≠ 105 → z ≠ 109 → z ≠ 106 → I' z = I z) ∧ ∀ j, j ≠ 6 → j ≠ 7 → j ≠ 8 → j ≠ 9 → j ≠ 11 → j ≠ 12 → j ≠ 13 → I' 105 j = I 105 j
theorem rdP.ft {I I' : jMI} (h : rdP I I') : frT I I' := ⟨h.1, fun j a b c d _ _ _ => h.2 j a b c d⟩
theorem frT.fu {I I' : jMI} (h : frT I I') : frU I I' := ⟨fun z a b _ => h.1 z a b, h.2⟩
theorem frT.tr {I I1 I2 : jMI} (h : frT I I1) (h' : frT I1 I2) : frT I I2 := ⟨fun z z1 z2 => (h'.1 z z1 z2).trans (h.1 z z1 z2), fun j a b c d e f g => (h'.2 j a b c d e f g).trans (h.2 j a b c d e f g)⟩
theorem frU.tr {I I1 I2 : jMI} (h : frU I I1) (h' : frU I1 I2) : frU I I2 := ⟨fun z z1 z2 z3 => (h'.1 z z1 z2 z3).trans (h.1 z z1 z2 z3), fun j a b c d e f g => (h'.2 j a b c d e f g).trans (h.2 j a b c d e f g)⟩
theorem frT.rf {I : jMI} : frT I I := ⟨fun _ _ _ => rfl, fun _ _ _ _ _ _ _ _ => rfl⟩
/-- how an item's reading ends -/
def itQ (b : Nat → Int) (n s : Nat) (ap : Int) (f : Nat → Int) (I : jMI) (r : Int) (I' : jMI) : Prop :=
  (r = 1 ∧ ∃ p' f', pItem b n s f = .ok (p', f') ∧ rdA b n p' I' ∧ I' 105 12 = f' 5 ∧ I' 105 13 = f' 21 ∧ (ap = 1 → I' 106 = f') ∧ (ap = 0 → I' 106 = I 106) ∧ frU I I') ∨ (r = 0 ∧ ∃ s', pItem b n s f = .error s' ∧ I' 105 9 = (s' : Nat) ∧ (ap = 0 → frT I I'))
theorem pItem_st {b : Nat → Int} {n s : Nat} {f : Nat → Int} (h : isWd b n s wStair) : pItem b n s f = pStair b n (tE b n s) f := by unfold pItem; rw [if_pos h]
theorem pItem_sl {b : Nat → Int} {n s : Nat} {f : Nat → Int} (h0 : ¬ isWd b n s wStair) (h : isWd b n s wSleep) : pItem b n s f = pSleep b n s (tE b n s) f := by unfold pItem; rw [if_neg h0, if_pos h]
theorem pItem_th {b : Nat → Int} {n s : Nat} {f : Nat → Int} (h0 : ¬ isWd b n s wStair) (h1 : ¬ isWd b n s wSleep) (h : isWd b n s wThing) : pItem b n s f = pThing b n s (tE b n s) f := by unfold pItem; rw [if_neg h0, if_neg h1, if_pos h]
theorem pItem_no {b : Nat → Int} {n s : Nat} {f : Nat → Int} (h0 : ¬ isWd b n s wStair) (h1 : ¬ isWd b n s wSleep) (h : ¬ isWd b n s wThing) : pItem b n s f = .error s := by unfold pItem; rw [if_neg h0, if_neg h1, if_neg h]
theorem pStair_1 {b : Nat → Int} {n p s : Nat} {f : Nat → Int} (h : pNum b n p 7 = .error s) : pStair b n p f = .error s := by unfold pStair; rw [h]
theorem pStair_2 {b : Nat → Int} {n p p1 s : Nat} {f : Nat → Int} {a : Int} (h : pNum b n p 7 = .ok (a, p1)) (h2 : pNum b n p1 7 = .error s) : pStair b n p f = .error s := by unfold pStair; rw [h]; dsimp only; rw [h2]
theorem pStair_s {b : Nat → Int} {n p p1 p2 : Nat} {f : Nat → Int} {a c : Int} (h : pNum b n p 7 = .ok (a, p1)) (h2 : pNum b n p1 7 = .ok (c, p2)) (e : a = c) : pStair b n p f = .error (tS b n p1) := by unfold pStair; rw [h]; dsimp only; rw [h2]; dsimp only; rw [if_pos e]
theorem pStair_3 {b : Nat → Int} {n p p1 p2 s : Nat} {f : Nat → Int} {a c : Int} (h : pNum b n p 7 = .ok (a, p1)) (h2 : pNum b n p1 7 = .ok (c, p2)) (e : a ≠ c) (h3 : pNum b n p2 9 = .error s) : pStair b n p f = .error s := by unfold pStair; rw [h]; dsimp only; rw [h2]; dsimp only; rw [if_neg e, h3]
theorem pStair_4 {b : Nat → Int} {n p p1 p2 p3 : Nat} {f : Nat → Int} {a c v : Int} (h : pNum b n p 7 = .ok (a, p1)) (h2 : pNum b n p1 7 = .ok (c, p2)) (e : a ≠ c) (h3 : pNum b n p2 9 = .ok (v, p3)) : pStair b n p f = pStop b n p3 (jU f (71 + pairN a.toNat c.toNat) v) := by unfold pStair; rw [h]; dsimp only; rw [h2]; dsimp only; rw [if_neg e, h3]
theorem pSleep_0 {b : Nat → Int} {n s0 p : Nat} {f : Nat → Int} (h0 : 5 ≤ f 5) : pSleep b n s0 p f = .error s0 := by unfold pSleep; rw [if_pos h0]
theorem pSleep_1 {b : Nat → Int} {n s0 p s : Nat} {f : Nat → Int} (h0 : ¬ 5 ≤ f 5) (h : pNum b n p 5 = .error s) : pSleep b n s0 p f = .error s := by unfold pSleep; rw [if_neg h0, h]
theorem pSleep_2 {b : Nat → Int} {n s0 p p1 s : Nat} {f : Nat → Int} {a : Int} (h0 : ¬ 5 ≤ f 5) (h : pNum b n p 5 = .ok (a, p1)) (h2 : pNum b n p1 7 = .error s) : pSleep b n s0 p f = .error s := by unfold pSleep; rw [if_neg h0, h]; dsimp only; rw [h2]
theorem pSleep_3 {b : Nat → Int} {n s0 p p1 p2 s : Nat} {f : Nat → Int} {a c : Int} (h0 : ¬ 5 ≤ f 5) (h : pNum b n p 5 = .ok (a, p1)) (h2 : pNum b n p1 7 = .ok (c, p2)) (h3 : pNum b n p2 9 = .error s) : pSleep b n s0 p f = .error s := by unfold pSleep; rw [if_neg h0, h]; dsimp only; rw [h2]; dsimp only; rw [h3]
theorem pSleep_4 {b : Nat → Int} {n s0 p p1 p2 p3 : Nat} {f : Nat → Int} {a c v : Int} (h0 : ¬ 5 ≤ f 5) (h : pNum b n p 5 = .ok (a, p1)) (h2 : pNum b n p1 7 = .ok (c, p2)) (h3 : pNum b n p2 9 = .ok (v, p3)) : pSleep b n s0 p f = pStop b n p3 (mAddSl f (f 5).toNat a c v) := by unfold pSleep; rw [if_neg h0, h]; dsimp only; rw [h2]; dsimp only; rw [h3]
theorem pThing_0 {b : Nat → Int} {n s0 p : Nat} {f : Nat → Int} (h0 : 5 ≤ f 21) : pThing b n s0 p f = .error s0 := by unfold pThing; rw [if_pos h0]
theorem pThing_1 {b : Nat → Int} {n s0 p s : Nat} {f : Nat → Int} (h0 : ¬ 5 ≤ f 21) (h : pNum b n p 7 = .error s) : pThing b n s0 p f = .error s := by unfold pThing; rw [if_neg h0, h]
theorem pThing_2 {b : Nat → Int} {n s0 p p1 : Nat} {f : Nat → Int} {a : Int} (h0 : ¬ 5 ≤ f 21) (h : pNum b n p 7 = .ok (a, p1)) : pThing b n s0 p f = pOwn b n (f 21).toNat 4 p1 (mAddTh f (f 21).toNat a) := by unfold pThing; rw [if_neg h0, h]
/-- it may go on: the item's own number of sort -/
theorem or1 {r : Int} {P Q : Prop} (h : (r = 1 ∧ P) ∨ (r = 0 ∧ Q)) (hr : r ≠ 0) : P := by
  rcases h with ⟨_, h⟩ | ⟨h, _⟩
  · exact h
  · exact absurd h hr
theorem or0 {r : Int} {P Q : Prop} (h : (r = 1 ∧ P) ∨ (r = 0 ∧ Q)) (hr : r = 0) : Q := by
  rcases h with ⟨h, _⟩ | ⟨_, h⟩
  · omega
  · exact h
set_option maxHeartbeats 4000000 in
theorem c_itStair (X : jX) (I : jMI) (b : Nat → Int) (n s : Nat) (it ap : Int) (f : Nat → Int) (h : rdT b n s I) (hw : isWd b n s wStair) (hok : okSt f) (hap : ap = 0 ∨ ap = 1) (h12 : I 105 12 = f 5) (h13 : I 105 13 = f 21) (h106 : ap = 1 → I 106 = f) : S_X12_readItem X 63 [some (jR 105), some (jI it), some (jI ap), none, none, none] [] I (itQ b n s ap f I) := by
  have hA := h.wd hw.1
  have hfl : ∀ (J : jMI) (s' : Nat), pItem b n s f = .error s' → J 105 9 = (s' : Nat) → frT I J → S_X12_readItem X 113 [some (jR 105), some (jI it), some (jI ap), none, none, none] [jI 0] J (itQ b n s ap f I) := by
    intro J s' he h9 hfr
    refine j_istore_n3 (pc := 113) dX12_readItem_113 (by decide) rfl ?_
    refine j_iload_n (pc := 114) dX12_readItem_114 rfl ?_
    refine j_if_eq (pc := 115) 151 dX12_readItem_115 (by decide) (by omega) (fun h_115 => ?_) (fun h_115 => ?_)
    · refine j_iload_n (pc := 151) dX12_readItem_151 rfl ?_
      refine j_if_eq (pc := 152) 166 dX12_readItem_152 (by decide) (by omega) (fun h_152 => ?_) (fun h_152 => ?_)
      · refine j_iconst (pc := 166) dX12_readItem_166 ?_
        exact j_retz dX12_readItem_167 (by omega) (Or.inr ⟨rfl, s', he, h9, fun _ => hfr⟩) rfl
      · exact absurd rfl h_152
    · exact absurd rfl h_115
  have hsu : ∀ (J : jMI) (a c v : Int) (p1 p2 p3 : Nat), pNum b n (tE b n s) 7 = .ok (a, p1) → pNum b n p1 7 = .ok (c, p2) → a ≠ c → pNum b n p2 9 = .ok (v, p3) → (0 ≤ a ∧ a ≤ 7) → (0 ≤ c ∧ c ≤ 7) → (0 ≤ v ∧ v ≤ 9) → rdA b n p3 J → J 109 0 = a → J 109 1 = c → J 109 2 = v → rdP I J → S_X12_readItem X 113 [some (jR 105), some (jI it), some (jI ap), none, none, none] [jI 1] J (itQ b n s ap f I) := by
    intro J a c v p1 p2 p3 e1 e2 hne e3 ha hc hv hJ j0 j1 j2 hrd
    obtain ⟨a, rfl⟩ := Int.eq_ofNat_of_zero_le ha.1
    obtain ⟨c, rfl⟩ := Int.eq_ofNat_of_zero_le hc.1
    have hpn := pairN_lt (a := a) (b := c) (by omega) (by omega) (by omega)
    have hpi : pItem b n s f = pStop b n p3 (jU f (71 + pairN a c) v) := by
      rw [pItem_st hw, pStair_4 e1 e2 hne e3, Int.toNat_natCast, Int.toNat_natCast]
    have k151 : ∀ (M : jMI), rdA b n p3 M → frU I M → M 105 12 = f 5 → M 105 13 = f 21 → (ap = 1 → M 106 = jU f (71 + pairN a c) v) → (ap = 0 → M 106 = I 106 ∧ rdP I M) → S_X12_readItem X 151 [some (jR 105), some (jI it), some (jI ap), some (jI 1), none, none] [] M (itQ b n s ap f I) := by
      intro M hM hfu m12 m13 m1 m0
      refine j_iload_n (pc := 151) dX12_readItem_151 rfl ?_
      refine j_if_eq (pc := 152) 166 dX12_readItem_152 (by decide) (by omega) (fun h_152 => ?_) (fun h_152 => ?_)
      · exact absurd h_152 (by decide)
      · refine j_aload_n (pc := 155) dX12_readItem_155 rfl ?_
        refine j_goI (pc := 156) (j_runV k_X12_174 m_X12_ends (c_ends2 X M b p3 n hM) dX12_readItem_156 rfl (by decide) rfl (by decide) (by decide) rfl rfl (Nat.le_of_ble_eq_true rfl)) (fun r1 I1 h1 => ?_)
        obtain ⟨f1, o1⟩ := h1
        refine j_if_eq (pc := 159) 166 dX12_readItem_159 (by decide) (by omega) (fun h_159 => ?_) (fun h_159 => ?_)
        · refine j_iconst (pc := 166) dX12_readItem_166 ?_
          refine j_retz dX12_readItem_167 (by omega) (?_) rfl
          first
            | (obtain ⟨p', e5, e6⟩ := or1 o1 (by omega)
               obtain ⟨-, e7, e8⟩ := pStop_ok (f := f) hM.2.2.2.1 (e5 f)
               refine Or.inl ⟨rfl, p', _, by rw [hpi]; exact e5 _, hM.mv f1 e6 e8, ?_, ?_, fun h => ?_, fun h => ?_, hfu.tr f1.ft.fu⟩
               · rw [f1.2 12 (by omega) (by omega) (by omega) (by omega), jU_n (by omega)]; exact m12
               · rw [f1.2 13 (by omega) (by omega) (by omega) (by omega), jU_n (by omega)]; exact m13
               · rw [f1.1 106 (by omega) (by omega)]; exact m1 h
               · rw [f1.1 106 (by omega) (by omega)]; exact (m0 h).1)
            | (obtain ⟨s', e5, e6⟩ := or0 o1 (by omega)
               exact Or.inr ⟨rfl, s', by rw [hpi]; exact e5 _, e6, fun h => ((m0 h).2.tr f1).ft⟩)
        · refine j_iconst (pc := 162) dX12_readItem_162 ?_
          refine j_goto (pc := 163) 167 dX12_readItem_163 (by decide) ?_
          refine j_retz dX12_readItem_167 (by omega) (?_) rfl
          first
            | (obtain ⟨p', e5, e6⟩ := or1 o1 (by omega)
               obtain ⟨-, e7, e8⟩ := pStop_ok (f := f) hM.2.2.2.1 (e5 f)
               refine Or.inl ⟨rfl, p', _, by rw [hpi]; exact e5 _, hM.mv f1 e6 e8, ?_, ?_, fun h => ?_, fun h => ?_, hfu.tr f1.ft.fu⟩
               · rw [f1.2 12 (by omega) (by omega) (by omega) (by omega), jU_n (by omega)]; exact m12
               · rw [f1.2 13 (by omega) (by omega) (by omega) (by omega), jU_n (by omega)]; exact m13
               · rw [f1.1 106 (by omega) (by omega)]; exact m1 h
               · rw [f1.1 106 (by omega) (by omega)]; exact (m0 h).1)
            | (obtain ⟨s', e5, e6⟩ := or0 o1 (by omega)
               exact Or.inr ⟨rfl, s', by rw [hpi]; exact e5 _, e6, fun h => ((m0 h).2.tr f1).ft⟩)
    have j12 : J 105 12 = f 5 := by rw [hrd.2 12 (by omega) (by omega) (by omega) (by omega)]; exact h12
    have j13 : J 105 13 = f 21 := by rw [hrd.2 13 (by omega) (by omega) (by omega) (by omega)]; exact h13
    refine j_istore_n3 (pc := 113) dX12_readItem_113 (by decide) rfl ?_
    refine j_iload_n (pc := 114) dX12_readItem_114 rfl ?_
    refine j_if_eq (pc := 115) 151 dX12_readItem_115 (by decide) (by omega) (fun h_115 => ?_) (fun h_115 => ?_)
    · exact absurd h_115 (by decide)
    · refine j_iload_n (pc := 118) dX12_readItem_118 rfl ?_
      refine j_if_eq (pc := 119) 151 dX12_readItem_119 (by decide) (by omega) (fun h_119 => ?_) (fun h_119 => ?_)
      · first
          | (have e1 : ap = 1 := by omega
             refine k151 _ ⟨?_, ?_, hJ.2.2.1, hJ.2.2.2.1, ?_, hJ.2.2.2.2.2⟩ ?_ ?_ ?_ (fun _ => ?_) (fun h => by omega)
             · rw [jSf_n (by decide)]; exact hJ.1
             · rw [jSf_n (by decide)]; exact hJ.2.1
             · rw [jSf_n (by decide)]; exact hJ.2.2.2.2.1
             · exact ⟨fun z z1 z2 z3 => by rw [jSf_n z3]; exact hrd.1 z z1 z2, fun j a b c d e f g => by rw [jSf_n (by decide)]; exact hrd.2 j a b c d⟩
             · rw [jSf_n (by decide)]; exact j12
             · rw [jSf_n (by decide)]; exact j13
             · rw [jSf_s, hrd.1 106 (by omega) (by omega), h106 e1])
          | (exact k151 J hJ hrd.ft.fu j12 j13 (fun h => by omega) (fun _ => ⟨hrd.1 106 (by omega) (by omega), hrd⟩))
      · refine j_aload_n (pc := 122) dX12_readItem_122 rfl ?_
        refine j_getR (pc := 123) f_X12_7 dX12_readItem_123 rfl rfl (by decide) rfl ?_
        refine j_bipush (pc := 126) dX12_readItem_126 (by decide) ?_
        refine j_aload_n (pc := 128) dX12_readItem_128 rfl ?_
        refine j_getR (pc := 129) f_X12_23 dX12_readItem_129 rfl rfl (by decide) rfl ?_
        refine j_iconst (pc := 132) dX12_readItem_132 ?_
        refine j_iald_b (pc := 133) (0) dX12_readItem_133 rfl (by decide) (by decide) (by omega) (by omega) ?_
        rw [j0]
        refine j_aload_n (pc := 134) dX12_readItem_134 rfl ?_
        refine j_getR (pc := 135) f_X12_23 dX12_readItem_135 rfl rfl (by decide) rfl ?_
        refine j_iconst (pc := 138) dX12_readItem_138 ?_
        refine j_iald_b (pc := 139) (1) dX12_readItem_139 rfl (by decide) (by decide) (by omega) (by omega) ?_
        rw [j1]
        refine j_goI (pc := 140) (j_runS k_X12_85 m_X12_pairOf (c_pairOf X J a c (by omega) (by omega)) dX12_readItem_140 (by decide) rfl rfl (Nat.le_of_ble_eq_true rfl)) (fun r1 I1 h1 => ?_)
        obtain ⟨rfl, rfl⟩ := h1
        rw [pairI_n (by omega) (by omega) (by omega)]
        refine j_iadd (pc := 143) dX12_readItem_143 ?_
        refine j_aload_n (pc := 144) dX12_readItem_144 rfl ?_
        refine j_getR (pc := 145) f_X12_23 dX12_readItem_145 rfl rfl (by decide) rfl ?_
        refine j_iconst (pc := 148) dX12_readItem_148 ?_
        refine j_iald_b (pc := 149) (2) dX12_readItem_149 rfl (by decide) (by decide) (by omega) (by omega) ?_
        rw [j2]
        refine j_iast_b (pc := 150) (71 + pairN a c) dX12_readItem_150 rfl (by decide) (by decide) (by omega) (by omega) ?_
        first
          | (have e1 : ap = 1 := by omega
             refine k151 _ ⟨?_, ?_, hJ.2.2.1, hJ.2.2.2.1, ?_, hJ.2.2.2.2.2⟩ ?_ ?_ ?_ (fun _ => ?_) (fun h => by omega)
             · rw [jSf_n (by decide)]; exact hJ.1
             · rw [jSf_n (by decide)]; exact hJ.2.1
             · rw [jSf_n (by decide)]; exact hJ.2.2.2.2.1
             · exact ⟨fun z z1 z2 z3 => by rw [jSf_n z3]; exact hrd.1 z z1 z2, fun j a b c d e f g => by rw [jSf_n (by decide)]; exact hrd.2 j a b c d⟩
             · rw [jSf_n (by decide)]; exact j12
             · rw [jSf_n (by decide)]; exact j13
             · rw [jSf_s, hrd.1 106 (by omega) (by omega), h106 e1])
          | (exact k151 J hJ hrd.ft.fu j12 j13 (fun h => by omega) (fun _ => ⟨hrd.1 106 (by omega) (by omega), hrd⟩))
  refine j_aload_n (pc := 63) dX12_readItem_63 rfl ?_
  refine j_iconst (pc := 64) dX12_readItem_64 ?_
  refine j_bipush (pc := 65) dX12_readItem_65 (by decide) ?_
  refine j_goI (pc := 67) (j_runV k_X12_178 m_X12_reads (c_reads2 X I b (tE b n s) n 0 7 hA (by omega) (by omega)) dX12_readItem_67 rfl (by decide) rfl (by decide) (by decide) rfl rfl (Nat.le_of_ble_eq_true rfl)) (fun r1 I1 h1 => ?_)
  obtain ⟨f1, k1, o1⟩ := h1
  refine j_if_eq (pc := 70) 112 dX12_readItem_70 (by decide) (by omega) (fun h_70 => ?_) (fun h_70 => ?_)
  · refine j_iconst (pc := 112) dX12_readItem_112 ?_
    first
      | exact hsu I3 a c v p1 p2 p3 e1 e2 (by omega) e3 (by omega) (by omega) (by omega) hA3 ((k3 0 (by omega)).trans v1') ((k3 1 (by omega)).trans v2) v3 ((f1.tr f2).tr f3)
      | (obtain ⟨s', e3, s3⟩ := or0 o3 (by omega)
         exact hfl I3 s' (by rw [pItem_st hw, pStair_3 e1 e2 (by omega) e3]) s3 ((f1.tr f2).tr f3).ft)
      | (exact hfl I2 (tS b n p1) (by rw [pItem_st hw, pStair_s e1 e2 (by omega)]) s2 (f1.tr f2).ft)
      | (obtain ⟨s', e2, s2⟩ := or0 o2 (by omega)
         exact hfl I2 s' (by rw [pItem_st hw, pStair_2 e1 e2]) s2 (f1.tr f2).ft)
      | (obtain ⟨s', e1, s1⟩ := or0 o1 (by omega)
         exact hfl I1 s' (by rw [pItem_st hw, pStair_1 e1]) s1 f1.ft)
  · obtain ⟨a, p1, e1, i1, v1, s1⟩ := or1 o1 (by omega)
    obtain ⟨a1, a2, a3, a4, -⟩ := pNum_ok hA.2.2.2.1 e1
    have hA1 := hA.mv f1 i1 a4
    refine j_aload_n (pc := 73) dX12_readItem_73 rfl ?_
    refine j_iconst (pc := 74) dX12_readItem_74 ?_
    refine j_bipush (pc := 75) dX12_readItem_75 (by decide) ?_
    refine j_goI (pc := 77) (j_runV k_X12_178 m_X12_reads (c_reads2 X I1 b p1 n 1 7 hA1 (by omega) (by omega)) dX12_readItem_77 rfl (by decide) rfl (by decide) (by decide) rfl rfl (Nat.le_of_ble_eq_true rfl)) (fun r2 I2 h2 => ?_)
    obtain ⟨f2, k2, o2⟩ := h2
    refine j_if_eq (pc := 80) 112 dX12_readItem_80 (by decide) (by omega) (fun h_80 => ?_) (fun h_80 => ?_)
    · refine j_iconst (pc := 112) dX12_readItem_112 ?_
      first
        | exact hsu I3 a c v p1 p2 p3 e1 e2 (by omega) e3 (by omega) (by omega) (by omega) hA3 ((k3 0 (by omega)).trans v1') ((k3 1 (by omega)).trans v2) v3 ((f1.tr f2).tr f3)
        | (obtain ⟨s', e3, s3⟩ := or0 o3 (by omega)
           exact hfl I3 s' (by rw [pItem_st hw, pStair_3 e1 e2 (by omega) e3]) s3 ((f1.tr f2).tr f3).ft)
        | (exact hfl I2 (tS b n p1) (by rw [pItem_st hw, pStair_s e1 e2 (by omega)]) s2 (f1.tr f2).ft)
        | (obtain ⟨s', e2, s2⟩ := or0 o2 (by omega)
           exact hfl I2 s' (by rw [pItem_st hw, pStair_2 e1 e2]) s2 (f1.tr f2).ft)
        | (obtain ⟨s', e1, s1⟩ := or0 o1 (by omega)
           exact hfl I1 s' (by rw [pItem_st hw, pStair_1 e1]) s1 f1.ft)
    · obtain ⟨c, p2, e2, i2, v2, s2⟩ := or1 o2 (by omega)
      obtain ⟨c1, c2, c3, c4, -⟩ := pNum_ok a4 e2
      have hA2 := hA1.mv f2 i2 c4
      have v1' : I2 109 0 = a := (k2 0 (by omega)).trans v1
      refine j_aload_n (pc := 83) dX12_readItem_83 rfl ?_
      refine j_getR (pc := 84) f_X12_23 dX12_readItem_84 rfl rfl (by decide) rfl ?_
      refine j_iconst (pc := 87) dX12_readItem_87 ?_
      refine j_iald_b (pc := 88) (0) dX12_readItem_88 rfl (by decide) (by decide) (by omega) (by omega) ?_
      rw [v1']
      refine j_aload_n (pc := 89) dX12_readItem_89 rfl ?_
      refine j_getR (pc := 90) f_X12_23 dX12_readItem_90 rfl rfl (by decide) rfl ?_
      refine j_iconst (pc := 93) dX12_readItem_93 ?_
      refine j_iald_b (pc := 94) (1) dX12_readItem_94 rfl (by decide) (by decide) (by omega) (by omega) ?_
      rw [v2]
      refine j_icmp_eq (pc := 95) 112 dX12_readItem_95 (by decide) (by omega) (by omega) (fun h_95 => ?_) (fun h_95 => ?_)
      · refine j_iconst (pc := 112) dX12_readItem_112 ?_
        first
          | exact hsu I3 a c v p1 p2 p3 e1 e2 (by omega) e3 (by omega) (by omega) (by omega) hA3 ((k3 0 (by omega)).trans v1') ((k3 1 (by omega)).trans v2) v3 ((f1.tr f2).tr f3)
          | (obtain ⟨s', e3, s3⟩ := or0 o3 (by omega)
             exact hfl I3 s' (by rw [pItem_st hw, pStair_3 e1 e2 (by omega) e3]) s3 ((f1.tr f2).tr f3).ft)
          | (exact hfl I2 (tS b n p1) (by rw [pItem_st hw, pStair_s e1 e2 (by omega)]) s2 (f1.tr f2).ft)
          | (obtain ⟨s', e2, s2⟩ := or0 o2 (by omega)
             exact hfl I2 s' (by rw [pItem_st hw, pStair_2 e1 e2]) s2 (f1.tr f2).ft)
          | (obtain ⟨s', e1, s1⟩ := or0 o1 (by omega)
             exact hfl I1 s' (by rw [pItem_st hw, pStair_1 e1]) s1 f1.ft)
      · refine j_aload_n (pc := 98) dX12_readItem_98 rfl ?_
        refine j_iconst (pc := 99) dX12_readItem_99 ?_
        refine j_bipush (pc := 100) dX12_readItem_100 (by decide) ?_
        refine j_goI (pc := 102) (j_runV k_X12_178 m_X12_reads (c_reads2 X I2 b p2 n 2 9 hA2 (by omega) (by omega)) dX12_readItem_102 rfl (by decide) rfl (by decide) (by decide) rfl rfl (Nat.le_of_ble_eq_true rfl)) (fun r3 I3 h3 => ?_)
        obtain ⟨f3, k3, o3⟩ := h3
        refine j_if_eq (pc := 105) 112 dX12_readItem_105 (by decide) (by omega) (fun h_105 => ?_) (fun h_105 => ?_)
        · refine j_iconst (pc := 112) dX12_readItem_112 ?_
          first
            | exact hsu I3 a c v p1 p2 p3 e1 e2 (by omega) e3 (by omega) (by omega) (by omega) hA3 ((k3 0 (by omega)).trans v1') ((k3 1 (by omega)).trans v2) v3 ((f1.tr f2).tr f3)
            | (obtain ⟨s', e3, s3⟩ := or0 o3 (by omega)
               exact hfl I3 s' (by rw [pItem_st hw, pStair_3 e1 e2 (by omega) e3]) s3 ((f1.tr f2).tr f3).ft)
            | (exact hfl I2 (tS b n p1) (by rw [pItem_st hw, pStair_s e1 e2 (by omega)]) s2 (f1.tr f2).ft)
            | (obtain ⟨s', e2, s2⟩ := or0 o2 (by omega)
               exact hfl I2 s' (by rw [pItem_st hw, pStair_2 e1 e2]) s2 (f1.tr f2).ft)
            | (obtain ⟨s', e1, s1⟩ := or0 o1 (by omega)
               exact hfl I1 s' (by rw [pItem_st hw, pStair_1 e1]) s1 f1.ft)
        · obtain ⟨v, p3, e3, i3, v3, s3⟩ := or1 o3 (by omega)
          obtain ⟨d1, d2, d3, d4, -⟩ := pNum_ok c4 e3
          have hA3 := hA2.mv f3 i3 d4
          refine j_iconst (pc := 108) dX12_readItem_108 ?_
          refine j_goto (pc := 109) 113 dX12_readItem_109 (by decide) ?_
          first
            | exact hsu I3 a c v p1 p2 p3 e1 e2 (by omega) e3 (by omega) (by omega) (by omega) hA3 ((k3 0 (by omega)).trans v1') ((k3 1 (by omega)).trans v2) v3 ((f1.tr f2).tr f3)
            | (obtain ⟨s', e3, s3⟩ := or0 o3 (by omega)
               exact hfl I3 s' (by rw [pItem_st hw, pStair_3 e1 e2 (by omega) e3]) s3 ((f1.tr f2).tr f3).ft)
            | (exact hfl I2 (tS b n p1) (by rw [pItem_st hw, pStair_s e1 e2 (by omega)]) s2 (f1.tr f2).ft)
            | (obtain ⟨s', e2, s2⟩ := or0 o2 (by omega)
               exact hfl I2 s' (by rw [pItem_st hw, pStair_2 e1 e2]) s2 (f1.tr f2).ft)
            | (obtain ⟨s', e1, s1⟩ := or0 o1 (by omega)
               exact hfl I1 s' (by rw [pItem_st hw, pStair_1 e1]) s1 f1.ft)
