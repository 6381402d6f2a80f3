/-! ===== one call of both: the text is read ===== -/
def kp (f f' : Nat → Int) : Prop := ∀ k, (k < 5 ∨ (52 ≤ k ∧ k < 71)) → f' k = f k
theorem kp.rf {f : Nat → Int} : kp f f := fun _ _ => rfl
theorem kp.tr {f g h : Nat → Int} (a : kp f g) (b : kp g h) : kp f h := fun k hk => (b k hk).trans (a k hk)
theorem pStair_kp {b : Nat → Int} {n p p' : Nat} {f f' : Nat → Int} (hp : p ≤ n) (h : pStair b n p f = .ok (p', f')) : kp f f' := by
  unfold pStair at h
  cases h1 : pNum b n p 7 with
  | error s => rw [h1] at h; exact absurd h (by simp)
  | ok x =>
    obtain ⟨a, p1⟩ := x
    obtain ⟨a1, a2, a3, a4, -⟩ := pNum_ok hp h1
    rw [h1] at h
    dsimp only at h
    cases h2 : pNum b n p1 7 with
    | error s => rw [h2] at h; exact absurd h (by simp)
    | ok x =>
      obtain ⟨c, p2⟩ := x
      obtain ⟨c1, c2, c3, c4, -⟩ := pNum_ok a4 h2
      rw [h2] at h
      dsimp only at h
      split at h
      · exact absurd h (by simp)
      · cases h3 : pNum b n p2 9 with
        | error s => rw [h3] at h; exact absurd h (by simp)
        | ok x =>
          obtain ⟨v, p3⟩ := x
          obtain ⟨v1, v2, v3, v4, -⟩ := pNum_ok c4 h3
          rw [h3] at h
          dsimp only at h
          obtain ⟨rfl, e2, e3⟩ := pStop_ok v4 h
          exact fun k hk => jU_n (by omega)
theorem pSleep_kp {b : Nat → Int} {n s0 p p' : Nat} {f f' : Nat → Int} (hp : p ≤ n) (hf : okSt f) (h : pSleep b n s0 p f = .ok (p', f')) : kp f f' := by
  unfold pSleep at h
  obtain ⟨m, hm, hm5⟩ := okSt_5 hf
  split at h
  · exact absurd h (by simp)
  · cases h1 : pNum b n p 5 with
    | error s => rw [h1] at h; exact absurd h (by simp)
    | ok x =>
      obtain ⟨a, p1⟩ := x
      obtain ⟨a1, a2, a3, a4, -⟩ := pNum_ok hp h1
      rw [h1] at h
      dsimp only at h
      cases h2 : pNum b n p1 7 with
      | error s => rw [h2] at h; exact absurd h (by simp)
      | ok x =>
        obtain ⟨c, p2⟩ := x
        obtain ⟨c1, c2, c3, c4, -⟩ := pNum_ok a4 h2
        rw [h2] at h
        dsimp only at h
        cases h3 : pNum b n p2 9 with
        | error s => rw [h3] at h; exact absurd h (by simp)
        | ok x =>
          obtain ⟨v, p3⟩ := x
          obtain ⟨v1, v2, v3, v4, -⟩ := pNum_ok c4 h3
          rw [h3] at h
          dsimp only at h
          obtain ⟨rfl, e2, e3⟩ := pStop_ok v4 h
          intro k hk
          unfold mAddSl
          rw [jU_n (by omega), jU_n (by omega), jU_n (by omega), jU_n (by omega)]
theorem pOwn_kp {b : Nat → Int} {n t : Nat} (ht : t < 5) : ∀ (k p : Nat) (f : Nat → Int) {p' : Nat} {f' : Nat → Int}, k ≤ 4 → p ≤ n → pOwn b n t k p f = .ok (p', f') → kp f f' := by
  intro k
  induction k with
  | zero =>
    intro p f p' f' hk hp h
    obtain ⟨rfl, e2, e3⟩ := pStop_ok hp h
    exact kp.rf
  | succ k ih =>
    intro p f p' f' hk hp h
    have e : pOwn b n t (k + 1) p f = if tSo b n (tS b n p) = 3 then .ok (tE b n (tS b n p), f) else if tSo b n (tS b n p) = 2 ∧ tV b n (tS b n p) ≤ 2 ∧ tV b n (tS b n p) ≠ lastF f t then pOwn b n t k (tE b n (tS b n p)) (mAddOw f t (3 - k) (tV b n (tS b n p))) else .error (tS b n p) := rfl
    rw [e] at h
    have h2 := tS_rng (b := b) hp
    have h3 := tE_rng (b := b) h2.2
    split at h
    · have e := Except.ok.inj h
      have e2 : f = f' := congrArg Prod.snd e
      subst e2
      exact kp.rf
    · split at h
      · refine kp.tr (fun z hz => ?_) (ih _ _ (by omega) h3.2 h)
        unfold mAddOw; rw [jU_n (by omega), jU_n (by omega)]
      · exact absurd h (by simp)
theorem pThing_kp {b : Nat → Int} {n s0 p p' : Nat} {f f' : Nat → Int} (hp : p ≤ n) (hf : okSt f) (h : pThing b n s0 p f = .ok (p', f')) : kp f f' := by
  unfold pThing at h
  obtain ⟨m, hm, hm5⟩ := okSt_21 hf
  split at h
  · exact absurd h (by simp)
  · cases h1 : pNum b n p 7 with
    | error s => rw [h1] at h; exact absurd h (by simp)
    | ok x =>
      obtain ⟨a, p1⟩ := x
      obtain ⟨a1, a2, a3, a4, -⟩ := pNum_ok hp h1
      rw [h1] at h
      dsimp only at h
      refine kp.tr (fun z hz => ?_) (pOwn_kp (by omega) _ _ _ (by omega) a4 h)
      unfold mAddTh; rw [jU_n (by omega), jU_n (by omega), jU_n (by omega)]
theorem pItem_kp {b : Nat → Int} {n s p' : Nat} {f f' : Nat → Int} (hs : s ≤ n) (hf : okSt f) (h : pItem b n s f = .ok (p', f')) : kp f f' := by
  have h3 := tE_rng (b := b) hs
  unfold pItem at h
  split at h
  · exact pStair_kp h3.2 h
  · split at h
    · exact pSleep_kp h3.2 hf h
    · split at h
      · exact pThing_kp h3.2 hf h
      · exact absurd h (by simp)
theorem pRest_kp {b : Nat → Int} {n : Nat} : ∀ (k it p : Nat) (f : Nat → Int) {c : Nat} {f' : Nat → Int}, p ≤ n → okSt f → pRest b n k it p f = .ok (c, f') → kp f f' := by
  intro k
  induction k with
  | zero => intro it p f c f' hp hf h; exact absurd h (by simp [pRest])
  | succ k ih =>
    intro it p f c f' hp hf h
    have e : pRest b n (k + 1) it p f = if tSo b n (tS b n p) = 0 then .ok (it, f) else match pItem b n (tS b n p) f with
      | .error s => .error s
      | .ok (p', f') => pRest b n k (it + 1) p' f' := rfl
    rw [e] at h
    split at h
    · have e := Except.ok.inj h
      have e2 : f = f' := congrArg Prod.snd e
      subst e2
      exact kp.rf
    · have h2 := tS_rng (b := b) hp
      cases h1 : pItem b n (tS b n p) f with
      | error s => rw [h1] at h; exact absurd h (by simp)
      | ok x =>
        obtain ⟨p1, f1⟩ := x
        obtain ⟨r1, r2, r3⟩ := pItem_ok h2.2 hf h1
        rw [h1] at h
        dsimp only at h
        exact (pItem_kp h2.2 hf h1).tr (ih _ _ _ r3 r1 h)
theorem pAll_kp {b : Nat → Int} {n c : Nat} {f f' : Nat → Int} (hf : okSt f) (h : pAll b n f = .ok (c, f')) : kp f f' := by
  unfold pAll at h
  split at h
  · cases h1 : pStop b n (tE b n (tS b n 0)) f with
    | error s => rw [h1] at h; exact absurd h (by simp)
    | ok x =>
      obtain ⟨p1, f1⟩ := x
      rw [h1] at h
      dsimp only at h
      have h2 := tS_rng (b := b) (Nat.zero_le n)
      have h3 := tE_rng (b := b) h2.2
      obtain ⟨-, r2, r3⟩ := pStop_ok h3.2 h1
      exact pRest_kp _ _ _ _ r3 hf h
  · exact absurd h (by simp)
set_option maxHeartbeats 1000000 in
theorem o_read (X : jX) (I : jMI) (hI : Inv I) : C_X11_read X [jR 0] I (fun v I1 => C_X12_read X [jR 105] I1 (fun v' I2 => v' = v ∧ Inv I2)) := by
  refine CG.of (by decide) [some (jR 0), none] rfl (Nat.le_of_ble_eq_true rfl) ?_
  obtain ⟨n, t1, t2, t3, t4, t5⟩ := hI.2.1
  have hT : rtA (I 108) n I := ⟨t2, t1, t4, t5⟩
  refine j_aload_n (pc := 0) dX11_read_0 rfl ?_
  refine j_getR (pc := 1) f_X11_27 dX11_read_1 rfl rfl (by decide) rfl ?_
  refine j_aload_n (pc := 4) dX11_read_4 rfl ?_
  refine j_getR (pc := 5) f_X11_34 dX11_read_5 rfl rfl (by decide) rfl ?_
  refine j_goI (pc := 8) (j_runV k_X11_131 m_X8_readInto (c_rdInto X I (I 108) n (st0 (I 106)) hT (isE_st0 _) (okSt_st0 _)) dX11_read_8 rfl (by decide) rfl (by decide) (by decide) rfl rfl (Nat.le_of_ble_eq_true rfl)) (fun r1 I1 h1 => ?_)
  obtain ⟨hfr, h1⟩ := h1
  have hrr : r1 ≤ -10 ∨ (1 ≤ r1 ∧ r1 ≤ 146) := by
    rcases h1 with ⟨c, f', e1, e2, -⟩ | ⟨s, e1, e2, -⟩
    · have := pAll_ok (okSt_st0 _) e1; omega
    · omega
  have z1 : ∀ z, z < 78 ∨ z = 79 ∨ 104 < z → I1 z = I z := fun z hz => hfr.1 z (by omega) (by omega) (by omega)
  have y78 : I1 78 1 = I 78 1 := hfr.2 1 (by omega) (by omega) (by omega)
  refine j_istore_n1 (pc := 11) dX11_read_11 (by decide) rfl ?_
  refine j_iload_n (pc := 12) dX11_read_12 rfl ?_
  refine j_if_le (pc := 13) 37 dX11_read_13 (by decide) (by omega) (fun h_13 => ?_) (fun h_13 => ?_)
  · refine j_iload_n (pc := 37) dX11_read_37 rfl ?_
    refine j_reti dX11_read_38 (?_) rfl
    first
      | (have hguard : r1 ≤ 0 := by omega
         have hI1 : Inv I1 := Inv_fr hI (fun z q1 q2 q3 q4 => hfr.1 z (by omega) (by omega) (by omega)) y78 (by rw [z1 105 (by omega)]) (by rw [z1 105 (by omega)]) (by rw [z1 105 (by omega)]) (by rw [z1 105 (by omega)])
         have x6 := z1 106 (by omega)
         have x8 := z1 108 (by omega)
         have x5 := z1 105 (by omega)
         rcases h1 with ⟨c, f', e1, e2, -⟩ | ⟨s, e1, e2, hs⟩
         · have := pAll_ok (okSt_st0 _) e1; omega
         · refine c_mread X _ _ (I 108) n (by rw [x5]; exact t3) t1 x8 t5 (fun s' I' q1 q2 q3 => ?_) (fun c f' I' q1 q2 q3 q4 => ?_)
           · rw [x6] at q1
             have e9 : s = s' := Except.error.inj (e1.symm.trans q1)
             subst e9
             refine ⟨e2.symm, Inv_fr hI1 (fun z w1 w2 w3 w4 => q3.1 z (by omega) (by omega)) (by rw [q3.1 78 (by omega) (by omega)]) (q3.2 1 (by omega) (by omega) (by omega) (by omega) (by omega) (by omega) (by omega)) (q3.2 2 (by omega) (by omega) (by omega) (by omega) (by omega) (by omega) (by omega)) (q3.2 5 (by omega) (by omega) (by omega) (by omega) (by omega) (by omega) (by omega)) (q3.2 16 (by omega) (by omega) (by omega) (by omega) (by omega) (by omega) (by omega))⟩
           · rw [x6] at q1
             exact absurd (e1.symm.trans q1) (by simp))
      | (rcases h1 with ⟨c, f', e1, e2, hH, hok⟩ | ⟨s, e1, e2, hs⟩
         · have zz : ∀ z, z = 0 ∨ (27 ≤ z ∧ z ≤ 77) ∨ z = 79 ∨ 104 < z → I3 z = I z := fun z hz => ((z3 z (by omega) (by omega)).trans (h2.2.2.2.2.2.2.1 z (by omega) (by omega))).trans (z1 z (by omega))
           have x6 := zz 106 (by omega)
           have x8 := zz 108 (by omega)
           have x5 := zz 105 (by omega)
           refine c_mread X _ _ (I 108) n (by rw [x5]; exact t3) t1 x8 t5 (fun s' I' q1 q2 q3 => ?_) (fun c' f2 I' q1 q2 q3 q4 => ?_)
           · rw [x6] at q1
             exact absurd (e1.symm.trans q1) (by simp)
           · rw [x6] at q1
             have e9 := Except.ok.inj (e1.symm.trans q1)
             have e10 : c = c' := congrArg Prod.fst e9
             have e11 : f' = f2 := congrArg Prod.snd e9
             subst e10
             subst e11
             have hkp := pAll_kp (okSt_st0 _) e1
             have yz : ∀ z, z ≠ 106 → z ≠ 105 → mAnew I3 z = I3 z := by
               intro z w1 w2
               unfold mAnew
               rw [jSf_n w2, jSf_n w1]
             have y5 : mAnew I3 105 = jU (I3 105) 16 0 := by unfold mAnew; rw [jSf_s]
             refine ⟨e2.symm, Inv_new hI (I1 := I3) zz ?_ (fun z w => (q4.1 z (by omega) (by omega) (by omega)).trans (yz z (by omega) (by omega))) q3 ?_ ?_ ?_ (by rw [q2]; exact hok) (fun k hk => by rw [q2, hkp k hk]; exact st0_k _ k hk) ?_ b9 b10 b11 b12 b18⟩
             · rw [z3 78 (by omega) (by omega), h2.2.2.2.2.2.2.1 78 (by omega) (by omega)]; exact y78
             · rw [q4.2 1 (by omega) (by omega) (by omega) (by omega) (by omega) (by omega) (by omega), y5, jU_n (by omega)]
             · rw [q4.2 2 (by omega) (by omega) (by omega) (by omega) (by omega) (by omega) (by omega), y5, jU_n (by omega)]
             · rw [q4.2 5 (by omega) (by omega) (by omega) (by omega) (by omega) (by omega) (by omega), y5, jU_n (by omega)]
             · rw [q2]
               exact hR_fr (hR_cp hH hok h2) (fun z w => z3 z (by omega) (by omega))
         · omega)
  · refine j_aload_n (pc := 16) dX11_read_16 rfl ?_
    refine j_getR (pc := 17) f_X11_10 dX11_read_17 rfl rfl (by decide) rfl ?_
    refine j_getR (pc := 20) f_X11_63 dX11_read_20 rfl rfl (by decide) rfl ?_
    refine j_aload_n (pc := 23) dX11_read_23 rfl ?_
    refine j_getR (pc := 24) f_X11_34 dX11_read_24 rfl rfl (by decide) rfl ?_
    refine j_goV (pc := 27) (j_runV k_X11_135 m_X2_copyFrom (c_hCp_80_2 X I1) dX11_read_27 rfl (by decide) rfl (by decide) (by decide) rfl rfl (Nat.le_of_ble_eq_true rfl)) (fun I2 h2 => ?_)
    refine j_aload_n (pc := 30) dX11_read_30 rfl ?_
    refine j_getR (pc := 31) f_X11_10 dX11_read_31 rfl rfl (by decide) rfl ?_
    refine j_goV (pc := 34) (j_runV k_X11_73 m_X4_begin (c_nBegin X I2) dX11_read_34 rfl (by decide) rfl (by decide) (by decide) rfl rfl (Nat.le_of_ble_eq_true rfl)) (fun I3 h3 => ?_)
    obtain ⟨z3, b9, b10, b11, b12, b18⟩ := h3
    refine j_iload_n (pc := 37) dX11_read_37 rfl ?_
    refine j_reti dX11_read_38 (?_) rfl
    first
      | (have hguard : r1 ≤ 0 := by omega
         have hI1 : Inv I1 := Inv_fr hI (fun z q1 q2 q3 q4 => hfr.1 z (by omega) (by omega) (by omega)) y78 (by rw [z1 105 (by omega)]) (by rw [z1 105 (by omega)]) (by rw [z1 105 (by omega)]) (by rw [z1 105 (by omega)])
         have x6 := z1 106 (by omega)
         have x8 := z1 108 (by omega)
         have x5 := z1 105 (by omega)
         rcases h1 with ⟨c, f', e1, e2, -⟩ | ⟨s, e1, e2, hs⟩
         · have := pAll_ok (okSt_st0 _) e1; omega
         · refine c_mread X _ _ (I 108) n (by rw [x5]; exact t3) t1 x8 t5 (fun s' I' q1 q2 q3 => ?_) (fun c f' I' q1 q2 q3 q4 => ?_)
           · rw [x6] at q1
             have e9 : s = s' := Except.error.inj (e1.symm.trans q1)
             subst e9
             refine ⟨e2.symm, Inv_fr hI1 (fun z w1 w2 w3 w4 => q3.1 z (by omega) (by omega)) (by rw [q3.1 78 (by omega) (by omega)]) (q3.2 1 (by omega) (by omega) (by omega) (by omega) (by omega) (by omega) (by omega)) (q3.2 2 (by omega) (by omega) (by omega) (by omega) (by omega) (by omega) (by omega)) (q3.2 5 (by omega) (by omega) (by omega) (by omega) (by omega) (by omega) (by omega)) (q3.2 16 (by omega) (by omega) (by omega) (by omega) (by omega) (by omega) (by omega))⟩
           · rw [x6] at q1
             exact absurd (e1.symm.trans q1) (by simp))
      | (rcases h1 with ⟨c, f', e1, e2, hH, hok⟩ | ⟨s, e1, e2, hs⟩
         · have zz : ∀ z, z = 0 ∨ (27 ≤ z ∧ z ≤ 77) ∨ z = 79 ∨ 104 < z → I3 z = I z := fun z hz => ((z3 z (by omega) (by omega)).trans (h2.2.2.2.2.2.2.1 z (by omega) (by omega))).trans (z1 z (by omega))
           have x6 := zz 106 (by omega)
           have x8 := zz 108 (by omega)
           have x5 := zz 105 (by omega)
           refine c_mread X _ _ (I 108) n (by rw [x5]; exact t3) t1 x8 t5 (fun s' I' q1 q2 q3 => ?_) (fun c' f2 I' q1 q2 q3 q4 => ?_)
           · rw [x6] at q1
             exact absurd (e1.symm.trans q1) (by simp)
           · rw [x6] at q1
             have e9 := Except.ok.inj (e1.symm.trans q1)
             have e10 : c = c' := congrArg Prod.fst e9
             have e11 : f' = f2 := congrArg Prod.snd e9
             subst e10
             subst e11
             have hkp := pAll_kp (okSt_st0 _) e1
             have yz : ∀ z, z ≠ 106 → z ≠ 105 → mAnew I3 z = I3 z := by
               intro z w1 w2
               unfold mAnew
               rw [jSf_n w2, jSf_n w1]
             have y5 : mAnew I3 105 = jU (I3 105) 16 0 := by unfold mAnew; rw [jSf_s]
             refine ⟨e2.symm, Inv_new hI (I1 := I3) zz ?_ (fun z w => (q4.1 z (by omega) (by omega) (by omega)).trans (yz z (by omega) (by omega))) q3 ?_ ?_ ?_ (by rw [q2]; exact hok) (fun k hk => by rw [q2, hkp k hk]; exact st0_k _ k hk) ?_ b9 b10 b11 b12 b18⟩
             · rw [z3 78 (by omega) (by omega), h2.2.2.2.2.2.2.1 78 (by omega) (by omega)]; exact y78
             · rw [q4.2 1 (by omega) (by omega) (by omega) (by omega) (by omega) (by omega) (by omega), y5, jU_n (by omega)]
             · rw [q4.2 2 (by omega) (by omega) (by omega) (by omega) (by omega) (by omega) (by omega), y5, jU_n (by omega)]
             · rw [q4.2 5 (by omega) (by omega) (by omega) (by omega) (by omega) (by omega) (by omega), y5, jU_n (by omega)]
             · rw [q2]
               exact hR_fr (hR_cp hH hok h2) (fun z w => z3 z (by omega) (by omega))
         · omega)
