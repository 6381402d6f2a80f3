/-! ===== the class: stairs, sleepers, things of a text ===== -/
def nuQ (b : Nat → Int) (n p : Nat) (most r : Int) (I' : jMI) : Prop := (0 ≤ r ∧ ∃ p', pNum b n p most = .ok (r, p') ∧ p' ≤ n ∧ p < p' ∧ I' 78 3 = (p' : Nat)) ∨ (r = -1 ∧ ∃ s, pNum b n p most = .error s ∧ s ≤ n ∧ I' 78 2 = (s : Nat))
theorem nuQ.ok {b : Nat → Int} {n p : Nat} {most r : Int} {I' : jMI} (h : nuQ b n p most r I') (hr : r ≠ -1) : ∃ p', pNum b n p most = .ok (r, p') ∧ p' ≤ n ∧ p < p' ∧ I' 78 3 = (p' : Nat) := by
  rcases h with h | h
  · exact h.2
  · exact absurd h.1 hr
theorem nuQ.er {b : Nat → Int} {n p : Nat} {most r : Int} {I' : jMI} (h : nuQ b n p most r I') (hr : r = -1) : ∃ s, pNum b n p most = .error s ∧ s ≤ n ∧ I' 78 2 = (s : Nat) := by
  rcases h with h | h
  · have := h.1; omega
  · exact h.2
theorem nu_of {I I' : jMI} {b : Nat → Int} {n p : Nat} {most r : Int} (hp : p ≤ n) (h : rtF I I' ∧ I' 78 2 = (tS b n p : Nat) ∧ I' 78 3 = (tE b n (tS b n p) : Nat) ∧ I' 78 4 = (tSo b n (tS b n p) : Nat) ∧ ((∃ v p', pNum b n p most = .ok (v, p') ∧ r = v) ∨ (r = -1 ∧ ∃ s, pNum b n p most = .error s))) (hm : 0 ≤ most) : rtF I I' ∧ (-1 ≤ r ∧ r ≤ most) ∧ (I' 78 4 = (tSo b n (tS b n p) : Nat) ∧ I' 78 2 = (tS b n p : Nat) ∧ I' 78 3 = (tE b n (tS b n p) : Nat)) ∧ nuQ b n p most r I' := by
  have hs := tS_rng (b := b) hp
  obtain ⟨h1, h2, h3', h4, h5⟩ := h
  rcases h5 with ⟨v, p', e, rfl⟩ | ⟨rfl, s, e⟩
  · obtain ⟨g1, g2, g3, g4, g5, g6, g7⟩ := pNum_ok hp e
    exact ⟨h1, ⟨by omega, g2⟩, ⟨h4, h2, h3'⟩, Or.inl ⟨g1, p', e, g4, g3, by rw [h3', g7]⟩⟩
  · exact ⟨h1, ⟨by omega, by omega⟩, ⟨h4, h2, h3'⟩, Or.inr ⟨rfl, s, e, by rw [pNum_er e]; exact hs.2, by rw [h2, pNum_er e]⟩⟩
/-- what reading leaves alone -/
def rdF (I I' : jMI) : Prop := (∀ z, z ≠ 78 → z ≠ 80 → (z < 88 ∨ 95 < z) → I' z = I z) ∧ ∀ j, j ≠ 2 → j ≠ 3 → j ≠ 4 → I' 78 j = I 78 j
theorem rdF.tr {I I1 I2 : jMI} (h : rdF I I1) (h' : rdF I1 I2) : rdF I I2 := ⟨fun z a b c => (h'.1 z a b c).trans (h.1 z a b c), fun j a b c => (h'.2 j a b c).trans (h.2 j a b c)⟩
theorem rtF.rd {I I' : jMI} (h : rtF I I') : rdF I I' := ⟨fun z a _ _ => h.1 z a, h.2⟩
theorem rdF.of {I I' : jMI} (h : ∀ z, z ≠ 80 → (z < 88 ∨ 95 < z) → I' z = I z) : rdF I I' := ⟨fun z _ a b => h z a b, fun j _ _ _ => by rw [h 78 (by omega) (by omega)]⟩
theorem rtA.rd {b : Nat → Int} {n : Nat} {I I' : jMI} (h : rtA b n I) (hf : rdF I I') : rtA b n I' :=
  ⟨by rw [hf.2 1 (by omega) (by omega) (by omega)]; exact h.1, h.2.1, fun i hi => by rw [hf.1 79 (by omega) (by omega) (by omega)]; exact h.2.2.1 i hi, h.2.2.2⟩
theorem hR_rt {f : Nat → Int} {I I' : jMI} (h : hR f I 80) (hf : rtF I I') : hR f I' 80 := hR_fr h (fun z hz => hf.1 z (by omega))
def rdQ (n : Nat) (I : jMI) (P : Except Nat (Nat × (Nat → Int))) (r : Int) (I' : jMI) : Prop := rdF I I' ∧ ((r = 1 ∧ ∃ p' f', P = .ok (p', f') ∧ hR f' I' 80 ∧ okSt f' ∧ I' 78 3 = (p' : Nat) ∧ p' ≤ n) ∨ (r = 0 ∧ ∃ s, P = .error s ∧ I' 78 2 = (s : Nat) ∧ s ≤ n))
theorem rdQ.er {n : Nat} {I I' : jMI} {P : Except Nat (Nat × (Nat → Int))} {s : Nat} (hf : rdF I I') (e : P = .error s) (h2 : I' 78 2 = (s : Nat)) (hs : s ≤ n) : rdQ n I P 0 I' := ⟨hf, Or.inr ⟨rfl, s, e, h2, hs⟩⟩
theorem st_of {I I' : jMI} {b : Nat → Int} {n p : Nat} {r : Int} {f : Nat → Int} (hp : p ≤ n) (hH : hR f I 80) (hok : okSt f) (h : rtF I I' ∧ I' 78 2 = (tS b n p : Nat) ∧ I' 78 3 = (tE b n (tS b n p) : Nat) ∧ I' 78 4 = (tSo b n (tS b n p) : Nat) ∧ ((r = 1 ∧ tSo b n (tS b n p) = 3) ∨ (r = 0 ∧ tSo b n (tS b n p) ≠ 3))) : (r = 0 ∨ r = 1) ∧ rdQ n I (pStop b n p f) r I' := by
  have hs := tS_rng (b := b) hp
  have hE := tE_rng (b := b) hs.2
  obtain ⟨h1, h2, h3', h4, h5⟩ := h
  rcases h5 with ⟨rfl, e⟩ | ⟨rfl, e⟩
  · exact ⟨Or.inr rfl, h1.rd, Or.inl ⟨rfl, _, f, by unfold pStop; rw [if_pos e], hR_rt hH h1, hok, h3', hE.2⟩⟩
  · exact ⟨Or.inl rfl, h1.rd, Or.inr ⟨rfl, _, by unfold pStop; rw [if_neg e], h2, hs.2⟩⟩
theorem rdQ.mv {n : Nat} {I I1 I' : jMI} {P P' : Except Nat (Nat × (Nat → Int))} {r : Int} (h : rdQ n I1 P' r I') (hf : rdF I I1) (e : P = P') : rdQ n I P r I' := by
  subst e
  exact ⟨hf.tr h.1, h.2⟩
set_option maxHeartbeats 1000000 in
theorem c_rdStair (X : jX) (I : jMI) (b : Nat → Int) (n p : Nat) (f : Nat → Int) (hT : rtA b n I) (h3 : I 78 3 = (p : Nat)) (hp : p ≤ n) (hH : hR f I 80) (hok : okSt f) : C_X8_readStair X [jR 78, jR 80] I (fun r I' => (r = 0 ∨ r = 1) ∧ rdQ n I (pStair b n p f) r I') := by
  refine CG.of (by decide) [some (jR 78), some (jR 80), none, none, none] rfl (Nat.le_of_ble_eq_true rfl) ?_
  have kE12 : ∀ (x : Int) (I' : jMI), rdQ n I (pStair b n p f) 0 I' → S_X8_readStair X 12 [some (jR 78), some (jR 80), some (jI x), none, none] [] I' (fun r I' => (r = 0 ∨ r = 1) ∧ rdQ n I (pStair b n p f) r I') := by
    intro x I' hq
    refine j_iconst (pc := 12) dX8_readStair_12 ?_
    refine j_goto (pc := 13) 22 dX8_readStair_13 (by decide) ?_
    refine j_istore_n3 (pc := 22) dX8_readStair_22 (by decide) rfl ?_
    refine j_iload_n (pc := 23) dX8_readStair_23 rfl ?_
    refine j_iconst (pc := 24) dX8_readStair_24 ?_
    refine j_icmp_eq (pc := 25) 33 dX8_readStair_25 (by decide) (by omega) (by omega) (fun h_25 => ?_) (fun h_25 => ?_)
    · refine j_iconst (pc := 33) dX8_readStair_33 ?_
      refine j_goto (pc := 34) 43 dX8_readStair_34 (by decide) ?_
      refine j_istore4 (pc := 43) dX8_readStair_43 (by decide) rfl ?_
      refine j_iload (pc := 45) dX8_readStair_45 rfl ?_
      refine j_iconst (pc := 47) dX8_readStair_47 ?_
      refine j_icmp_ne (pc := 48) 53 dX8_readStair_48 (by decide) (by omega) (by omega) (fun h_48 => ?_) (fun h_48 => ?_)
      · omega
      · refine j_iconst (pc := 51) dX8_readStair_51 ?_
        exact j_retz dX8_readStair_52 (by omega) (⟨Or.inl rfl, hq⟩) rfl
    · omega
  have kE33 : ∀ (x y : Int) (I' : jMI), rdQ n I (pStair b n p f) 0 I' → S_X8_readStair X 33 [some (jR 78), some (jR 80), some (jI x), some (jI y), none] [] I' (fun r I' => (r = 0 ∨ r = 1) ∧ rdQ n I (pStair b n p f) r I') := by
    intro x y I' hq
    refine j_iconst (pc := 33) dX8_readStair_33 ?_
    refine j_goto (pc := 34) 43 dX8_readStair_34 (by decide) ?_
    refine j_istore4 (pc := 43) dX8_readStair_43 (by decide) rfl ?_
    refine j_iload (pc := 45) dX8_readStair_45 rfl ?_
    refine j_iconst (pc := 47) dX8_readStair_47 ?_
    refine j_icmp_ne (pc := 48) 53 dX8_readStair_48 (by decide) (by omega) (by omega) (fun h_48 => ?_) (fun h_48 => ?_)
    · omega
    · refine j_iconst (pc := 51) dX8_readStair_51 ?_
      exact j_retz dX8_readStair_52 (by omega) (⟨Or.inl rfl, hq⟩) rfl
  have hdef : pStair b n p f = match pNum b n p 7 with
    | .error s => .error s
    | .ok (a, p1) => match pNum b n p1 7 with
      | .error s => .error s
      | .ok (c, p2) => if a = c then .error (tS b n p1) else match pNum b n p2 9 with
        | .error s => .error s
        | .ok (v, p3) => pStop b n p3 (jU f (71 + pairN a.toNat c.toNat) v) := rfl
  refine j_aload_n (pc := 0) dX8_readStair_0 rfl ?_
  refine j_bipush (pc := 1) dX8_readStair_1 (by decide) ?_
  refine j_goI (pc := 3) (j_runV k_X8_65 m_X8_numberNext (c_numNext X I b n p 7 hT h3 hp (by omega)) dX8_readStair_3 rfl (by decide) rfl (by decide) (by decide) rfl rfl (Nat.le_of_ble_eq_true rfl)) (fun r1 I1 h1 => ?_)
  obtain ⟨f1, b1, w1, z1⟩ := nu_of hp h1 (by omega)
  refine j_istore_n2 (pc := 6) dX8_readStair_6 (by decide) rfl ?_
  refine j_iload_n (pc := 7) dX8_readStair_7 rfl ?_
  refine j_iconst (pc := 8) dX8_readStair_8 ?_
  refine j_icmp_ne (pc := 9) 16 dX8_readStair_9 (by decide) (by omega) (by omega) (fun h_9 => ?_) (fun h_9 => ?_)
  · obtain ⟨p1, e1, hp1, hlt1, t1⟩ := z1.ok (by omega)
    have hT1 := hT.mv f1
    obtain ⟨a, rfl⟩ := Int.eq_ofNat_of_zero_le (show 0 ≤ r1 by omega)
    have hs1 := tS_rng (b := b) hp1
    refine j_aload_n (pc := 16) dX8_readStair_16 rfl ?_
    refine j_bipush (pc := 17) dX8_readStair_17 (by decide) ?_
    refine j_goI (pc := 19) (j_runV k_X8_65 m_X8_numberNext (c_numNext X I1 b n p1 7 hT1 t1 hp1 (by omega)) dX8_readStair_19 rfl (by decide) rfl (by decide) (by decide) rfl rfl (Nat.le_of_ble_eq_true rfl)) (fun r2 I2 h2 => ?_)
    obtain ⟨f2, b2, w2, z2⟩ := nu_of hp1 h2 (by omega)
    refine j_istore_n3 (pc := 22) dX8_readStair_22 (by decide) rfl ?_
    refine j_iload_n (pc := 23) dX8_readStair_23 rfl ?_
    refine j_iconst (pc := 24) dX8_readStair_24 ?_
    refine j_icmp_eq (pc := 25) 33 dX8_readStair_25 (by decide) (by omega) (by omega) (fun h_25 => ?_) (fun h_25 => ?_)
    · first
        | (have hguard : r2 = -1 := by omega
           obtain ⟨s2, e2, hs2, k2⟩ := z2.er hguard
           exact kE33 _ _ I2 (rdQ.er (f1.rd.tr f2.rd) (by rw [hdef, e1]; show (match pNum b n p1 7 with | .error s => _ | .ok (c, p2) => _) = _; rw [e2]) k2 hs2))
        | (have hguard : (a : Int) = r2 := by omega
           obtain ⟨p2, e2, hp2, hlt2, t2⟩ := z2.ok (by omega)
           exact kE33 _ _ I2 (rdQ.er (f1.rd.tr f2.rd) (by rw [hdef, e1]; show (match pNum b n p1 7 with | .error s => _ | .ok (c, p2) => _) = _; rw [e2]; exact if_pos hguard) w2.2.1 hs1.2))
    · refine j_iload_n (pc := 28) dX8_readStair_28 rfl ?_
      refine j_iload_n (pc := 29) dX8_readStair_29 rfl ?_
      refine j_icmp_ne (pc := 30) 37 dX8_readStair_30 (by decide) (by omega) (by omega) (fun h_30 => ?_) (fun h_30 => ?_)
      · obtain ⟨p2, e2, hp2, hlt2, t2⟩ := z2.ok (by omega)
        have hT2 := hT1.mv f2
        obtain ⟨c, rfl⟩ := Int.eq_ofNat_of_zero_le (show 0 ≤ r2 by omega)
        have hdef2 : pStair b n p f = match pNum b n p2 9 with
          | .error s => .error s
          | .ok (v, p3) => pStop b n p3 (jU f (71 + pairN a c) v) := by
          rw [hdef, e1]
          show (match pNum b n p1 7 with | .error s => _ | .ok (c, p2) => _) = _
          rw [e2]
          show (if (a : Int) = (c : Int) then _ else _) = _
          rw [if_neg (by omega)]
          rfl
        refine j_aload_n (pc := 37) dX8_readStair_37 rfl ?_
        refine j_bipush (pc := 38) dX8_readStair_38 (by decide) ?_
        refine j_goI (pc := 40) (j_runV k_X8_65 m_X8_numberNext (c_numNext X I2 b n p2 9 hT2 t2 hp2 (by omega)) dX8_readStair_40 rfl (by decide) rfl (by decide) (by decide) rfl rfl (Nat.le_of_ble_eq_true rfl)) (fun r3 I3 h3' => ?_)
        obtain ⟨f3, b3, w3, z3⟩ := nu_of hp2 h3' (by omega)
        refine j_istore4 (pc := 43) dX8_readStair_43 (by decide) rfl ?_
        refine j_iload (pc := 45) dX8_readStair_45 rfl ?_
        refine j_iconst (pc := 47) dX8_readStair_47 ?_
        refine j_icmp_ne (pc := 48) 53 dX8_readStair_48 (by decide) (by omega) (by omega) (fun h_48 => ?_) (fun h_48 => ?_)
        · obtain ⟨p3, e3, hp3, hlt3, t3⟩ := z3.ok (by omega)
          have hT3 := hT2.mv f3
          have hH3 := hR_rt (hR_rt (hR_rt hH f1) f2) f3
          refine j_aload_n (pc := 53) dX8_readStair_53 rfl ?_
          refine j_iload_n (pc := 54) dX8_readStair_54 rfl ?_
          refine j_iload_n (pc := 55) dX8_readStair_55 rfl ?_
          refine j_iload (pc := 56) dX8_readStair_56 rfl ?_
          refine j_goI (pc := 58) (j_runV k_X8_69 m_X2_addStair (c_hSt80 X I3 f a c r3 hH3 hok (by omega) (by omega) (by omega) ⟨by omega, by omega⟩) dX8_readStair_58 rfl (by decide) rfl (by decide) (by decide) rfl rfl (Nat.le_of_ble_eq_true rfl)) (fun r4 I4 h4 => ?_)
          obtain ⟨e4, hH4, fr4⟩ := h4
          have hf4 : rdF I3 I4 := rdF.of (fun z _ hz => fr4 z (by omega) (by omega))
          have hok4 := okSt_cr (a := a) (b := c) hok (by omega) (by omega) (by omega) (k := r3) ⟨by omega, by omega⟩
          refine j_pop (pc := 61) dX8_readStair_61 ?_
          refine j_aload_n (pc := 62) dX8_readStair_62 rfl ?_
          refine j_goI (pc := 63) (j_runV k_X8_36 m_X8_stopNext (c_stopNext X I4 b n p3 (hT3.rd hf4) (by rw [fr4 78 (by omega) (by omega)]; exact t3) hp3) dX8_readStair_63 rfl (by decide) rfl (by decide) (by decide) rfl rfl (Nat.le_of_ble_eq_true rfl)) (fun r5 I5 h5 => ?_)
          replace h5 := st_of hp3 hH4 hok4 h5
          have h51 := h5.1
          refine j_retz dX8_readStair_66 (by omega) (?_) rfl
          exact ⟨by omega, h5.2.mv (((f1.rd.tr f2.rd).tr f3.rd).tr hf4) (by rw [hdef2, e3])⟩
        · refine j_iconst (pc := 51) dX8_readStair_51 ?_
          refine j_retz dX8_readStair_52 (by omega) (?_) rfl
          obtain ⟨s3, e3, hs3, k3⟩ := z3.er (by omega)
          exact ⟨Or.inl rfl, rdQ.er ((f1.rd.tr f2.rd).tr f3.rd) (by rw [hdef2, e3]) k3 hs3⟩
      · first
          | (have hguard : r2 = -1 := by omega
             obtain ⟨s2, e2, hs2, k2⟩ := z2.er hguard
             exact kE33 _ _ I2 (rdQ.er (f1.rd.tr f2.rd) (by rw [hdef, e1]; show (match pNum b n p1 7 with | .error s => _ | .ok (c, p2) => _) = _; rw [e2]) k2 hs2))
          | (have hguard : (a : Int) = r2 := by omega
             obtain ⟨p2, e2, hp2, hlt2, t2⟩ := z2.ok (by omega)
             exact kE33 _ _ I2 (rdQ.er (f1.rd.tr f2.rd) (by rw [hdef, e1]; show (match pNum b n p1 7 with | .error s => _ | .ok (c, p2) => _) = _; rw [e2]; exact if_pos hguard) w2.2.1 hs1.2))
  · obtain ⟨s1, e1, hs1, k1⟩ := z1.er (by omega)
    exact kE12 _ I1 (rdQ.er f1.rd (by rw [hdef, e1]) k1 hs1)
set_option maxHeartbeats 1000000 in
theorem c_rdSleep (X : jX) (I : jMI) (b : Nat → Int) (n p s0 : Nat) (f : Nat → Int) (hT : rtA b n I) (h2 : I 78 2 = (s0 : Nat)) (h3 : I 78 3 = (p : Nat)) (hp : p ≤ n) (hs0 : s0 ≤ n) (hH : hR f I 80) (hok : okSt f) : C_X8_readSleeper X [jR 78, jR 80] I (fun r I' => (r = 0 ∨ r = 1) ∧ rdQ n I (pSleep b n s0 p f) r I') := by
  refine CG.of (by decide) [some (jR 78), some (jR 80), none, none, none] rfl (Nat.le_of_ble_eq_true rfl) ?_
  have kE21 : ∀ (x : Int) (I' : jMI), rdQ n I (pSleep b n s0 p f) 0 I' → S_X8_readSleeper X 21 [some (jR 78), some (jR 80), some (jI x), none, none] [] I' (fun r I' => (r = 0 ∨ r = 1) ∧ rdQ n I (pSleep b n s0 p f) r I') := by
    intro x I' hq
    refine j_iconst (pc := 21) dX8_readSleeper_21 ?_
    refine j_goto (pc := 22) 31 dX8_readSleeper_22 (by decide) ?_
    refine j_istore_n3 (pc := 31) dX8_readSleeper_31 (by decide) rfl ?_
    refine j_iload_n (pc := 32) dX8_readSleeper_32 rfl ?_
    refine j_iconst (pc := 33) dX8_readSleeper_33 ?_
    refine j_icmp_ne (pc := 34) 41 dX8_readSleeper_34 (by decide) (by omega) (by omega) (fun h_34 => ?_) (fun h_34 => ?_)
    · omega
    · refine j_iconst (pc := 37) dX8_readSleeper_37 ?_
      refine j_goto (pc := 38) 47 dX8_readSleeper_38 (by decide) ?_
      refine j_istore4 (pc := 47) dX8_readSleeper_47 (by decide) rfl ?_
      refine j_iload (pc := 49) dX8_readSleeper_49 rfl ?_
      refine j_iconst (pc := 51) dX8_readSleeper_51 ?_
      refine j_icmp_ne (pc := 52) 57 dX8_readSleeper_52 (by decide) (by omega) (by omega) (fun h_52 => ?_) (fun h_52 => ?_)
      · omega
      · refine j_iconst (pc := 55) dX8_readSleeper_55 ?_
        exact j_retz dX8_readSleeper_56 (by omega) (⟨Or.inl rfl, hq⟩) rfl
  have kE37 : ∀ (x y : Int) (I' : jMI), rdQ n I (pSleep b n s0 p f) 0 I' → S_X8_readSleeper X 37 [some (jR 78), some (jR 80), some (jI x), some (jI y), none] [] I' (fun r I' => (r = 0 ∨ r = 1) ∧ rdQ n I (pSleep b n s0 p f) r I') := by
    intro x y I' hq
    refine j_iconst (pc := 37) dX8_readSleeper_37 ?_
    refine j_goto (pc := 38) 47 dX8_readSleeper_38 (by decide) ?_
    refine j_istore4 (pc := 47) dX8_readSleeper_47 (by decide) rfl ?_
    refine j_iload (pc := 49) dX8_readSleeper_49 rfl ?_
    refine j_iconst (pc := 51) dX8_readSleeper_51 ?_
    refine j_icmp_ne (pc := 52) 57 dX8_readSleeper_52 (by decide) (by omega) (by omega) (fun h_52 => ?_) (fun h_52 => ?_)
    · omega
    · refine j_iconst (pc := 55) dX8_readSleeper_55 ?_
      exact j_retz dX8_readSleeper_56 (by omega) (⟨Or.inl rfl, hq⟩) rfl
  have hf5 := hH.1
  have hr5 : 0 ≤ f 5 ∧ f 5 ≤ 5 := hok 5 (by omega)
  refine j_aload_n (pc := 0) dX8_readSleeper_0 rfl ?_
  refine j_getI (pc := 1) f_X8_73 dX8_readSleeper_1 rfl rfl (by decide) ?_
  rw [hf5]
  refine j_iconst (pc := 4) dX8_readSleeper_4 ?_
  refine j_icmp_lt (pc := 5) 10 dX8_readSleeper_5 (by decide) (by omega) (by omega) (fun h_5 => ?_) (fun h_5 => ?_)
  · have hdef : pSleep b n s0 p f = match pNum b n p 5 with
      | .error s => .error s
      | .ok (k, p1) => match pNum b n p1 7 with
        | .error s => .error s
        | .ok (r, p2) => match pNum b n p2 9 with
          | .error s => .error s
          | .ok (e, p3) => pStop b n p3 (mAddSl f (f 5).toNat k r e) := by
      unfold pSleep
      rw [if_neg (by omega)]
      rfl
    refine j_aload_n (pc := 10) dX8_readSleeper_10 rfl ?_
    refine j_iconst (pc := 11) dX8_readSleeper_11 ?_
    refine j_goI (pc := 12) (j_runV k_X8_65 m_X8_numberNext (c_numNext X I b n p 5 hT h3 hp (by omega)) dX8_readSleeper_12 rfl (by decide) rfl (by decide) (by decide) rfl rfl (Nat.le_of_ble_eq_true rfl)) (fun r1 I1 h1 => ?_)
    obtain ⟨f1, b1, w1, z1⟩ := nu_of hp h1 (by omega)
    refine j_istore_n2 (pc := 15) dX8_readSleeper_15 (by decide) rfl ?_
    refine j_iload_n (pc := 16) dX8_readSleeper_16 rfl ?_
    refine j_iconst (pc := 17) dX8_readSleeper_17 ?_
    refine j_icmp_ne (pc := 18) 25 dX8_readSleeper_18 (by decide) (by omega) (by omega) (fun h_18 => ?_) (fun h_18 => ?_)
    · obtain ⟨p1, e1, hp1, hlt1, t1⟩ := z1.ok (by omega)
      have hT1 := hT.mv f1
      have hdef1 : pSleep b n s0 p f = match pNum b n p1 7 with
          | .error s => .error s
          | .ok (r, p2) => match pNum b n p2 9 with
            | .error s => .error s
            | .ok (e, p3) => pStop b n p3 (mAddSl f (f 5).toNat r1 r e) := by rw [hdef, e1]
      refine j_aload_n (pc := 25) dX8_readSleeper_25 rfl ?_
      refine j_bipush (pc := 26) dX8_readSleeper_26 (by decide) ?_
      refine j_goI (pc := 28) (j_runV k_X8_65 m_X8_numberNext (c_numNext X I1 b n p1 7 hT1 t1 hp1 (by omega)) dX8_readSleeper_28 rfl (by decide) rfl (by decide) (by decide) rfl rfl (Nat.le_of_ble_eq_true rfl)) (fun r2 I2 h2' => ?_)
      obtain ⟨f2, b2, w2, z2⟩ := nu_of hp1 h2' (by omega)
      refine j_istore_n3 (pc := 31) dX8_readSleeper_31 (by decide) rfl ?_
      refine j_iload_n (pc := 32) dX8_readSleeper_32 rfl ?_
      refine j_iconst (pc := 33) dX8_readSleeper_33 ?_
      refine j_icmp_ne (pc := 34) 41 dX8_readSleeper_34 (by decide) (by omega) (by omega) (fun h_34 => ?_) (fun h_34 => ?_)
      · obtain ⟨p2, e2, hp2, hlt2, t2⟩ := z2.ok (by omega)
        have hT2 := hT1.mv f2
        have hdef2 : pSleep b n s0 p f = match pNum b n p2 9 with
            | .error s => .error s
            | .ok (e, p3) => pStop b n p3 (mAddSl f (f 5).toNat r1 r2 e) := by rw [hdef1, e2]
        refine j_aload_n (pc := 41) dX8_readSleeper_41 rfl ?_
        refine j_bipush (pc := 42) dX8_readSleeper_42 (by decide) ?_
        refine j_goI (pc := 44) (j_runV k_X8_65 m_X8_numberNext (c_numNext X I2 b n p2 9 hT2 t2 hp2 (by omega)) dX8_readSleeper_44 rfl (by decide) rfl (by decide) (by decide) rfl rfl (Nat.le_of_ble_eq_true rfl)) (fun r3 I3 h3' => ?_)
        obtain ⟨f3, b3, w3, z3⟩ := nu_of hp2 h3' (by omega)
        refine j_istore4 (pc := 47) dX8_readSleeper_47 (by decide) rfl ?_
        refine j_iload (pc := 49) dX8_readSleeper_49 rfl ?_
        refine j_iconst (pc := 51) dX8_readSleeper_51 ?_
        refine j_icmp_ne (pc := 52) 57 dX8_readSleeper_52 (by decide) (by omega) (by omega) (fun h_52 => ?_) (fun h_52 => ?_)
        · obtain ⟨p3, e3, hp3, hlt3, t3⟩ := z3.ok (by omega)
          have hT3 := hT2.mv f3
          have hH3 := hR_rt (hR_rt (hR_rt hH f1) f2) f3
          obtain ⟨s, hs⟩ := Int.eq_ofNat_of_zero_le hr5.1
          have hs9 : I3 80 9 = (s : Int) := hH3.1.trans hs
          refine j_aload_n (pc := 57) dX8_readSleeper_57 rfl ?_
          refine j_iload_n (pc := 58) dX8_readSleeper_58 rfl ?_
          refine j_iload_n (pc := 59) dX8_readSleeper_59 rfl ?_
          refine j_iload (pc := 60) dX8_readSleeper_60 rfl ?_
          refine j_goI (pc := 62) (j_runV k_X8_76 m_X2_addSleeper (c_hSl80 X I3 s r1 r2 r3 hs9 (by omega)) dX8_readSleeper_62 rfl (by decide) rfl (by decide) (by decide) rfl rfl (Nat.le_of_ble_eq_true rfl)) (fun r4 I4 h4 => ?_)
          obtain ⟨e4, e4'⟩ := h4
          have hf4 : rdF I3 I4 := by
            refine rdF.of (fun z hz hz2 => ?_)
            rw [e4']
            unfold hAddSl
            rw [jSf_n (by omega), jSf_n (by omega), jSf_n (by omega), jSf_n (by omega)]
          have hH4 : hR (mAddSl f s r1 r2 r3) I4 80 := by rw [e4']; exact hR_sl hH3 hok hs (by omega) r1 r2 r3
          have hok4 := okSt_sl hok (s := s) (by omega) (k := r1) (r := r2) (e := r3) ⟨by omega, by omega⟩ ⟨by omega, by omega⟩ ⟨by omega, by omega⟩
          have h78 : I4 78 = I3 78 := by
            rw [e4']
            unfold hAddSl
            rw [jSf_n (by omega), jSf_n (by omega), jSf_n (by omega), jSf_n (by omega)]
          refine j_pop (pc := 65) dX8_readSleeper_65 ?_
          refine j_aload_n (pc := 66) dX8_readSleeper_66 rfl ?_
          refine j_goI (pc := 67) (j_runV k_X8_36 m_X8_stopNext (c_stopNext X I4 b n p3 (hT3.rd hf4) (by rw [h78]; exact t3) hp3) dX8_readSleeper_67 rfl (by decide) rfl (by decide) (by decide) rfl rfl (Nat.le_of_ble_eq_true rfl)) (fun r5 I5 h5 => ?_)
          replace h5 := st_of hp3 hH4 hok4 h5
          have h51 := h5.1
          refine j_retz dX8_readSleeper_70 (by omega) (?_) rfl
          refine ⟨by omega, h5.2.mv (((f1.rd.tr f2.rd).tr f3.rd).tr hf4) ?_⟩
          rw [hdef2, e3]
          show pStop b n p3 (mAddSl f (f 5).toNat r1 r2 r3) = _
          rw [hs, Int.toNat_natCast]
        · refine j_iconst (pc := 55) dX8_readSleeper_55 ?_
          refine j_retz dX8_readSleeper_56 (by omega) (?_) rfl
          obtain ⟨s3, e3, hs3, k3⟩ := z3.er (by omega)
          exact ⟨Or.inl rfl, rdQ.er ((f1.rd.tr f2.rd).tr f3.rd) (by rw [hdef2, e3]) k3 hs3⟩
      · obtain ⟨s2, e2, hs2, k2⟩ := z2.er (by omega)
        exact kE37 _ _ I2 (rdQ.er (f1.rd.tr f2.rd) (by rw [hdef1, e2]) k2 hs2)
    · obtain ⟨s1, e1, hs1, k1⟩ := z1.er (by omega)
      exact kE21 _ I1 (rdQ.er f1.rd (by rw [hdef, e1]) k1 hs1)
  · refine j_iconst (pc := 8) dX8_readSleeper_8 ?_
    refine j_retz dX8_readSleeper_9 (by omega) (?_) rfl
    exact ⟨Or.inl rfl, rdQ.er ⟨fun z _ _ _ => rfl, fun j _ _ _ => rfl⟩ (by unfold pSleep; rw [if_pos (by omega)]) h2 hs0⟩
