/-! ===== a text, item by item ===== -/
theorem pNum_ok {b : Nat → Int} {n p p' : Nat} {most v : Int} (hp : p ≤ n) (h : pNum b n p most = .ok (v, p')) : 0 ≤ v ∧ v ≤ most ∧ p < p' ∧ p' ≤ n ∧ tSo b n (tS b n p) = 2 ∧ v = tV b n (tS b n p) ∧ p' = tE b n (tS b n p) := by
  unfold pNum at h
  split at h
  · rename_i hh
    have e := Except.ok.inj h
    have e1 : tV b n (tS b n p) = v := congrArg Prod.fst e
    have e2 : tE b n (tS b n p) = p' := congrArg Prod.snd e
    have h1 := tV_rng hh.1
    have h2 := tS_rng (b := b) hp
    have h3 := tE_rng (b := b) h2.2
    have h4 := tE_lt (b := b) (n := n) (s := tS b n p) (by omega) (by omega)
    exact ⟨by omega, by omega, by omega, by omega, hh.1, e1.symm, e2.symm⟩
  · exact absurd h (by simp)
theorem pNum_er {b : Nat → Int} {n p s : Nat} {most : Int} (h : pNum b n p most = .error s) : s = tS b n p := by
  unfold pNum at h
  split at h
  · exact absurd h (by simp)
  · exact (Except.error.inj h).symm
theorem pStop_ok {b : Nat → Int} {n p p' : Nat} {f f' : Nat → Int} (hp : p ≤ n) (h : pStop b n p f = .ok (p', f')) : f' = f ∧ p < p' ∧ p' ≤ n := by
  unfold pStop at h
  split at h
  · have e := Except.ok.inj h
    have e1 : tE b n (tS b n p) = p' := congrArg Prod.fst e
    have e2 : f = f' := congrArg Prod.snd e
    have h2 := tS_rng (b := b) hp
    have h3 := tE_rng (b := b) h2.2
    have h4 := tE_lt (b := b) (n := n) (s := tS b n p) (by omega) (by omega)
    exact ⟨e2.symm, by omega, by omega⟩
  · exact absurd h (by simp)
theorem okSt_sl {f : Nat → Int} (h : okSt f) {s : Nat} (hs : s < 5) {k r e : Int} (hk : 0 ≤ k ∧ k ≤ 5) (hr : 0 ≤ r ∧ r ≤ 7) (he : 0 ≤ e ∧ e ≤ 9) : okSt (mAddSl f s k r e) := by
  unfold mAddSl
  refine okSt_U (okSt_U (okSt_U (okSt_U h ?_) ?_) ?_) ?_
  all_goals
    unfold stLo stHi
    refine ⟨?_, ?_⟩
    all_goals
      repeat' split
      all_goals omega
theorem okSt_th {f : Nat → Int} (h : okSt f) {t : Nat} (ht : t < 5) {k : Int} (hk : 0 ≤ k ∧ k ≤ 7) : okSt (mAddTh f t k) := by
  unfold mAddTh
  refine okSt_U (okSt_U (okSt_U h ?_) ?_) ?_
  all_goals
    unfold stLo stHi
    refine ⟨?_, ?_⟩
    all_goals
      repeat' split
      all_goals omega
theorem okSt_ow {f : Nat → Int} (h : okSt f) {t c : Nat} (ht : t < 5) (hc : c < 4) {k : Int} (hk : 0 ≤ k ∧ k ≤ 2) : okSt (mAddOw f t c k) := by
  unfold mAddOw
  refine okSt_U (okSt_U h ?_) ?_
  all_goals
    unfold stLo stHi
    refine ⟨?_, ?_⟩
    all_goals
      repeat' split
      all_goals omega
theorem okSt_cr {f : Nat → Int} (h : okSt f) {a b : Nat} (ha : a < 8) (hb : b < 8) (hab : a ≠ b) {k : Int} (hk : 0 ≤ k ∧ k ≤ 9) : okSt (jU f (71 + pairN a b) k) := by
  have := pairN_lt ha hb hab
  refine okSt_U h ?_
  unfold stLo stHi
  refine ⟨?_, ?_⟩
  all_goals
    repeat' split
    all_goals omega
theorem pStair_ok {b : Nat → Int} {n p p' : Nat} {f f' : Nat → Int} (hp : p ≤ n) (hf : okSt f) (h : pStair b n p f = .ok (p', f')) : okSt f' ∧ p < p' ∧ p' ≤ n ∧ f' 5 = f 5 ∧ f' 21 = f 21 := by
  unfold pStair at h
  cases h1 : pNum b n p 7 with
  | error s => rw [h1] at h; exact absurd h (by simp)
  | ok x =>
    obtain ⟨a, p1⟩ := x
    obtain ⟨a1, a2, a3, a4, -⟩ := pNum_ok hp h1
    rw [h1] at h
    dsimp only at h
    cases h2 : pNum b n p1 7 with
    | error s => rw [h2] at h; exact absurd h (by simp)
    | ok x =>
      obtain ⟨c, p2⟩ := x
      obtain ⟨c1, c2, c3, c4, -⟩ := pNum_ok a4 h2
      rw [h2] at h
      dsimp only at h
      split at h
      · exact absurd h (by simp)
      · cases h3 : pNum b n p2 9 with
        | error s => rw [h3] at h; exact absurd h (by simp)
        | ok x =>
          obtain ⟨v, p3⟩ := x
          obtain ⟨v1, v2, v3, v4, -⟩ := pNum_ok c4 h3
          rw [h3] at h
          dsimp only at h
          obtain ⟨rfl, e2, e3⟩ := pStop_ok v4 h
          have hp1 : pairN a.toNat c.toNat < 28 := pairN_lt (by omega) (by omega) (by omega)
          exact ⟨okSt_cr hf (by omega) (by omega) (by omega) (by omega), by omega, e3, jU_n (by omega), jU_n (by omega)⟩
theorem pSleep_ok {b : Nat → Int} {n s0 p p' : Nat} {f f' : Nat → Int} (hp : p ≤ n) (hf : okSt f) (h : pSleep b n s0 p f = .ok (p', f')) : okSt f' ∧ p < p' ∧ p' ≤ n ∧ f' 5 = f 5 + 1 ∧ f' 21 = f 21 ∧ f 5 < 5 := by
  unfold pSleep at h
  obtain ⟨m, hm, hm5⟩ := okSt_5 hf
  split at h
  · exact absurd h (by simp)
  · cases h1 : pNum b n p 5 with
    | error s => rw [h1] at h; exact absurd h (by simp)
    | ok x =>
      obtain ⟨a, p1⟩ := x
      obtain ⟨a1, a2, a3, a4, -⟩ := pNum_ok hp h1
      rw [h1] at h
      dsimp only at h
      cases h2 : pNum b n p1 7 with
      | error s => rw [h2] at h; exact absurd h (by simp)
      | ok x =>
        obtain ⟨c, p2⟩ := x
        obtain ⟨c1, c2, c3, c4, -⟩ := pNum_ok a4 h2
        rw [h2] at h
        dsimp only at h
        cases h3 : pNum b n p2 9 with
        | error s => rw [h3] at h; exact absurd h (by simp)
        | ok x =>
          obtain ⟨v, p3⟩ := x
          obtain ⟨v1, v2, v3, v4, -⟩ := pNum_ok c4 h3
          rw [h3] at h
          dsimp only at h
          obtain ⟨rfl, e2, e3⟩ := pStop_ok v4 h
          refine ⟨okSt_sl hf (by omega) (by omega) (by omega) (by omega), by omega, e3, ?_, ?_, by omega⟩
          · unfold mAddSl; rw [jU_s]; omega
          · unfold mAddSl; rw [jU_n (by omega), jU_n (by omega), jU_n (by omega), jU_n (by omega)]
theorem pOwn_ok {b : Nat → Int} {n t : Nat} (ht : t < 5) : ∀ (k p : Nat) (f : Nat → Int) {p' : Nat} {f' : Nat → Int}, k ≤ 4 → p ≤ n → okSt f → pOwn b n t k p f = .ok (p', f') → okSt f' ∧ p < p' ∧ p' ≤ n ∧ f' 5 = f 5 ∧ f' 21 = f 21 := by
  intro k
  induction k with
  | zero =>
    intro p f p' f' hk hp hf h
    obtain ⟨rfl, e2, e3⟩ := pStop_ok hp h
    exact ⟨hf, e2, e3, rfl, rfl⟩
  | succ k ih =>
    intro p f p' f' hk hp hf h
    have e : pOwn b n t (k + 1) p f = if tSo b n (tS b n p) = 3 then .ok (tE b n (tS b n p), f) else if tSo b n (tS b n p) = 2 ∧ tV b n (tS b n p) ≤ 2 ∧ tV b n (tS b n p) ≠ lastF f t then pOwn b n t k (tE b n (tS b n p)) (mAddOw f t (3 - k) (tV b n (tS b n p))) else .error (tS b n p) := rfl
    rw [e] at h
    have h2 := tS_rng (b := b) hp
    have h3 := tE_rng (b := b) h2.2
    split at h
    · have e := Except.ok.inj h
      have e1 : tE b n (tS b n p) = p' := congrArg Prod.fst e
      have e2 : f = f' := congrArg Prod.snd e
      have h4 := tE_lt (b := b) (n := n) (s := tS b n p) (by omega) (by omega)
      subst e2
      exact ⟨hf, by omega, by omega, rfl, rfl⟩
    · split at h
      · rename_i hh
        have h1 := tV_rng hh.1
        have h4 := tE_lt (b := b) (n := n) (s := tS b n p) (by omega) (by omega)
        obtain ⟨r1, r2, r3, r4, r5⟩ := ih _ _ (by omega) h3.2 (okSt_ow hf ht (by omega) (by omega)) h
        refine ⟨r1, by omega, r3, r4.trans ?_, r5.trans ?_⟩
        · unfold mAddOw; rw [jU_n (by omega), jU_n (by omega)]
        · unfold mAddOw; rw [jU_n (by omega), jU_n (by omega)]
      · exact absurd h (by simp)
theorem pThing_ok {b : Nat → Int} {n s0 p p' : Nat} {f f' : Nat → Int} (hp : p ≤ n) (hf : okSt f) (h : pThing b n s0 p f = .ok (p', f')) : okSt f' ∧ p < p' ∧ p' ≤ n ∧ f' 5 = f 5 ∧ f' 21 = f 21 + 1 ∧ f 21 < 5 := by
  unfold pThing at h
  obtain ⟨m, hm, hm5⟩ := okSt_21 hf
  split at h
  · exact absurd h (by simp)
  · cases h1 : pNum b n p 7 with
    | error s => rw [h1] at h; exact absurd h (by simp)
    | ok x =>
      obtain ⟨a, p1⟩ := x
      obtain ⟨a1, a2, a3, a4, -⟩ := pNum_ok hp h1
      rw [h1] at h
      dsimp only at h
      obtain ⟨r1, r2, r3, r4, r5⟩ := pOwn_ok (by omega) _ _ _ (by omega) a4 (okSt_th hf (by omega) (by omega)) h
      refine ⟨r1, by omega, r3, r4.trans ?_, r5.trans ?_, by omega⟩
      · unfold mAddTh; rw [jU_n (by omega), jU_n (by omega), jU_n (by omega)]
      · unfold mAddTh; rw [jU_s]; omega
theorem pItem_ok {b : Nat → Int} {n s p' : Nat} {f f' : Nat → Int} (hs : s ≤ n) (hf : okSt f) (h : pItem b n s f = .ok (p', f')) : okSt f' ∧ s < p' ∧ p' ≤ n := by
  have h3 := tE_rng (b := b) hs
  unfold pItem at h
  split at h
  · obtain ⟨r1, r2, r3, r4, r5⟩ := pStair_ok h3.2 hf h
    exact ⟨r1, by omega, r3⟩
  · split at h
    · obtain ⟨r1, r2, r3, r4, r5⟩ := pSleep_ok h3.2 hf h
      exact ⟨r1, by omega, r3⟩
    · split at h
      · obtain ⟨r1, r2, r3, r4, r5⟩ := pThing_ok h3.2 hf h
        exact ⟨r1, by omega, r3⟩
      · exact absurd h (by simp)
theorem pRest_ok {b : Nat → Int} {n : Nat} : ∀ (k it p : Nat) (f : Nat → Int) {c : Nat} {f' : Nat → Int}, p ≤ n → okSt f → pRest b n k it p f = .ok (c, f') → okSt f' ∧ it ≤ c ∧ c ≤ it + k := by
  intro k
  induction k with
  | zero => intro it p f c f' hp hf h; exact absurd h (by simp [pRest])
  | succ k ih =>
    intro it p f c f' hp hf h
    have e : pRest b n (k + 1) it p f = if tSo b n (tS b n p) = 0 then .ok (it, f) else match pItem b n (tS b n p) f with
      | .error s => .error s
      | .ok (p', f') => pRest b n k (it + 1) p' f' := rfl
    rw [e] at h
    split at h
    · have e := Except.ok.inj h
      have e1 : it = c := congrArg Prod.fst e
      have e2 : f = f' := congrArg Prod.snd e
      subst e2
      exact ⟨hf, by omega, by omega⟩
    · have h2 := tS_rng (b := b) hp
      cases h1 : pItem b n (tS b n p) f with
      | error s => rw [h1] at h; exact absurd h (by simp)
      | ok x =>
        obtain ⟨p1, f1⟩ := x
        obtain ⟨r1, r2, r3⟩ := pItem_ok h2.2 hf h1
        rw [h1] at h
        dsimp only at h
        obtain ⟨t1, t2, t3⟩ := ih _ _ _ r3 r1 h
        exact ⟨t1, by omega, by omega⟩
theorem pAll_ok {b : Nat → Int} {n c : Nat} {f f' : Nat → Int} (hf : okSt f) (h : pAll b n f = .ok (c, f')) : okSt f' ∧ 1 ≤ c ∧ c ≤ 146 := by
  unfold pAll at h
  split at h
  · cases h1 : pStop b n (tE b n (tS b n 0)) f with
    | error s => rw [h1] at h; exact absurd h (by simp)
    | ok x =>
      obtain ⟨p1, f1⟩ := x
      rw [h1] at h
      dsimp only at h
      have h2 := tS_rng (b := b) (Nat.zero_le n)
      have h3 := tE_rng (b := b) h2.2
      obtain ⟨-, r2, r3⟩ := pStop_ok h3.2 h1
      obtain ⟨t1, t2, t3⟩ := pRest_ok _ _ _ _ r3 hf h
      exact ⟨t1, by omega, by omega⟩
  · exact absurd h (by simp)
