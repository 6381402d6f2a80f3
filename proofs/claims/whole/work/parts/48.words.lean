/-! words and their numbers -/
def wdC (b : Nat → Int) (n s : Nat) (C : Int) : Prop := tSo b n s = 1 ∧ tE b n s - s ≤ 7 ∧ cd b s (tE b n s - s) = C
theorem cd_rng {b : Nat → Int} {s : Nat} : ∀ k, k ≤ 7 → (∀ i, i < k → 97 ≤ b (s + i) ∧ b (s + i) ≤ 122) → 0 ≤ cd b s k ∧ cd b s k ≤ 20000000000 := by
  intro k hk h
  have h0 := h 0; have h1 := h 1; have h2 := h 2; have h3 := h 3; have h4 := h 4; have h5 := h 5; have h6 := h 6
  rcases (show k = 0 ∨ k = 1 ∨ k = 2 ∨ k = 3 ∨ k = 4 ∨ k = 5 ∨ k = 6 ∨ k = 7 by omega) with rfl | rfl | rfl | rfl | rfl | rfl | rfl | rfl
  all_goals
    simp only [cd]
    omega
theorem wd_wHouse {b : Nat → Int} {n s : Nat} : wdC b n s 4562600 ↔ isWd b n s wHouse := by
  unfold wdC isWd wHouse
  constructor
  · rintro ⟨h1, h2, h3⟩
    obtain ⟨hl, hL⟩ := wd_let h1
    refine ⟨h1, ?_⟩
    generalize hk : tE b n s - s = k at *
    have h0 := hL 0; have g1 := hL 1; have g2 := hL 2; have g3 := hL 3; have g4 := hL 4; have g5 := hL 5; have g6 := hL 6
    rw [Nat.add_zero] at h0
    rcases (show k = 1 ∨ k = 2 ∨ k = 3 ∨ k = 4 ∨ k = 5 ∨ k = 6 ∨ k = 7 by omega) with rfl | rfl | rfl | rfl | rfl | rfl | rfl
    all_goals
      simp only [cd, Nat.add_zero] at h3
      first
        | (exfalso; omega)
        | (refine ⟨rfl, fun i hi => ?_⟩
           rcases (show i = 0 ∨ i = 1 ∨ i = 2 ∨ i = 3 ∨ i = 4 by simp at hi; omega) with rfl | rfl | rfl | rfl | rfl
           all_goals
             simp only [List.getElem?_cons_zero, List.getElem?_cons_succ, Option.getD_some, Nat.add_zero]
             omega)
  · rintro ⟨h1, h2, h3⟩
    have h2' : tE b n s - s = 5 := h2
    refine ⟨h1, by omega, ?_⟩
    rw [h2']
    have c0 : b (s + 0) = 104 := h3 0 (by decide)
    have c1 : b (s + 1) = 111 := h3 1 (by decide)
    have c2 : b (s + 2) = 117 := h3 2 (by decide)
    have c3 : b (s + 3) = 115 := h3 3 (by decide)
    have c4 : b (s + 4) = 101 := h3 4 (by decide)
    rw [Nat.add_zero] at c0
    simp only [cd, Nat.add_zero]
    omega
theorem wd_wStair {b : Nat → Int} {n s : Nat} : wdC b n s 10492029 ↔ isWd b n s wStair := by
  unfold wdC isWd wStair
  constructor
  · rintro ⟨h1, h2, h3⟩
    obtain ⟨hl, hL⟩ := wd_let h1
    refine ⟨h1, ?_⟩
    generalize hk : tE b n s - s = k at *
    have h0 := hL 0; have g1 := hL 1; have g2 := hL 2; have g3 := hL 3; have g4 := hL 4; have g5 := hL 5; have g6 := hL 6
    rw [Nat.add_zero] at h0
    rcases (show k = 1 ∨ k = 2 ∨ k = 3 ∨ k = 4 ∨ k = 5 ∨ k = 6 ∨ k = 7 by omega) with rfl | rfl | rfl | rfl | rfl | rfl | rfl
    all_goals
      simp only [cd, Nat.add_zero] at h3
      first
        | (exfalso; omega)
        | (refine ⟨rfl, fun i hi => ?_⟩
           rcases (show i = 0 ∨ i = 1 ∨ i = 2 ∨ i = 3 ∨ i = 4 by simp at hi; omega) with rfl | rfl | rfl | rfl | rfl
           all_goals
             simp only [List.getElem?_cons_zero, List.getElem?_cons_succ, Option.getD_some, Nat.add_zero]
             omega)
  · rintro ⟨h1, h2, h3⟩
    have h2' : tE b n s - s = 5 := h2
    refine ⟨h1, by omega, ?_⟩
    rw [h2']
    have c0 : b (s + 0) = 115 := h3 0 (by decide)
    have c1 : b (s + 1) = 116 := h3 1 (by decide)
    have c2 : b (s + 2) = 97 := h3 2 (by decide)
    have c3 : b (s + 3) = 105 := h3 3 (by decide)
    have c4 : b (s + 4) = 114 := h3 4 (by decide)
    rw [Nat.add_zero] at c0
    simp only [cd, Nat.add_zero]
    omega
theorem wd_wSleep {b : Nat → Int} {n s : Nat} : wdC b n s 7535943612 ↔ isWd b n s wSleep := by
  unfold wdC isWd wSleep
  constructor
  · rintro ⟨h1, h2, h3⟩
    obtain ⟨hl, hL⟩ := wd_let h1
    refine ⟨h1, ?_⟩
    generalize hk : tE b n s - s = k at *
    have h0 := hL 0; have g1 := hL 1; have g2 := hL 2; have g3 := hL 3; have g4 := hL 4; have g5 := hL 5; have g6 := hL 6
    rw [Nat.add_zero] at h0
    rcases (show k = 1 ∨ k = 2 ∨ k = 3 ∨ k = 4 ∨ k = 5 ∨ k = 6 ∨ k = 7 by omega) with rfl | rfl | rfl | rfl | rfl | rfl | rfl
    all_goals
      simp only [cd, Nat.add_zero] at h3
      first
        | (exfalso; omega)
        | (refine ⟨rfl, fun i hi => ?_⟩
           rcases (show i = 0 ∨ i = 1 ∨ i = 2 ∨ i = 3 ∨ i = 4 ∨ i = 5 ∨ i = 6 by simp at hi; omega) with rfl | rfl | rfl | rfl | rfl | rfl | rfl
           all_goals
             simp only [List.getElem?_cons_zero, List.getElem?_cons_succ, Option.getD_some, Nat.add_zero]
             omega)
  · rintro ⟨h1, h2, h3⟩
    have h2' : tE b n s - s = 7 := h2
    refine ⟨h1, by omega, ?_⟩
    rw [h2']
    have c0 : b (s + 0) = 115 := h3 0 (by decide)
    have c1 : b (s + 1) = 108 := h3 1 (by decide)
    have c2 : b (s + 2) = 101 := h3 2 (by decide)
    have c3 : b (s + 3) = 101 := h3 3 (by decide)
    have c4 : b (s + 4) = 112 := h3 4 (by decide)
    have c5 : b (s + 5) = 101 := h3 5 (by decide)
    have c6 : b (s + 6) = 114 := h3 6 (by decide)
    rw [Nat.add_zero] at c0
    simp only [cd, Nat.add_zero]
    omega
theorem wd_wThing {b : Nat → Int} {n s : Nat} : wdC b n s 10793230 ↔ isWd b n s wThing := by
  unfold wdC isWd wThing
  constructor
  · rintro ⟨h1, h2, h3⟩
    obtain ⟨hl, hL⟩ := wd_let h1
    refine ⟨h1, ?_⟩
    generalize hk : tE b n s - s = k at *
    have h0 := hL 0; have g1 := hL 1; have g2 := hL 2; have g3 := hL 3; have g4 := hL 4; have g5 := hL 5; have g6 := hL 6
    rw [Nat.add_zero] at h0
    rcases (show k = 1 ∨ k = 2 ∨ k = 3 ∨ k = 4 ∨ k = 5 ∨ k = 6 ∨ k = 7 by omega) with rfl | rfl | rfl | rfl | rfl | rfl | rfl
    all_goals
      simp only [cd, Nat.add_zero] at h3
      first
        | (exfalso; omega)
        | (refine ⟨rfl, fun i hi => ?_⟩
           rcases (show i = 0 ∨ i = 1 ∨ i = 2 ∨ i = 3 ∨ i = 4 by simp at hi; omega) with rfl | rfl | rfl | rfl | rfl
           all_goals
             simp only [List.getElem?_cons_zero, List.getElem?_cons_succ, Option.getD_some, Nat.add_zero]
             omega)
  · rintro ⟨h1, h2, h3⟩
    have h2' : tE b n s - s = 5 := h2
    refine ⟨h1, by omega, ?_⟩
    rw [h2']
    have c0 : b (s + 0) = 116 := h3 0 (by decide)
    have c1 : b (s + 1) = 104 := h3 1 (by decide)
    have c2 : b (s + 2) = 105 := h3 2 (by decide)
    have c3 : b (s + 3) = 110 := h3 3 (by decide)
    have c4 : b (s + 4) = 103 := h3 4 (by decide)
    rw [Nat.add_zero] at c0
    simp only [cd, Nat.add_zero]
    omega
