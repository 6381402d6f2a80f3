/-! ===== walks over eight rooms ===== -/
def wlk (e : Nat → Nat → Prop) : Nat → Nat → Nat → Prop
  | 0, a, b => a = b
  | k + 1, a, b => ∃ c, c < 8 ∧ wlk e k a c ∧ e c b
theorem wlk_1 {e : Nat → Nat → Prop} {a b : Nat} (ha : a < 8) (h : e a b) : wlk e 1 a b := ⟨a, ha, rfl, h⟩
theorem wlk_app {e : Nat → Nat → Prop} : ∀ (k2 k1 a b c : Nat), wlk e k1 a b → wlk e k2 b c → wlk e (k1 + k2) a c
  | 0, k1, a, b, c, h1, h2 => by cases h2; exact h1
  | k2 + 1, k1, a, b, c, h1, ⟨d, hd, h2, h3⟩ => ⟨d, hd, wlk_app k2 k1 a b d h1 h2, h3⟩
/-- how many of eight -/
def cnt8 (P : Nat → Bool) : Nat := (P 0).toNat + (P 1).toNat + (P 2).toNat + (P 3).toNat + (P 4).toNat + (P 5).toNat + (P 6).toNat + (P 7).toNat
theorem toNat_le {p q : Bool} (h : p = true → q = true) : p.toNat ≤ q.toNat := by cases p <;> cases q <;> simp_all
theorem cnt8_le (P : Nat → Bool) : cnt8 P ≤ 8 := by
  unfold cnt8
  have h : ∀ i, (P i).toNat ≤ 1 := fun i => by cases P i <;> decide
  have := h 0; have := h 1; have := h 2; have := h 3; have := h 4; have := h 5; have := h 6; have := h 7
  omega
theorem cnt8_lt {P Q : Nat → Bool} (h : ∀ i, P i = true → Q i = true) {b : Nat} (hb : b < 8) (h1 : P b = false) (h2 : Q b = true) : cnt8 P < cnt8 Q := by
  have k : ∀ i, (P i).toNat ≤ (Q i).toNat := fun i => toNat_le (h i)
  have s : (P b).toNat < (Q b).toNat := by rw [h1, h2]; decide
  have := k 0; have := k 1; have := k 2; have := k 3; have := k 4; have := k 5; have := k 6; have := k 7
  unfold cnt8
  rcases (show b = 0 ∨ b = 1 ∨ b = 2 ∨ b = 3 ∨ b = 4 ∨ b = 5 ∨ b = 6 ∨ b = 7 by omega) with rfl | rfl | rfl | rfl | rfl | rfl | rfl | rfl <;> omega
noncomputable def rch (e : Nat → Nat → Prop) (a k b : Nat) : Bool := @decide (∃ j, j ≤ k ∧ wlk e j a b) (Classical.propDecidable _)
theorem rch_t {e : Nat → Nat → Prop} {a k b : Nat} : rch e a k b = true ↔ ∃ j, j ≤ k ∧ wlk e j a b := by
  unfold rch
  exact @decide_eq_true_iff _ (Classical.propDecidable _)
theorem rch_mono {e : Nat → Nat → Prop} {a k : Nat} (b : Nat) (h : rch e a k b = true) : rch e a (k + 1) b = true := by
  obtain ⟨j, hj, hw⟩ := rch_t.mp h
  exact rch_t.mpr ⟨j, by omega, hw⟩
/-- once nothing comes, nothing comes any more -/
theorem rch_stay {e : Nat → Nat → Prop} (he : ∀ x y, e x y → y < 8) {a i : Nat} (ha : a < 8) (hs : ∀ b, b < 8 → rch e a (i + 1) b = true → rch e a i b = true) : ∀ (j b : Nat), wlk e j a b → ∃ j', j' ≤ i ∧ wlk e j' a b
  | 0, b, h => ⟨0, by omega, h⟩
  | j + 1, b, ⟨c, hc, h1, h2⟩ => by
    obtain ⟨j', hj', hw⟩ := rch_stay he ha hs j c h1
    exact rch_t.mp (hs b (he c b h2) (rch_t.mpr ⟨j' + 1, by omega, c, hc, hw, h2⟩))
theorem wlk_short {e : Nat → Nat → Prop} (he : ∀ x y, e x y → y < 8) {a : Nat} (ha : a < 8) : ∀ (j b : Nat), wlk e j a b → ∃ j', j' ≤ 7 ∧ wlk e j' a b := by
  have key : ∀ k, k ≤ 8 → (k + 1 ≤ cnt8 (rch e a k)) ∨ ∃ i, i < k ∧ ∀ b, b < 8 → rch e a (i + 1) b = true → rch e a i b = true := by
    intro k
    induction k with
    | zero =>
      intro _
      left
      have h0 : rch e a 0 a = true := rch_t.mpr ⟨0, Nat.le_refl _, rfl⟩
      have := cnt8_lt (P := fun _ => false) (Q := rch e a 0) (fun i h => by cases h) ha rfl h0
      omega
    | succ k ih =>
      intro hk
      rcases ih (by omega) with h | ⟨i, hi, h⟩
      · by_cases hst : ∀ b, b < 8 → rch e a (k + 1) b = true → rch e a k b = true
        · exact Or.inr ⟨k, by omega, hst⟩
        · left
          have : ∃ b, b < 8 ∧ rch e a (k + 1) b = true ∧ rch e a k b = false := by
            apply Classical.byContradiction
            intro hn
            apply hst
            intro b hb h1
            apply Classical.byContradiction
            intro h2
            exact hn ⟨b, hb, h1, by simpa using h2⟩
          obtain ⟨b, hb, h1, h2⟩ := this
          have := cnt8_lt (P := rch e a k) (Q := rch e a (k + 1)) (fun i h => rch_mono i h) hb h2 h1
          omega
      · exact Or.inr ⟨i, by omega, h⟩
  intro j b hw
  rcases key 8 (by omega) with h | ⟨i, hi, h⟩
  · have := cnt8_le (rch e a 8)
    omega
  · obtain ⟨j', hj', hw'⟩ := rch_stay he ha h j b hw
    exact ⟨j', by omega, hw'⟩
/-- the fewest steps between, or top -/
def isD (e : Nat → Nat → Prop) (a b : Nat) (top v : Int) : Prop := (v = top ∧ ∀ k, ¬ wlk e k a b) ∨ ∃ k : Nat, v = k ∧ k ≤ 7 ∧ wlk e k a b ∧ ∀ j, wlk e j a b → k ≤ j
theorem isD_of {e : Nat → Nat → Prop} (he : ∀ x y, e x y → y < 8) {a b : Nat} (ha : a < 8) {top v : Int} (hS : v = top ∨ ∃ k : Nat, v = k ∧ wlk e k a b) (ht : 8 ≤ top) (hC : ∀ j : Nat, j ≤ 7 → wlk e j a b → v ≤ j) : isD e a b top v := by
  by_cases hx : ∃ j, wlk e j a b
  · obtain ⟨j, hj⟩ := hx
    obtain ⟨j', h7, hw⟩ := wlk_short he ha j b hj
    have h1 := hC j' h7 hw
    rcases hS with hS | ⟨k, hk, hkw⟩
    · omega
    · refine Or.inr ⟨k, hk, by omega, hkw, fun i hi => ?_⟩
      by_cases hi7 : i ≤ 7
      · have := hC i hi7 hi; omega
      · omega
  · rcases hS with hS | ⟨k, hk, hkw⟩
    · exact Or.inl ⟨hS, fun k hk => hx ⟨k, hk⟩⟩
    · exact absurd ⟨k, hkw⟩ hx
theorem isD_uniq {e : Nat → Nat → Prop} {a b : Nat} {t1 t2 v1 v2 : Int} (h1 : isD e a b t1 v1) (h2 : isD e a b t2 v2) : (v1 = t1 ∧ v2 = t2) ∨ (v1 = v2 ∧ 0 ≤ v1 ∧ v1 ≤ 7) := by
  rcases h1 with ⟨e1, n1⟩ | ⟨k1, e1, l1, w1, m1⟩ <;> rcases h2 with ⟨e2, n2⟩ | ⟨k2, e2, l2, w2, m2⟩
  · exact Or.inl ⟨e1, e2⟩
  · exact absurd w2 (n1 k2)
  · exact absurd w1 (n2 k1)
  · have := m1 k2 w2; have := m2 k1 w1
    exact Or.inr ⟨by omega, by omega, by omega⟩
/-- a stair between two rooms -/
def edg (f : Nat → Int) (a b : Nat) : Prop := a < 8 ∧ b < 8 ∧ 0 ≤ cr f a b
theorem edg_lt (f : Nat → Int) : ∀ x y, edg f x y → y < 8 := fun _ _ h => h.2.1
