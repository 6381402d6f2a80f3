/-! ===== how many rows ===== -/
noncomputable def ind (P : Prop) : Int := @ite Int P (Classical.propDecidable P) 1 0
theorem ind_t {P : Prop} (h : P) : ind P = 1 := by unfold ind; rw [@if_pos _ (Classical.propDecidable P) h]
theorem ind_f {P : Prop} (h : ¬ P) : ind P = 0 := by unfold ind; rw [@if_neg _ (Classical.propDecidable P) h]
theorem ind_01 (P : Prop) : ind P = 0 ∨ ind P = 1 := by
  by_cases h : P
  · exact Or.inr (ind_t h)
  · exact Or.inl (ind_f h)
def sumTo : Nat → (Nat → Int) → Int
  | 0, _ => 0
  | n + 1, g => sumTo n g + g n
theorem sumTo_le {g : Nat → Int} {c : Int} : ∀ n, (∀ i, i < n → g i ≤ c) → sumTo n g ≤ n * c
  | 0, _ => by simp [sumTo]
  | n + 1, h => by
    have h1 := sumTo_le n (fun i hi => h i (by omega))
    have h2 := h n (by omega)
    simp only [sumTo]
    have : ((n + 1 : Nat) : Int) * c = n * c + c := by rw [Int.natCast_succ, Int.add_mul, Int.one_mul]
    omega
theorem sumTo_nn {g : Nat → Int} : ∀ n, (∀ i, i < n → 0 ≤ g i) → 0 ≤ sumTo n g
  | 0, _ => by simp [sumTo]
  | n + 1, h => by
    have h1 := sumTo_nn n (fun i hi => h i (by omega))
    have h2 := h n (by omega)
    simp only [sumTo]
    omega
theorem sumTo_congr {g g' : Nat → Int} : ∀ n, (∀ i, i < n → g i = g' i) → sumTo n g = sumTo n g'
  | 0, _ => rfl
  | n + 1, h => by
    simp only [sumTo]
    rw [sumTo_congr n (fun i hi => h i (by omega)), h n (by omega)]
theorem sumTo_le2 {g g' : Nat → Int} : ∀ n, (∀ i, i < n → g i ≤ g' i) → sumTo n g ≤ sumTo n g'
  | 0, _ => by simp [sumTo]
  | n + 1, h => by
    have h1 := sumTo_le2 n (fun i hi => h i (by omega))
    have h2 := h n (by omega)
    simp only [sumTo]
    omega
theorem sumTo_add {g g' : Nat → Int} : ∀ n, sumTo n (fun i => g i + g' i) = sumTo n g + sumTo n g'
  | 0 => by simp [sumTo]
  | n + 1 => by
    simp only [sumTo]
    rw [sumTo_add n]
    omega
theorem sumTo_mul {g : Nat → Int} {c : Int} : ∀ n, sumTo n (fun i => c * g i) = c * sumTo n g
  | 0 => by simp [sumTo]
  | n + 1 => by
    simp only [sumTo]
    rw [sumTo_mul n, Int.mul_add]
theorem sumTo_swap {F : Nat → Nat → Int} (k : Nat) : ∀ n, sumTo n (fun i => sumTo k (fun j => F i j)) = sumTo k (fun j => sumTo n (fun i => F i j))
  | 0 => by
    simp only [sumTo]
    induction k with
    | zero => rfl
    | succ k ih => simp only [sumTo]; omega
  | n + 1 => by
    simp only [sumTo]
    rw [sumTo_swap k n, ← sumTo_add]
noncomputable def cm (f : Nat → Int) : Nat → Nat → Int
  | 0, a => if a = 0 then 1 else 0
  | m + 1, b => sumTo 8 (fun a => ind (ldP f m a b) * cm f m a)
/-- by the minutes that are left -/
noncomputable def onF (f : Nat → Int) : Nat → Nat → Int
  | 0, _ => 1
  | r + 1, a => sumTo 8 (fun b => ind (ldP f ((11 - r : Nat) : Int) a b) * onF f r b)
theorem ind_mul {P : Prop} {x c : Int} (h : 0 ≤ x ∧ x ≤ c) : 0 ≤ ind P * x ∧ ind P * x ≤ c := by
  rcases ind_01 P with e | e <;> rw [e] <;> omega
theorem cm_rng (f : Nat → Int) : ∀ m a, 0 ≤ cm f m a ∧ cm f m a ≤ ((8 ^ m : Nat) : Int)
  | 0, a => by unfold cm; split <;> omega
  | m + 1, b => by
    have ih := cm_rng f m
    unfold cm
    refine ⟨sumTo_nn 8 (fun i _ => (ind_mul (ih i)).1), ?_⟩
    have := sumTo_le (c := ((8 ^ m : Nat) : Int)) 8 (fun i (_ : i < 8) => (ind_mul (P := ldP f m i b) (ih i)).2)
    rw [Nat.pow_succ]
    omega
theorem onF_rng (f : Nat → Int) : ∀ r a, 0 ≤ onF f r a ∧ onF f r a ≤ ((8 ^ r : Nat) : Int)
  | 0, a => by unfold onF; omega
  | r + 1, a => by
    have ih := onF_rng f r
    unfold onF
    refine ⟨sumTo_nn 8 (fun i _ => (ind_mul (ih i)).1), ?_⟩
    have := sumTo_le (c := ((8 ^ r : Nat) : Int)) 8 (fun i (_ : i < 8) => (ind_mul (P := ldP f ((11 - r : Nat) : Int) a i) (ih i)).2)
    rw [Nat.pow_succ]
    omega
theorem p812 {m : Nat} (h : m ≤ 12) : 8 ^ m ≤ 68719476736 := Nat.le_trans (Nat.pow_le_pow_right (by omega) h) (by decide)
theorem cm_small (f : Nat → Int) {m : Nat} (h : m ≤ 12) (a : Nat) : 0 ≤ cm f m a ∧ cm f m a ≤ 68719476736 := by
  have h1 := cm_rng f m a
  have h2 := p812 h
  exact ⟨h1.1, Int.le_trans h1.2 (Int.ofNat_le.mpr h2)⟩
theorem onF_small (f : Nat → Int) {m : Nat} (h : m ≤ 12) (a : Nat) : 0 ≤ onF f m a ∧ onF f m a ≤ 68719476736 := by
  have h1 := onF_rng f m a
  have h2 := p812 h
  exact ⟨h1.1, Int.le_trans h1.2 (Int.ofNat_le.mpr h2)⟩
/-- the rows that go through any minute are all of them -/
theorem tot_step (f : Nat → Int) (m r : Nat) (h : m + r = 11) : sumTo 8 (fun a => cm f m a * onF f (r + 1) a) = sumTo 8 (fun b => cm f (m + 1) b * onF f r b) := by
  have e1 : ∀ a, cm f m a * onF f (r + 1) a = sumTo 8 (fun b => cm f m a * (ind (ldP f m a b) * onF f r b)) := by
    intro a
    rw [sumTo_mul]
    congr 1
    simp only [onF]
    rw [show 11 - r = m by omega]
  have e2 : ∀ b, cm f (m + 1) b * onF f r b = sumTo 8 (fun a => cm f m a * (ind (ldP f m a b) * onF f r b)) := by
    intro b
    rw [Int.mul_comm, show cm f (m + 1) b = sumTo 8 (fun a => ind (ldP f m a b) * cm f m a) from rfl, ← sumTo_mul]
    exact sumTo_congr 8 (fun a _ => by rw [Int.mul_comm (onF f r b), Int.mul_comm (ind _) (cm f m a), Int.mul_assoc])
  rw [sumTo_congr 8 (fun a _ => e1 a), sumTo_swap, sumTo_congr 8 (fun b _ => (e2 b).symm)]
theorem tot_0 (f : Nat → Int) : sumTo 8 (fun a => cm f 0 a * onF f 12 a) = onF f 12 0 := by
  simp [sumTo, cm]
theorem tot_m (f : Nat → Int) : ∀ m, m ≤ 12 → sumTo 8 (fun a => cm f m a * onF f (12 - m) a) = onF f 12 0
  | 0, _ => tot_0 f
  | m + 1, h => by
    rw [← tot_m f m (by omega), show 12 - m = (12 - (m + 1)) + 1 by omega, tot_step f m (12 - (m + 1)) (by omega)]
