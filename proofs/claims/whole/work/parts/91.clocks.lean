/-! ===== the class: stopped clocks ===== -/
/-- the weight with which so many are awake, of the first j sleepers -/
def ch (c sure : Nat) : Nat → Nat → Nat
  | 0, up => if up = pop5 sure then 1 else 0
  | j + 1, up => if sure.testBit j then ch c sure j up else match up with
    | 0 => ch c sure j 0 * (10 - c)
    | v + 1 => ch c sure j (v + 1) * (10 - c) + ch c sure j v * c
def csum (c sure M : Nat) : Nat → Nat
  | 0 => 0
  | k + 1 => csum c sure M k + ch c sure M k
theorem cl_0 : ∀ c : Fin 11, ∀ n : Fin 6, csum c 0 0 (n + 1) = clN c n 0 0 1 := by decide +kernel
theorem cl_eq : ∀ M : Fin 6, ∀ sure : Fin 32, (sure : Nat) < 2 ^ (M : Nat) → pop5 sure ≤ M ∧ ∀ c : Fin 11, ∀ n : Fin 6, csum c sure M (n + 1) * 10 ^ (pop5 sure) = clN c n sure M (2 ^ (M : Nat)) := by decide +kernel
