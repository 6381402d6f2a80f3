/-! ===== bits of small numbers ===== -/
theorem jn_i {n : Nat} (h : n < 2147483648) : (nI n).toInt = (n : Int) := nI_toInt (by omega)
theorem jn_o (n : Nat) : Int32.ofInt (n : Int) = nI n := Int32.ofInt_eq_ofNat
theorem jbor_n {a b : Nat} (ha : a < 2147483648) (hb : b < 2147483648) : jbor a b = ((a ||| b : Nat) : Int) := by
  have hlt : a ||| b < 2147483648 := Nat.or_lt_two_pow (n := 31) (by omega) (by omega)
  unfold jbor
  rw [jn_o, jn_o]
  have h : nI a ||| nI b = nI (a ||| b) := by
    apply Int32.toBitVec_inj.mp
    apply BitVec.eq_of_toNat_eq
    rw [Int32.toBitVec_or, BitVec.toNat_or, pk_tn (by omega), pk_tn (by omega), pk_tn (by omega)]
  rw [h, jn_i hlt]
theorem jband_n {a b : Nat} (ha : a < 2147483648) (hb : b < 2147483648) : jband a b = ((a &&& b : Nat) : Int) := by
  have hlt : a &&& b < 2147483648 := Nat.and_lt_two_pow (n := 31) a (by omega)
  unfold jband
  rw [jn_o, jn_o]
  have h : nI a &&& nI b = nI (a &&& b) := by
    apply Int32.toBitVec_inj.mp
    apply BitVec.eq_of_toNat_eq
    rw [Int32.toBitVec_and, BitVec.toNat_and, pk_tn (by omega), pk_tn (by omega), pk_tn (by omega)]
  rw [h, jn_i hlt]
/-- a mask of low bits, over any number -/
theorem jband_63 (a : Int) : ∃ k : Nat, k < 64 ∧ jband a 63 = (k : Int) := by
  unfold jband
  obtain ⟨j, hj, e⟩ := pk_andE (Int32.ofInt a) (m := Int32.ofInt 63) 6 (by decide)
  exact ⟨j, by omega, by rw [e, jn_i (by omega)]⟩
theorem jshl_n {s : Nat} (h : s < 31) : jshl 1 s = ((2 ^ s : Nat) : Int) := by
  have : ∀ s : Fin 31, jshl 1 ((s : Nat) : Int) = ((2 ^ (s : Nat) : Nat) : Int) := by decide +kernel
  exact this ⟨s, h⟩
theorem jand31 {s : Nat} (h : s < 32) : nI s &&& 31 = nI s := by
  have : ∀ s : Fin 32, nI (s : Nat) &&& 31 = nI (s : Nat) := by decide +kernel
  exact this ⟨s, h⟩
theorem jsmod {s : Nat} (h : s < 32) : ((nI s).toBitVec.smod 32).toNat = s := by
  have : ∀ s : Fin 32, ((nI (s : Nat)).toBitVec.smod 32).toNat = (s : Nat) := by decide +kernel
  exact this ⟨s, h⟩
theorem jshr_n {a s : Nat} (ha : a < 2147483648) (h : s < 32) : jshr a s = ((a >>> s : Nat) : Int) := by
  unfold jshr
  rw [jn_o, jn_o, jand31 h, pk_shrN (by omega) (nI s) s (jsmod h), Nat.shiftRight_eq_div_pow]
  have : a / 2 ^ s ≤ a := Nat.div_le_self _ _
  rw [jn_i (by omega)]
/-- one bit, asked by a shift and a mask -/
theorem jbit {a s : Nat} (ha : a < 2147483648) (h : s < 32) : jband (jshr a s) 1 = if a.testBit s then 1 else 0 := by
  have h1 : a >>> s < 2147483648 := Nat.lt_of_le_of_lt (by rw [Nat.shiftRight_eq_div_pow]; exact Nat.div_le_self _ _) ha
  rw [jshr_n ha h, show (1 : Int) = ((1 : Nat) : Int) from rfl, jband_n h1 (by omega)]
  rw [Nat.testBit_eq_decide_div_mod_eq, Nat.and_one_is_mod, Nat.shiftRight_eq_div_pow]
  by_cases hb : a / 2 ^ s % 2 = 1
  · simp [hb]
  · have : a / 2 ^ s % 2 = 0 := by omega
    simp [this]
theorem tb_or_pow {w s i : Nat} : (w ||| 2 ^ s).testBit i = (w.testBit i || decide (s = i)) := by
  rw [Nat.testBit_or, Nat.testBit_two_pow]
theorem lt_or_pow {w s n : Nat} (hw : w < 2 ^ n) (hs : s < n) : w ||| 2 ^ s < 2 ^ n := Nat.or_lt_two_pow hw (Nat.pow_lt_pow_right (by omega) hs)
