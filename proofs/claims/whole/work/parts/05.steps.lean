/-! ===== one-instruction rows ===== -/
theorem jr_i {a : Int} (h : -2147483648 ≤ a ∧ a < 2147483648) : (Int32.ofInt a).toInt = a := Int32.toInt_ofInt_of_le (by omega) (by omega)
theorem jr_l {a : Int} (h : -9223372036854775808 ≤ a ∧ a < 9223372036854775808) : (Int64.ofInt a).toInt = a := Int64.toInt_ofInt_of_le (by omega) (by omega)
theorem jr_eq {a b : Int} (ha : -2147483648 ≤ a ∧ a < 2147483648) (hb : -2147483648 ≤ b ∧ b < 2147483648) : Int32.ofInt a = Int32.ofInt b ↔ a = b := by
  rw [← Int32.toInt_inj, jr_i ha, jr_i hb]
theorem jr_lt {a b : Int} (ha : -2147483648 ≤ a ∧ a < 2147483648) (hb : -2147483648 ≤ b ∧ b < 2147483648) : Int32.ofInt a < Int32.ofInt b ↔ a < b := by
  rw [Int32.lt_iff_toInt_lt, jr_i ha, jr_i hb]
theorem jr_le {a b : Int} (ha : -2147483648 ≤ a ∧ a < 2147483648) (hb : -2147483648 ≤ b ∧ b < 2147483648) : Int32.ofInt a ≤ Int32.ofInt b ↔ a ≤ b := by
  rw [Int32.le_iff_toInt_le, jr_i ha, jr_i hb]
theorem j0 : -2147483648 ≤ (0 : Int) ∧ (0 : Int) < 2147483648 := by decide
theorem jr_0 : (0 : Int32) = Int32.ofInt 0 := rfl
theorem jr_cl {j : Int} {len : Nat} (h : 0 ≤ j ∧ j < (len : Int)) (hl : len ≤ 1000) : (Int32.ofInt j).toNatClampNeg = j.toNat := by
  rw [Int32.toNatClampNeg_ofInt_of_le (by omega) (by omega)]
theorem jr_in {j : Int} {len : Nat} (h : 0 ≤ j ∧ j < (len : Int)) (hl : len ≤ 1000) : vp_in (Int32.ofInt j) len := by
  rw [vp_in_iff, jr_i (by omega)]
  exact h
def jband (a b : Int) : Int := (Int32.ofInt a &&& Int32.ofInt b).toInt
def jbor (a b : Int) : Int := (Int32.ofInt a ||| Int32.ofInt b).toInt
def jbxor (a b : Int) : Int := (Int32.ofInt a ^^^ Int32.ofInt b).toInt
def jshl (a b : Int) : Int := (Int32.ofInt a <<< (Int32.ofInt b &&& 31)).toInt
def jshr (a b : Int) : Int := (Int32.ofInt a >>> (Int32.ofInt b &&& 31)).toInt
def jushr (a b : Int) : Int := ((Int32.ofInt a).toUInt32 >>> ((Int32.ofInt b).toUInt32 &&& Int32.toUInt32 31)).toInt32.toInt
def ji2b (a : Int) : Int := (Int32.ofInt a).toInt8.toInt32.toInt
def ji2c (a : Int) : Int := ((Int32.ofInt a).toUInt32 % 65536).toInt32.toInt
def jcmp (a b : Int) : Int := (lg_cmp (Int64.ofInt a) (Int64.ofInt b)).toInt
def jprev (L : List (Option jV)) : Nat → Bool
  | 0 => true
  | i + 1 => match L[i]? with
    | some (some (Sum.inr (Sum.inl _))) => false
    | _ => true

theorem jv_cat {X : jX} {v : jV} (h : ∀ a, v ≠ jL a) : (jv X v).category = 1 := by
  match v with
  | Sum.inl a => rfl
  | Sum.inr (Sum.inl a) => exact absurd rfl (h a)
  | Sum.inr (Sum.inr none) => rfl
  | Sum.inr (Sum.inr (some r)) => rfl

section JS
variable {X : jX} {own nm : String} {cc : ByteArray} {nL : Nat} {ret : Option FieldType} {d bc bs pc : Nat} {L : List (Option jV)} {st : List jV} {I : jMI} {R : jMR} {n : Nat} {Q : Option jV → jMI → jMR → Nat → Prop}

theorem j_iconst {z : Int} (hd : decode cc pc = .ok (.iconst z, 1)) (k : J X own nm cc nL ret d bc bs (pc + 1) (L) (jI z :: st) (I) (R) (n) Q) : J X own nm cc nL ret d bc bs (pc) (L) (st) (I) (R) (n) Q := by
  intro p l e RR s m args below meth c H locs cells slots QQ ls C hc hs hH hL hr
  exact lv_iconst C.1 C.2.1 hd rfl (k p l e RR s m args below meth c H locs cells slots QQ ls C hc hs hH hL hr)

theorem j_bipush {z : Int} (hd : decode cc pc = .ok (.bipush z, 2)) (hz : (Int8.ofInt z).toInt32 = Int32.ofInt z) (k : J X own nm cc nL ret d bc bs (pc + 2) (L) (jI z :: st) (I) (R) (n) Q) : J X own nm cc nL ret d bc bs (pc) (L) (st) (I) (R) (n) Q := by
  intro p l e RR s m args below meth c H locs cells slots QQ ls C hc hs hH hL hr
  exact lv_bipush C.1 C.2.1 hd hz (k p l e RR s m args below meth c H locs cells slots QQ ls C hc hs hH hL hr)

theorem j_sipush {z : Int} (hd : decode cc pc = .ok (.sipush z, 3)) (hz : (Int16.ofInt z).toInt32 = Int32.ofInt z) (k : J X own nm cc nL ret d bc bs (pc + 3) (L) (jI z :: st) (I) (R) (n) Q) : J X own nm cc nL ret d bc bs (pc) (L) (st) (I) (R) (n) Q := by
  intro p l e RR s m args below meth c H locs cells slots QQ ls C hc hs hH hL hr
  exact lv_sipush C.1 C.2.1 hd hz (k p l e RR s m args below meth c H locs cells slots QQ ls C hc hs hH hL hr)

theorem j_lconst0 (hd : decode cc pc = .ok (.lconst 0, 1)) (k : J X own nm cc nL ret d bc bs (pc + 1) (L) (jL 0 :: st) (I) (R) (n) Q) : J X own nm cc nL ret d bc bs (pc) (L) (st) (I) (R) (n) Q := by
  intro p l e RR s m args below meth c H locs cells slots QQ ls C hc hs hH hL hr
  exact lv_lconst C.1 C.2.1 hd rfl (k p l e RR s m args below meth c H locs cells slots QQ ls C hc hs hH hL hr)

theorem j_lconst1 (hd : decode cc pc = .ok (.lconst 1, 1)) (k : J X own nm cc nL ret d bc bs (pc + 1) (L) (jL 1 :: st) (I) (R) (n) Q) : J X own nm cc nL ret d bc bs (pc) (L) (st) (I) (R) (n) Q := by
  intro p l e RR s m args below meth c H locs cells slots QQ ls C hc hs hH hL hr
  exact lv_lconst C.1 C.2.1 hd rfl (k p l e RR s m args below meth c H locs cells slots QQ ls C hc hs hH hL hr)

theorem j_iload_n {i : Fin 4} {a : Int} (hd : decode cc pc = .ok (.iload_n i, 1)) (hl : L[(i : Nat)]? = some (some (jI a))) (k : J X own nm cc nL ret d bc bs (pc + 1) (L) (jI a :: st) (I) (R) (n) Q) : J X own nm cc nL ret d bc bs (pc) (L) (st) (I) (R) (n) Q := by
  intro p l e RR s m args below meth c H locs cells slots QQ ls C hc hs hH hL hr
  exact lv_iload_n C.1 C.2.1 hd rfl (hL.2.2 _ _ hl) (k p l e RR s m args below meth c H locs cells slots QQ ls C hc hs hH hL hr)

theorem j_iload {i : Nat} {a : Int} (hd : decode cc pc = .ok (.iload i, 2)) (hl : L[i]? = some (some (jI a))) (k : J X own nm cc nL ret d bc bs (pc + 2) (L) (jI a :: st) (I) (R) (n) Q) : J X own nm cc nL ret d bc bs (pc) (L) (st) (I) (R) (n) Q := by
  intro p l e RR s m args below meth c H locs cells slots QQ ls C hc hs hH hL hr
  exact lv_iload C.1 C.2.1 hd (hL.2.2 _ _ hl) (k p l e RR s m args below meth c H locs cells slots QQ ls C hc hs hH hL hr)

theorem j_lload_n {i : Fin 4} {a : Int} (hd : decode cc pc = .ok (.lload_n i, 1)) (hl : L[(i : Nat)]? = some (some (jL a))) (k : J X own nm cc nL ret d bc bs (pc + 1) (L) (jL a :: st) (I) (R) (n) Q) : J X own nm cc nL ret d bc bs (pc) (L) (st) (I) (R) (n) Q := by
  intro p l e RR s m args below meth c H locs cells slots QQ ls C hc hs hH hL hr
  exact lv_lload_n C.1 C.2.1 hd rfl (hL.2.2 _ _ hl) (k p l e RR s m args below meth c H locs cells slots QQ ls C hc hs hH hL hr)

theorem j_lload {i : Nat} {a : Int} (hd : decode cc pc = .ok (.lload i, 2)) (hl : L[i]? = some (some (jL a))) (k : J X own nm cc nL ret d bc bs (pc + 2) (L) (jL a :: st) (I) (R) (n) Q) : J X own nm cc nL ret d bc bs (pc) (L) (st) (I) (R) (n) Q := by
  intro p l e RR s m args below meth c H locs cells slots QQ ls C hc hs hH hL hr
  exact lv_lload C.1 C.2.1 hd (hL.2.2 _ _ hl) (k p l e RR s m args below meth c H locs cells slots QQ ls C hc hs hH hL hr)

theorem j_aload_n {i : Fin 4} {a : Nat} (hd : decode cc pc = .ok (.aload_n i, 1)) (hl : L[(i : Nat)]? = some (some (jR a))) (k : J X own nm cc nL ret d bc bs (pc + 1) (L) (jR a :: st) (I) (R) (n) Q) : J X own nm cc nL ret d bc bs (pc) (L) (st) (I) (R) (n) Q := by
  intro p l e RR s m args below meth c H locs cells slots QQ ls C hc hs hH hL hr
  exact lv_aload_n C.1 C.2.1 hd rfl (hL.2.2 _ _ hl) (k p l e RR s m args below meth c H locs cells slots QQ ls C hc hs hH hL hr)

theorem j_aload {i : Nat} {a : Nat} (hd : decode cc pc = .ok (.aload i, 2)) (hl : L[i]? = some (some (jR a))) (k : J X own nm cc nL ret d bc bs (pc + 2) (L) (jR a :: st) (I) (R) (n) Q) : J X own nm cc nL ret d bc bs (pc) (L) (st) (I) (R) (n) Q := by
  intro p l e RR s m args below meth c H locs cells slots QQ ls C hc hs hH hL hr
  exact lv_aload C.1 C.2.1 hd (hL.2.2 _ _ hl) (k p l e RR s m args below meth c H locs cells slots QQ ls C hc hs hH hL hr)

theorem j_iadd {a b : Int} (hd : decode cc pc = .ok (.iadd, 1)) (k : J X own nm cc nL ret d bc bs (pc + 1) (L) (jI (a + b) :: st) (I) (R) (n) Q) : J X own nm cc nL ret d bc bs (pc) (L) (jI b :: jI a :: st) (I) (R) (n) Q := by
  intro p l e RR s m args below meth c H locs cells slots QQ ls C hc hs hH hL hr
  refine lv_iadd C.1 C.2.1 hd ?_
  rw [← Int32.ofInt_add]
  exact k p l e RR s m args below meth c H locs cells slots QQ ls C hc hs hH hL hr

theorem j_isub {a b : Int} (hd : decode cc pc = .ok (.isub, 1)) (k : J X own nm cc nL ret d bc bs (pc + 1) (L) (jI (a - b) :: st) (I) (R) (n) Q) : J X own nm cc nL ret d bc bs (pc) (L) (jI b :: jI a :: st) (I) (R) (n) Q := by
  intro p l e RR s m args below meth c H locs cells slots QQ ls C hc hs hH hL hr
  refine lv_isub C.1 C.2.1 hd ?_
  rw [← Int32.ofInt_sub]
  exact k p l e RR s m args below meth c H locs cells slots QQ ls C hc hs hH hL hr

theorem j_imul {a b : Int} (hd : decode cc pc = .ok (.imul, 1)) (k : J X own nm cc nL ret d bc bs (pc + 1) (L) (jI (a * b) :: st) (I) (R) (n) Q) : J X own nm cc nL ret d bc bs (pc) (L) (jI b :: jI a :: st) (I) (R) (n) Q := by
  intro p l e RR s m args below meth c H locs cells slots QQ ls C hc hs hH hL hr
  refine lv_imul C.1 C.2.1 hd ?_
  rw [← Int32.ofInt_mul]
  exact k p l e RR s m args below meth c H locs cells slots QQ ls C hc hs hH hL hr

theorem j_ladd {a b : Int} (hd : decode cc pc = .ok (.ladd, 1)) (k : J X own nm cc nL ret d bc bs (pc + 1) (L) (jL (a + b) :: st) (I) (R) (n) Q) : J X own nm cc nL ret d bc bs (pc) (L) (jL b :: jL a :: st) (I) (R) (n) Q := by
  intro p l e RR s m args below meth c H locs cells slots QQ ls C hc hs hH hL hr
  refine lv_ladd C.1 C.2.1 hd ?_
  rw [← Int64.ofInt_add]
  exact k p l e RR s m args below meth c H locs cells slots QQ ls C hc hs hH hL hr

theorem j_lsub {a b : Int} (hd : decode cc pc = .ok (.lsub, 1)) (k : J X own nm cc nL ret d bc bs (pc + 1) (L) (jL (a - b) :: st) (I) (R) (n) Q) : J X own nm cc nL ret d bc bs (pc) (L) (jL b :: jL a :: st) (I) (R) (n) Q := by
  intro p l e RR s m args below meth c H locs cells slots QQ ls C hc hs hH hL hr
  refine lv_lsub C.1 C.2.1 hd ?_
  rw [← Int64.ofInt_sub]
  exact k p l e RR s m args below meth c H locs cells slots QQ ls C hc hs hH hL hr

theorem j_lmul {a b : Int} (hd : decode cc pc = .ok (.lmul, 1)) (k : J X own nm cc nL ret d bc bs (pc + 1) (L) (jL (a * b) :: st) (I) (R) (n) Q) : J X own nm cc nL ret d bc bs (pc) (L) (jL b :: jL a :: st) (I) (R) (n) Q := by
  intro p l e RR s m args below meth c H locs cells slots QQ ls C hc hs hH hL hr
  refine lv_lmul C.1 C.2.1 hd ?_
  rw [← Int64.ofInt_mul]
  exact k p l e RR s m args below meth c H locs cells slots QQ ls C hc hs hH hL hr

theorem j_iand {a b : Int} (hd : decode cc pc = .ok (.iand, 1)) (k : J X own nm cc nL ret d bc bs (pc + 1) (L) (jI (jband a b) :: st) (I) (R) (n) Q) : J X own nm cc nL ret d bc bs (pc) (L) (jI b :: jI a :: st) (I) (R) (n) Q := by
  intro p l e RR s m args below meth c H locs cells slots QQ ls C hc hs hH hL hr
  refine lv_iand C.1 C.2.1 hd ?_
  have k2 := k p l e RR s m args below meth c H locs cells slots QQ ls C hc hs hH hL hr
  simp only [List.map_cons, jv, jband, Int32.ofInt_toInt] at k2
  exact k2

theorem j_ior {a b : Int} (hd : decode cc pc = .ok (.ior, 1)) (k : J X own nm cc nL ret d bc bs (pc + 1) (L) (jI (jbor a b) :: st) (I) (R) (n) Q) : J X own nm cc nL ret d bc bs (pc) (L) (jI b :: jI a :: st) (I) (R) (n) Q := by
  intro p l e RR s m args below meth c H locs cells slots QQ ls C hc hs hH hL hr
  refine lv_ior C.1 C.2.1 hd ?_
  have k2 := k p l e RR s m args below meth c H locs cells slots QQ ls C hc hs hH hL hr
  simp only [List.map_cons, jv, jbor, Int32.ofInt_toInt] at k2
  exact k2

theorem j_ixor {a b : Int} (hd : decode cc pc = .ok (.ixor, 1)) (k : J X own nm cc nL ret d bc bs (pc + 1) (L) (jI (jbxor a b) :: st) (I) (R) (n) Q) : J X own nm cc nL ret d bc bs (pc) (L) (jI b :: jI a :: st) (I) (R) (n) Q := by
  intro p l e RR s m args below meth c H locs cells slots QQ ls C hc hs hH hL hr
  refine lv_ixor C.1 C.2.1 hd ?_
  have k2 := k p l e RR s m args below meth c H locs cells slots QQ ls C hc hs hH hL hr
  simp only [List.map_cons, jv, jbxor, Int32.ofInt_toInt] at k2
  exact k2

theorem j_ishl {a b : Int} (hd : decode cc pc = .ok (.ishl, 1)) (k : J X own nm cc nL ret d bc bs (pc + 1) (L) (jI (jshl a b) :: st) (I) (R) (n) Q) : J X own nm cc nL ret d bc bs (pc) (L) (jI b :: jI a :: st) (I) (R) (n) Q := by
  intro p l e RR s m args below meth c H locs cells slots QQ ls C hc hs hH hL hr
  refine lv_ishl C.1 C.2.1 hd ?_
  have k2 := k p l e RR s m args below meth c H locs cells slots QQ ls C hc hs hH hL hr
  simp only [List.map_cons, jv, jshl, Int32.ofInt_toInt] at k2
  exact k2

theorem j_ishr {a b : Int} (hd : decode cc pc = .ok (.ishr, 1)) (k : J X own nm cc nL ret d bc bs (pc + 1) (L) (jI (jshr a b) :: st) (I) (R) (n) Q) : J X own nm cc nL ret d bc bs (pc) (L) (jI b :: jI a :: st) (I) (R) (n) Q := by
  intro p l e RR s m args below meth c H locs cells slots QQ ls C hc hs hH hL hr
  refine lv_ishr C.1 C.2.1 hd ?_
  have k2 := k p l e RR s m args below meth c H locs cells slots QQ ls C hc hs hH hL hr
  simp only [List.map_cons, jv, jshr, Int32.ofInt_toInt] at k2
  exact k2

theorem j_iushr {a b : Int} (hd : decode cc pc = .ok (.iushr, 1)) (k : J X own nm cc nL ret d bc bs (pc + 1) (L) (jI (jushr a b) :: st) (I) (R) (n) Q) : J X own nm cc nL ret d bc bs (pc) (L) (jI b :: jI a :: st) (I) (R) (n) Q := by
  intro p l e RR s m args below meth c H locs cells slots QQ ls C hc hs hH hL hr
  refine lv_iushr C.1 C.2.1 hd rfl ?_
  have k2 := k p l e RR s m args below meth c H locs cells slots QQ ls C hc hs hH hL hr
  simp only [List.map_cons, jv, jushr, Int32.ofInt_toInt] at k2
  exact k2

theorem j_i2b {a : Int} (hd : decode cc pc = .ok (.i2b, 1)) (k : J X own nm cc nL ret d bc bs (pc + 1) (L) (jI (ji2b a) :: st) (I) (R) (n) Q) : J X own nm cc nL ret d bc bs (pc) (L) (jI a :: st) (I) (R) (n) Q := by
  intro p l e RR s m args below meth c H locs cells slots QQ ls C hc hs hH hL hr
  refine lv_i2b C.1 C.2.1 hd rfl ?_
  have k2 := k p l e RR s m args below meth c H locs cells slots QQ ls C hc hs hH hL hr
  simp only [List.map_cons, jv, ji2b, Int32.ofInt_toInt] at k2
  exact k2

theorem j_i2c {a : Int} (hd : decode cc pc = .ok (.i2c, 1)) (k : J X own nm cc nL ret d bc bs (pc + 1) (L) (jI (ji2c a) :: st) (I) (R) (n) Q) : J X own nm cc nL ret d bc bs (pc) (L) (jI a :: st) (I) (R) (n) Q := by
  intro p l e RR s m args below meth c H locs cells slots QQ ls C hc hs hH hL hr
  refine lv_i2c C.1 C.2.1 hd rfl ?_
  have k2 := k p l e RR s m args below meth c H locs cells slots QQ ls C hc hs hH hL hr
  simp only [List.map_cons, jv, ji2c, Int32.ofInt_toInt] at k2
  exact k2

theorem j_lcmp {a b : Int} (hd : decode cc pc = .ok (.lcmp, 1)) (k : J X own nm cc nL ret d bc bs (pc + 1) (L) (jI (jcmp a b) :: st) (I) (R) (n) Q) : J X own nm cc nL ret d bc bs (pc) (L) (jL b :: jL a :: st) (I) (R) (n) Q := by
  intro p l e RR s m args below meth c H locs cells slots QQ ls C hc hs hH hL hr
  refine W.lcmp C.1 C.2.1 hd ?_
  have k2 := k p l e RR s m args below meth c H locs cells slots QQ ls C hc hs hH hL hr
  simp only [List.map_cons, jv, jcmp, Int32.ofInt_toInt] at k2
  exact k2

theorem j_i2l {a : Int} (hd : decode cc pc = .ok (.i2l, 1)) (ha : -2147483648 ≤ a ∧ a < 2147483648) (k : J X own nm cc nL ret d bc bs (pc + 1) (L) (jL a :: st) (I) (R) (n) Q) : J X own nm cc nL ret d bc bs (pc) (L) (jI a :: st) (I) (R) (n) Q := by
  intro p l e RR s m args below meth c H locs cells slots QQ ls C hc hs hH hL hr
  refine lv_i2l C.1 C.2.1 hd (v := Int64.ofInt a) ?_ ?_
  · rw [← Int64.toInt_inj, Int32.toInt_toInt64, jr_i ha, jr_l (by omega)]
  exact k p l e RR s m args below meth c H locs cells slots QQ ls C hc hs hH hL hr

theorem j_l2i {a : Int} (hd : decode cc pc = .ok (.l2i, 1)) (k : J X own nm cc nL ret d bc bs (pc + 1) (L) (jI a :: st) (I) (R) (n) Q) : J X own nm cc nL ret d bc bs (pc) (L) (jL a :: st) (I) (R) (n) Q := by
  intro p l e RR s m args below meth c H locs cells slots QQ ls C hc hs hH hL hr
  refine lv_l2i C.1 C.2.1 hd (v := Int32.ofInt a) Int64.toInt32_ofInt ?_
  exact k p l e RR s m args below meth c H locs cells slots QQ ls C hc hs hH hL hr

theorem j_idiv {a b : Int} (hd : decode cc pc = .ok (.idiv, 1)) (ha : 0 ≤ a ∧ a < 2147483648) (hb : 0 < b ∧ b < 2147483648) (k : J X own nm cc nL ret d bc bs (pc + 1) (L) (jI (a / b) :: st) (I) (R) (n) Q) : J X own nm cc nL ret d bc bs (pc) (L) (jI b :: jI a :: st) (I) (R) (n) Q := by
  intro p l e RR s m args below meth c H locs cells slots QQ ls C hc hs hH hL hr
  refine lv_idiv C.1 C.2.1 hd ?_ ?_
  · rw [jr_0, jr_eq (by omega) (by omega)]
    omega
  have hq : 0 ≤ a / b ∧ a / b < 2147483648 := ⟨Int.ediv_nonneg ha.1 (by omega), Int.lt_of_le_of_lt (Int.ediv_le_self b ha.1) ha.2⟩
  have e1 : Int32.ofInt a / Int32.ofInt b = Int32.ofInt (a / b) := by
    rw [← Int32.toInt_inj, Int32.toInt_div, jr_i (by omega), jr_i (by omega), jr_i (by omega), Int.tdiv_eq_ediv_of_nonneg ha.1]
    exact Int.bmod_eq_of_le (by omega) (by omega)
  rw [e1]
  exact k p l e RR s m args below meth c H locs cells slots QQ ls C hc hs hH hL hr

theorem j_irem {a b : Int} (hd : decode cc pc = .ok (.irem, 1)) (ha : 0 ≤ a ∧ a < 2147483648) (hb : 0 < b ∧ b < 2147483648) (k : J X own nm cc nL ret d bc bs (pc + 1) (L) (jI (a % b) :: st) (I) (R) (n) Q) : J X own nm cc nL ret d bc bs (pc) (L) (jI b :: jI a :: st) (I) (R) (n) Q := by
  intro p l e RR s m args below meth c H locs cells slots QQ ls C hc hs hH hL hr
  refine lv_irem C.1 C.2.1 hd ?_ ?_
  · rw [jr_0, jr_eq (by omega) (by omega)]
    omega
  have hq : 0 ≤ a / b ∧ a / b < 2147483648 := ⟨Int.ediv_nonneg ha.1 (by omega), Int.lt_of_le_of_lt (Int.ediv_le_self b ha.1) ha.2⟩
  have e1 : Int32.ofInt a / Int32.ofInt b = Int32.ofInt (a / b) := by
    rw [← Int32.toInt_inj, Int32.toInt_div, jr_i (by omega), jr_i (by omega), jr_i (by omega), Int.tdiv_eq_ediv_of_nonneg ha.1]
    exact Int.bmod_eq_of_le (by omega) (by omega)
  rw [e1, ← Int32.ofInt_mul, ← Int32.ofInt_sub, show a - a / b * b = a % b by rw [Int.emod_def, Int.mul_comm]]
  exact k p l e RR s m args below meth c H locs cells slots QQ ls C hc hs hH hL hr

theorem j_ldiv {a b : Int} (hd : decode cc pc = .ok (.ldiv, 1)) (ha : 0 ≤ a ∧ a < 9223372036854775808) (hb : 0 < b ∧ b < 9223372036854775808) (k : J X own nm cc nL ret d bc bs (pc + 1) (L) (jL (a / b) :: st) (I) (R) (n) Q) : J X own nm cc nL ret d bc bs (pc) (L) (jL b :: jL a :: st) (I) (R) (n) Q := by
  intro p l e RR s m args below meth c H locs cells slots QQ ls C hc hs hH hL hr
  have hz : ¬ Int64.ofInt b = 0 := by
    rw [show (0 : Int64) = Int64.ofInt 0 from rfl, ← Int64.toInt_inj, jr_l (by omega), jr_l (by omega)]
    omega
  refine lv_ldiv C.1 C.2.1 hd hz ?_
  have hq : 0 ≤ a / b ∧ a / b < 9223372036854775808 := ⟨Int.ediv_nonneg ha.1 (by omega), Int.lt_of_le_of_lt (Int.ediv_le_self b ha.1) ha.2⟩
  have e1 : Int64.ofInt a / Int64.ofInt b = Int64.ofInt (a / b) := by
    rw [← Int64.toInt_inj, Int64.toInt_div, jr_l (by omega), jr_l (by omega), jr_l (by omega), Int.tdiv_eq_ediv_of_nonneg ha.1]
    exact Int.bmod_eq_of_le (by omega) (by omega)
  rw [e1]
  exact k p l e RR s m args below meth c H locs cells slots QQ ls C hc hs hH hL hr

theorem j_lrem {a b : Int} (hd : decode cc pc = .ok (.lrem, 1)) (ha : 0 ≤ a ∧ a < 9223372036854775808) (hb : 0 < b ∧ b < 9223372036854775808) (k : J X own nm cc nL ret d bc bs (pc + 1) (L) (jL (a % b) :: st) (I) (R) (n) Q) : J X own nm cc nL ret d bc bs (pc) (L) (jL b :: jL a :: st) (I) (R) (n) Q := by
  intro p l e RR s m args below meth c H locs cells slots QQ ls C hc hs hH hL hr
  have hz : ¬ Int64.ofInt b = 0 := by
    rw [show (0 : Int64) = Int64.ofInt 0 from rfl, ← Int64.toInt_inj, jr_l (by omega), jr_l (by omega)]
    omega
  refine lv_lrem C.1 C.2.1 hd hz ?_
  have hq : 0 ≤ a / b ∧ a / b < 9223372036854775808 := ⟨Int.ediv_nonneg ha.1 (by omega), Int.lt_of_le_of_lt (Int.ediv_le_self b ha.1) ha.2⟩
  have e1 : Int64.ofInt a / Int64.ofInt b = Int64.ofInt (a / b) := by
    rw [← Int64.toInt_inj, Int64.toInt_div, jr_l (by omega), jr_l (by omega), jr_l (by omega), Int.tdiv_eq_ediv_of_nonneg ha.1]
    exact Int.bmod_eq_of_le (by omega) (by omega)
  rw [e1, ← Int64.ofInt_mul, ← Int64.ofInt_sub, show a - a / b * b = a % b by rw [Int.emod_def, Int.mul_comm]]
  exact k p l e RR s m args below meth c H locs cells slots QQ ls C hc hs hH hL hr

theorem j_dupR {r : Nat} (hd : decode cc pc = .ok (.dup, 1)) (k : J X own nm cc nL ret d bc bs (pc + 1) (L) (jR r :: jR r :: st) (I) (R) (n) Q) : J X own nm cc nL ret d bc bs (pc) (L) (jR r :: st) (I) (R) (n) Q := by
  intro p l e RR s m args below meth c H locs cells slots QQ ls C hc hs hH hL hr
  exact lv_dup C.1 C.2.1 hd rfl (k p l e RR s m args below meth c H locs cells slots QQ ls C hc hs hH hL hr)

theorem j_dupI {a : Int} (hd : decode cc pc = .ok (.dup, 1)) (k : J X own nm cc nL ret d bc bs (pc + 1) (L) (jI a :: jI a :: st) (I) (R) (n) Q) : J X own nm cc nL ret d bc bs (pc) (L) (jI a :: st) (I) (R) (n) Q := by
  intro p l e RR s m args below meth c H locs cells slots QQ ls C hc hs hH hL hr
  exact lv_dup C.1 C.2.1 hd rfl (k p l e RR s m args below meth c H locs cells slots QQ ls C hc hs hH hL hr)

theorem j_pop {a : Int} (hd : decode cc pc = .ok (.pop, 1)) (k : J X own nm cc nL ret d bc bs (pc + 1) (L) (st) (I) (R) (n) Q) : J X own nm cc nL ret d bc bs (pc) (L) (jI a :: st) (I) (R) (n) Q := by
  intro p l e RR s m args below meth c H locs cells slots QQ ls C hc hs hH hL hr
  exact lv_pop C.1 C.2.1 hd rfl (k p l e RR s m args below meth c H locs cells slots QQ ls C hc hs hH hL hr)

theorem j_dup2 {r : Nat} {a : Int} (hd : decode cc pc = .ok (.dup2, 1)) (k : J X own nm cc nL ret d bc bs (pc + 1) (L) (jI a :: jR r :: jI a :: jR r :: st) (I) (R) (n) Q) : J X own nm cc nL ret d bc bs (pc) (L) (jI a :: jR r :: st) (I) (R) (n) Q := by
  intro p l e RR s m args below meth c H locs cells slots QQ ls C hc hs hH hL hr
  exact lv_dup2_11 C.1 C.2.1 hd rfl rfl (k p l e RR s m args below meth c H locs cells slots QQ ls C hc hs hH hL hr)

theorem j_dup2L {a : Int} (hd : decode cc pc = .ok (.dup2, 1)) (k : J X own nm cc nL ret d bc bs (pc + 1) (L) (jL a :: jL a :: st) (I) (R) (n) Q) : J X own nm cc nL ret d bc bs (pc) (L) (jL a :: st) (I) (R) (n) Q := by
  intro p l e RR s m args below meth c H locs cells slots QQ ls C hc hs hH hL hr
  exact lv_dup2_2 C.1 C.2.1 hd rfl (k p l e RR s m args below meth c H locs cells slots QQ ls C hc hs hH hL hr)

theorem j_dup_x1 {r : Nat} {a : Int} (hd : decode cc pc = .ok (.dup_x1, 1)) (k : J X own nm cc nL ret d bc bs (pc + 1) (L) (jI a :: jR r :: jI a :: st) (I) (R) (n) Q) : J X own nm cc nL ret d bc bs (pc) (L) (jI a :: jR r :: st) (I) (R) (n) Q := by
  intro p l e RR s m args below meth c H locs cells slots QQ ls C hc hs hH hL hr
  exact lv_dup_x1 C.1 C.2.1 hd rfl rfl (k p l e RR s m args below meth c H locs cells slots QQ ls C hc hs hH hL hr)

theorem j_goto {off : Int} (tgt : Nat) (hd : decode cc pc = .ok (.goto off, 3)) (ht : (pc : Int) + off = (tgt : Int)) (k : J X own nm cc nL ret d bc bs (tgt) (L) (st) (I) (R) (n) Q) : J X own nm cc nL ret d bc bs (pc) (L) (st) (I) (R) (n) Q := by
  intro p l e RR s m args below meth c H locs cells slots QQ ls C hc hs hH hL hr
  exact lv_goto C.1 C.2.1 hd ht (k p l e RR s m args below meth c H locs cells slots QQ ls C hc hs hH hL hr)

theorem j_icmp_eq {a b : Int} {off : Int} (tgt : Nat) (hd : decode cc pc = .ok (.if_icmp .eq off, 3)) (ht : (pc : Int) + off = (tgt : Int)) (ha : -2147483648 ≤ a ∧ a < 2147483648) (hb : -2147483648 ≤ b ∧ b < 2147483648) (kt : a = b → J X own nm cc nL ret d bc bs (tgt) (L) (st) (I) (R) (n) Q) (kf : ¬ a = b → J X own nm cc nL ret d bc bs (pc + 3) (L) (st) (I) (R) (n) Q) : J X own nm cc nL ret d bc bs (pc) (L) (jI b :: jI a :: st) (I) (R) (n) Q := by
  intro p l e RR s m args below meth c H locs cells slots QQ ls C hc hs hH hL hr
  refine lv_icmp_eq C.1 C.2.1 hd ht (fun q => ?_) (fun q => ?_)
  · exact kt (by first | exact (jr_eq ha hb).mp q | exact (jr_lt ha hb).mp q | exact (jr_le ha hb).mp q | exact (jr_lt hb ha).mp q | exact (jr_le hb ha).mp q | exact fun z => q ((jr_eq ha hb).mpr z) | exact Int.not_lt.mp (fun z => q ((jr_lt ha hb).mpr z)) | exact Int.not_le.mp (fun z => q ((jr_le ha hb).mpr z)) | exact Int.not_lt.mp (fun z => q ((jr_lt hb ha).mpr z)) | exact Int.not_le.mp (fun z => q ((jr_le hb ha).mpr z))) p l e RR s m args below meth c H locs cells slots QQ ls C hc hs hH hL hr
  · exact kf (by first | exact (jr_eq ha hb).mp q | exact (jr_lt ha hb).mp q | exact (jr_le ha hb).mp q | exact (jr_lt hb ha).mp q | exact (jr_le hb ha).mp q | exact fun z => q ((jr_eq ha hb).mpr z) | exact Int.not_lt.mp (fun z => q ((jr_lt ha hb).mpr z)) | exact Int.not_le.mp (fun z => q ((jr_le ha hb).mpr z)) | exact Int.not_lt.mp (fun z => q ((jr_lt hb ha).mpr z)) | exact Int.not_le.mp (fun z => q ((jr_le hb ha).mpr z))) p l e RR s m args below meth c H locs cells slots QQ ls C hc hs hH hL hr

theorem j_if_eq {a : Int} {off : Int} (tgt : Nat) (hd : decode cc pc = .ok (.ifCond .eq off, 3)) (ht : (pc : Int) + off = (tgt : Int)) (ha : -2147483648 ≤ a ∧ a < 2147483648) (kt : a = 0 → J X own nm cc nL ret d bc bs (tgt) (L) (st) (I) (R) (n) Q) (kf : ¬ a = 0 → J X own nm cc nL ret d bc bs (pc + 3) (L) (st) (I) (R) (n) Q) : J X own nm cc nL ret d bc bs (pc) (L) (jI a :: st) (I) (R) (n) Q := by
  intro p l e RR s m args below meth c H locs cells slots QQ ls C hc hs hH hL hr
  refine lv_if_eq C.1 C.2.1 hd ht (fun q => ?_) (fun q => ?_)
  · exact kt (by first | exact (jr_eq ha j0).mp q | exact (jr_lt ha j0).mp q | exact (jr_le ha j0).mp q | exact (jr_lt j0 ha).mp q | exact (jr_le j0 ha).mp q | exact fun z => q ((jr_eq ha j0).mpr z) | exact Int.not_lt.mp (fun z => q ((jr_lt ha j0).mpr z)) | exact Int.not_le.mp (fun z => q ((jr_le ha j0).mpr z)) | exact Int.not_lt.mp (fun z => q ((jr_lt j0 ha).mpr z)) | exact Int.not_le.mp (fun z => q ((jr_le j0 ha).mpr z))) p l e RR s m args below meth c H locs cells slots QQ ls C hc hs hH hL hr
  · exact kf (by first | exact (jr_eq ha j0).mp q | exact (jr_lt ha j0).mp q | exact (jr_le ha j0).mp q | exact (jr_lt j0 ha).mp q | exact (jr_le j0 ha).mp q | exact fun z => q ((jr_eq ha j0).mpr z) | exact Int.not_lt.mp (fun z => q ((jr_lt ha j0).mpr z)) | exact Int.not_le.mp (fun z => q ((jr_le ha j0).mpr z)) | exact Int.not_lt.mp (fun z => q ((jr_lt j0 ha).mpr z)) | exact Int.not_le.mp (fun z => q ((jr_le j0 ha).mpr z))) p l e RR s m args below meth c H locs cells slots QQ ls C hc hs hH hL hr

theorem j_icmp_ne {a b : Int} {off : Int} (tgt : Nat) (hd : decode cc pc = .ok (.if_icmp .ne off, 3)) (ht : (pc : Int) + off = (tgt : Int)) (ha : -2147483648 ≤ a ∧ a < 2147483648) (hb : -2147483648 ≤ b ∧ b < 2147483648) (kt : ¬ a = b → J X own nm cc nL ret d bc bs (tgt) (L) (st) (I) (R) (n) Q) (kf : a = b → J X own nm cc nL ret d bc bs (pc + 3) (L) (st) (I) (R) (n) Q) : J X own nm cc nL ret d bc bs (pc) (L) (jI b :: jI a :: st) (I) (R) (n) Q := by
  intro p l e RR s m args below meth c H locs cells slots QQ ls C hc hs hH hL hr
  refine lv_icmp_ne C.1 C.2.1 hd ht (fun q => ?_) (fun q => ?_)
  · exact kt (by first | exact (jr_eq ha hb).mp q | exact (jr_lt ha hb).mp q | exact (jr_le ha hb).mp q | exact (jr_lt hb ha).mp q | exact (jr_le hb ha).mp q | exact fun z => q ((jr_eq ha hb).mpr z) | exact Int.not_lt.mp (fun z => q ((jr_lt ha hb).mpr z)) | exact Int.not_le.mp (fun z => q ((jr_le ha hb).mpr z)) | exact Int.not_lt.mp (fun z => q ((jr_lt hb ha).mpr z)) | exact Int.not_le.mp (fun z => q ((jr_le hb ha).mpr z))) p l e RR s m args below meth c H locs cells slots QQ ls C hc hs hH hL hr
  · exact kf (by first | exact (jr_eq ha hb).mp q | exact (jr_lt ha hb).mp q | exact (jr_le ha hb).mp q | exact (jr_lt hb ha).mp q | exact (jr_le hb ha).mp q | exact fun z => q ((jr_eq ha hb).mpr z) | exact Int.not_lt.mp (fun z => q ((jr_lt ha hb).mpr z)) | exact Int.not_le.mp (fun z => q ((jr_le ha hb).mpr z)) | exact Int.not_lt.mp (fun z => q ((jr_lt hb ha).mpr z)) | exact Int.not_le.mp (fun z => q ((jr_le hb ha).mpr z))) p l e RR s m args below meth c H locs cells slots QQ ls C hc hs hH hL hr

theorem j_if_ne {a : Int} {off : Int} (tgt : Nat) (hd : decode cc pc = .ok (.ifCond .ne off, 3)) (ht : (pc : Int) + off = (tgt : Int)) (ha : -2147483648 ≤ a ∧ a < 2147483648) (kt : ¬ a = 0 → J X own nm cc nL ret d bc bs (tgt) (L) (st) (I) (R) (n) Q) (kf : a = 0 → J X own nm cc nL ret d bc bs (pc + 3) (L) (st) (I) (R) (n) Q) : J X own nm cc nL ret d bc bs (pc) (L) (jI a :: st) (I) (R) (n) Q := by
  intro p l e RR s m args below meth c H locs cells slots QQ ls C hc hs hH hL hr
  refine lv_if_ne C.1 C.2.1 hd ht (fun q => ?_) (fun q => ?_)
  · exact kt (by first | exact (jr_eq ha j0).mp q | exact (jr_lt ha j0).mp q | exact (jr_le ha j0).mp q | exact (jr_lt j0 ha).mp q | exact (jr_le j0 ha).mp q | exact fun z => q ((jr_eq ha j0).mpr z) | exact Int.not_lt.mp (fun z => q ((jr_lt ha j0).mpr z)) | exact Int.not_le.mp (fun z => q ((jr_le ha j0).mpr z)) | exact Int.not_lt.mp (fun z => q ((jr_lt j0 ha).mpr z)) | exact Int.not_le.mp (fun z => q ((jr_le j0 ha).mpr z))) p l e RR s m args below meth c H locs cells slots QQ ls C hc hs hH hL hr
  · exact kf (by first | exact (jr_eq ha j0).mp q | exact (jr_lt ha j0).mp q | exact (jr_le ha j0).mp q | exact (jr_lt j0 ha).mp q | exact (jr_le j0 ha).mp q | exact fun z => q ((jr_eq ha j0).mpr z) | exact Int.not_lt.mp (fun z => q ((jr_lt ha j0).mpr z)) | exact Int.not_le.mp (fun z => q ((jr_le ha j0).mpr z)) | exact Int.not_lt.mp (fun z => q ((jr_lt j0 ha).mpr z)) | exact Int.not_le.mp (fun z => q ((jr_le j0 ha).mpr z))) p l e RR s m args below meth c H locs cells slots QQ ls C hc hs hH hL hr

theorem j_icmp_lt {a b : Int} {off : Int} (tgt : Nat) (hd : decode cc pc = .ok (.if_icmp .lt off, 3)) (ht : (pc : Int) + off = (tgt : Int)) (ha : -2147483648 ≤ a ∧ a < 2147483648) (hb : -2147483648 ≤ b ∧ b < 2147483648) (kt : a < b → J X own nm cc nL ret d bc bs (tgt) (L) (st) (I) (R) (n) Q) (kf : b ≤ a → J X own nm cc nL ret d bc bs (pc + 3) (L) (st) (I) (R) (n) Q) : J X own nm cc nL ret d bc bs (pc) (L) (jI b :: jI a :: st) (I) (R) (n) Q := by
  intro p l e RR s m args below meth c H locs cells slots QQ ls C hc hs hH hL hr
  refine lv_icmp_lt C.1 C.2.1 hd ht (fun q => ?_) (fun q => ?_)
  · exact kt (by first | exact (jr_eq ha hb).mp q | exact (jr_lt ha hb).mp q | exact (jr_le ha hb).mp q | exact (jr_lt hb ha).mp q | exact (jr_le hb ha).mp q | exact fun z => q ((jr_eq ha hb).mpr z) | exact Int.not_lt.mp (fun z => q ((jr_lt ha hb).mpr z)) | exact Int.not_le.mp (fun z => q ((jr_le ha hb).mpr z)) | exact Int.not_lt.mp (fun z => q ((jr_lt hb ha).mpr z)) | exact Int.not_le.mp (fun z => q ((jr_le hb ha).mpr z))) p l e RR s m args below meth c H locs cells slots QQ ls C hc hs hH hL hr
  · exact kf (by first | exact (jr_eq ha hb).mp q | exact (jr_lt ha hb).mp q | exact (jr_le ha hb).mp q | exact (jr_lt hb ha).mp q | exact (jr_le hb ha).mp q | exact fun z => q ((jr_eq ha hb).mpr z) | exact Int.not_lt.mp (fun z => q ((jr_lt ha hb).mpr z)) | exact Int.not_le.mp (fun z => q ((jr_le ha hb).mpr z)) | exact Int.not_lt.mp (fun z => q ((jr_lt hb ha).mpr z)) | exact Int.not_le.mp (fun z => q ((jr_le hb ha).mpr z))) p l e RR s m args below meth c H locs cells slots QQ ls C hc hs hH hL hr

theorem j_if_lt {a : Int} {off : Int} (tgt : Nat) (hd : decode cc pc = .ok (.ifCond .lt off, 3)) (ht : (pc : Int) + off = (tgt : Int)) (ha : -2147483648 ≤ a ∧ a < 2147483648) (kt : a < 0 → J X own nm cc nL ret d bc bs (tgt) (L) (st) (I) (R) (n) Q) (kf : 0 ≤ a → J X own nm cc nL ret d bc bs (pc + 3) (L) (st) (I) (R) (n) Q) : J X own nm cc nL ret d bc bs (pc) (L) (jI a :: st) (I) (R) (n) Q := by
  intro p l e RR s m args below meth c H locs cells slots QQ ls C hc hs hH hL hr
  refine lv_if_lt C.1 C.2.1 hd ht (fun q => ?_) (fun q => ?_)
  · exact kt (by first | exact (jr_eq ha j0).mp q | exact (jr_lt ha j0).mp q | exact (jr_le ha j0).mp q | exact (jr_lt j0 ha).mp q | exact (jr_le j0 ha).mp q | exact fun z => q ((jr_eq ha j0).mpr z) | exact Int.not_lt.mp (fun z => q ((jr_lt ha j0).mpr z)) | exact Int.not_le.mp (fun z => q ((jr_le ha j0).mpr z)) | exact Int.not_lt.mp (fun z => q ((jr_lt j0 ha).mpr z)) | exact Int.not_le.mp (fun z => q ((jr_le j0 ha).mpr z))) p l e RR s m args below meth c H locs cells slots QQ ls C hc hs hH hL hr
  · exact kf (by first | exact (jr_eq ha j0).mp q | exact (jr_lt ha j0).mp q | exact (jr_le ha j0).mp q | exact (jr_lt j0 ha).mp q | exact (jr_le j0 ha).mp q | exact fun z => q ((jr_eq ha j0).mpr z) | exact Int.not_lt.mp (fun z => q ((jr_lt ha j0).mpr z)) | exact Int.not_le.mp (fun z => q ((jr_le ha j0).mpr z)) | exact Int.not_lt.mp (fun z => q ((jr_lt j0 ha).mpr z)) | exact Int.not_le.mp (fun z => q ((jr_le j0 ha).mpr z))) p l e RR s m args below meth c H locs cells slots QQ ls C hc hs hH hL hr

theorem j_icmp_ge {a b : Int} {off : Int} (tgt : Nat) (hd : decode cc pc = .ok (.if_icmp .ge off, 3)) (ht : (pc : Int) + off = (tgt : Int)) (ha : -2147483648 ≤ a ∧ a < 2147483648) (hb : -2147483648 ≤ b ∧ b < 2147483648) (kt : b ≤ a → J X own nm cc nL ret d bc bs (tgt) (L) (st) (I) (R) (n) Q) (kf : a < b → J X own nm cc nL ret d bc bs (pc + 3) (L) (st) (I) (R) (n) Q) : J X own nm cc nL ret d bc bs (pc) (L) (jI b :: jI a :: st) (I) (R) (n) Q := by
  intro p l e RR s m args below meth c H locs cells slots QQ ls C hc hs hH hL hr
  refine lv_icmp_ge C.1 C.2.1 hd ht (fun q => ?_) (fun q => ?_)
  · exact kt (by first | exact (jr_eq ha hb).mp q | exact (jr_lt ha hb).mp q | exact (jr_le ha hb).mp q | exact (jr_lt hb ha).mp q | exact (jr_le hb ha).mp q | exact fun z => q ((jr_eq ha hb).mpr z) | exact Int.not_lt.mp (fun z => q ((jr_lt ha hb).mpr z)) | exact Int.not_le.mp (fun z => q ((jr_le ha hb).mpr z)) | exact Int.not_lt.mp (fun z => q ((jr_lt hb ha).mpr z)) | exact Int.not_le.mp (fun z => q ((jr_le hb ha).mpr z))) p l e RR s m args below meth c H locs cells slots QQ ls C hc hs hH hL hr
  · exact kf (by first | exact (jr_eq ha hb).mp q | exact (jr_lt ha hb).mp q | exact (jr_le ha hb).mp q | exact (jr_lt hb ha).mp q | exact (jr_le hb ha).mp q | exact fun z => q ((jr_eq ha hb).mpr z) | exact Int.not_lt.mp (fun z => q ((jr_lt ha hb).mpr z)) | exact Int.not_le.mp (fun z => q ((jr_le ha hb).mpr z)) | exact Int.not_lt.mp (fun z => q ((jr_lt hb ha).mpr z)) | exact Int.not_le.mp (fun z => q ((jr_le hb ha).mpr z))) p l e RR s m args below meth c H locs cells slots QQ ls C hc hs hH hL hr

theorem j_if_ge {a : Int} {off : Int} (tgt : Nat) (hd : decode cc pc = .ok (.ifCond .ge off, 3)) (ht : (pc : Int) + off = (tgt : Int)) (ha : -2147483648 ≤ a ∧ a < 2147483648) (kt : 0 ≤ a → J X own nm cc nL ret d bc bs (tgt) (L) (st) (I) (R) (n) Q) (kf : a < 0 → J X own nm cc nL ret d bc bs (pc + 3) (L) (st) (I) (R) (n) Q) : J X own nm cc nL ret d bc bs (pc) (L) (jI a :: st) (I) (R) (n) Q := by
  intro p l e RR s m args below meth c H locs cells slots QQ ls C hc hs hH hL hr
  refine lv_if_ge C.1 C.2.1 hd ht (fun q => ?_) (fun q => ?_)
  · exact kt (by first | exact (jr_eq ha j0).mp q | exact (jr_lt ha j0).mp q | exact (jr_le ha j0).mp q | exact (jr_lt j0 ha).mp q | exact (jr_le j0 ha).mp q | exact fun z => q ((jr_eq ha j0).mpr z) | exact Int.not_lt.mp (fun z => q ((jr_lt ha j0).mpr z)) | exact Int.not_le.mp (fun z => q ((jr_le ha j0).mpr z)) | exact Int.not_lt.mp (fun z => q ((jr_lt j0 ha).mpr z)) | exact Int.not_le.mp (fun z => q ((jr_le j0 ha).mpr z))) p l e RR s m args below meth c H locs cells slots QQ ls C hc hs hH hL hr
  · exact kf (by first | exact (jr_eq ha j0).mp q | exact (jr_lt ha j0).mp q | exact (jr_le ha j0).mp q | exact (jr_lt j0 ha).mp q | exact (jr_le j0 ha).mp q | exact fun z => q ((jr_eq ha j0).mpr z) | exact Int.not_lt.mp (fun z => q ((jr_lt ha j0).mpr z)) | exact Int.not_le.mp (fun z => q ((jr_le ha j0).mpr z)) | exact Int.not_lt.mp (fun z => q ((jr_lt j0 ha).mpr z)) | exact Int.not_le.mp (fun z => q ((jr_le j0 ha).mpr z))) p l e RR s m args below meth c H locs cells slots QQ ls C hc hs hH hL hr

theorem j_icmp_gt {a b : Int} {off : Int} (tgt : Nat) (hd : decode cc pc = .ok (.if_icmp .gt off, 3)) (ht : (pc : Int) + off = (tgt : Int)) (ha : -2147483648 ≤ a ∧ a < 2147483648) (hb : -2147483648 ≤ b ∧ b < 2147483648) (kt : b < a → J X own nm cc nL ret d bc bs (tgt) (L) (st) (I) (R) (n) Q) (kf : a ≤ b → J X own nm cc nL ret d bc bs (pc + 3) (L) (st) (I) (R) (n) Q) : J X own nm cc nL ret d bc bs (pc) (L) (jI b :: jI a :: st) (I) (R) (n) Q := by
  intro p l e RR s m args below meth c H locs cells slots QQ ls C hc hs hH hL hr
  refine lv_icmp_gt C.1 C.2.1 hd ht (fun q => ?_) (fun q => ?_)
  · exact kt (by first | exact (jr_eq ha hb).mp q | exact (jr_lt ha hb).mp q | exact (jr_le ha hb).mp q | exact (jr_lt hb ha).mp q | exact (jr_le hb ha).mp q | exact fun z => q ((jr_eq ha hb).mpr z) | exact Int.not_lt.mp (fun z => q ((jr_lt ha hb).mpr z)) | exact Int.not_le.mp (fun z => q ((jr_le ha hb).mpr z)) | exact Int.not_lt.mp (fun z => q ((jr_lt hb ha).mpr z)) | exact Int.not_le.mp (fun z => q ((jr_le hb ha).mpr z))) p l e RR s m args below meth c H locs cells slots QQ ls C hc hs hH hL hr
  · exact kf (by first | exact (jr_eq ha hb).mp q | exact (jr_lt ha hb).mp q | exact (jr_le ha hb).mp q | exact (jr_lt hb ha).mp q | exact (jr_le hb ha).mp q | exact fun z => q ((jr_eq ha hb).mpr z) | exact Int.not_lt.mp (fun z => q ((jr_lt ha hb).mpr z)) | exact Int.not_le.mp (fun z => q ((jr_le ha hb).mpr z)) | exact Int.not_lt.mp (fun z => q ((jr_lt hb ha).mpr z)) | exact Int.not_le.mp (fun z => q ((jr_le hb ha).mpr z))) p l e RR s m args below meth c H locs cells slots QQ ls C hc hs hH hL hr

theorem j_if_gt {a : Int} {off : Int} (tgt : Nat) (hd : decode cc pc = .ok (.ifCond .gt off, 3)) (ht : (pc : Int) + off = (tgt : Int)) (ha : -2147483648 ≤ a ∧ a < 2147483648) (kt : 0 < a → J X own nm cc nL ret d bc bs (tgt) (L) (st) (I) (R) (n) Q) (kf : a ≤ 0 → J X own nm cc nL ret d bc bs (pc + 3) (L) (st) (I) (R) (n) Q) : J X own nm cc nL ret d bc bs (pc) (L) (jI a :: st) (I) (R) (n) Q := by
  intro p l e RR s m args below meth c H locs cells slots QQ ls C hc hs hH hL hr
  refine lv_if_gt C.1 C.2.1 hd ht (fun q => ?_) (fun q => ?_)
  · exact kt (by first | exact (jr_eq ha j0).mp q | exact (jr_lt ha j0).mp q | exact (jr_le ha j0).mp q | exact (jr_lt j0 ha).mp q | exact (jr_le j0 ha).mp q | exact fun z => q ((jr_eq ha j0).mpr z) | exact Int.not_lt.mp (fun z => q ((jr_lt ha j0).mpr z)) | exact Int.not_le.mp (fun z => q ((jr_le ha j0).mpr z)) | exact Int.not_lt.mp (fun z => q ((jr_lt j0 ha).mpr z)) | exact Int.not_le.mp (fun z => q ((jr_le j0 ha).mpr z))) p l e RR s m args below meth c H locs cells slots QQ ls C hc hs hH hL hr
  · exact kf (by first | exact (jr_eq ha j0).mp q | exact (jr_lt ha j0).mp q | exact (jr_le ha j0).mp q | exact (jr_lt j0 ha).mp q | exact (jr_le j0 ha).mp q | exact fun z => q ((jr_eq ha j0).mpr z) | exact Int.not_lt.mp (fun z => q ((jr_lt ha j0).mpr z)) | exact Int.not_le.mp (fun z => q ((jr_le ha j0).mpr z)) | exact Int.not_lt.mp (fun z => q ((jr_lt j0 ha).mpr z)) | exact Int.not_le.mp (fun z => q ((jr_le j0 ha).mpr z))) p l e RR s m args below meth c H locs cells slots QQ ls C hc hs hH hL hr

theorem j_icmp_le {a b : Int} {off : Int} (tgt : Nat) (hd : decode cc pc = .ok (.if_icmp .le off, 3)) (ht : (pc : Int) + off = (tgt : Int)) (ha : -2147483648 ≤ a ∧ a < 2147483648) (hb : -2147483648 ≤ b ∧ b < 2147483648) (kt : a ≤ b → J X own nm cc nL ret d bc bs (tgt) (L) (st) (I) (R) (n) Q) (kf : b < a → J X own nm cc nL ret d bc bs (pc + 3) (L) (st) (I) (R) (n) Q) : J X own nm cc nL ret d bc bs (pc) (L) (jI b :: jI a :: st) (I) (R) (n) Q := by
  intro p l e RR s m args below meth c H locs cells slots QQ ls C hc hs hH hL hr
  refine lv_icmp_le C.1 C.2.1 hd ht (fun q => ?_) (fun q => ?_)
  · exact kt (by first | exact (jr_eq ha hb).mp q | exact (jr_lt ha hb).mp q | exact (jr_le ha hb).mp q | exact (jr_lt hb ha).mp q | exact (jr_le hb ha).mp q | exact fun z => q ((jr_eq ha hb).mpr z) | exact Int.not_lt.mp (fun z => q ((jr_lt ha hb).mpr z)) | exact Int.not_le.mp (fun z => q ((jr_le ha hb).mpr z)) | exact Int.not_lt.mp (fun z => q ((jr_lt hb ha).mpr z)) | exact Int.not_le.mp (fun z => q ((jr_le hb ha).mpr z))) p l e RR s m args below meth c H locs cells slots QQ ls C hc hs hH hL hr
  · exact kf (by first | exact (jr_eq ha hb).mp q | exact (jr_lt ha hb).mp q | exact (jr_le ha hb).mp q | exact (jr_lt hb ha).mp q | exact (jr_le hb ha).mp q | exact fun z => q ((jr_eq ha hb).mpr z) | exact Int.not_lt.mp (fun z => q ((jr_lt ha hb).mpr z)) | exact Int.not_le.mp (fun z => q ((jr_le ha hb).mpr z)) | exact Int.not_lt.mp (fun z => q ((jr_lt hb ha).mpr z)) | exact Int.not_le.mp (fun z => q ((jr_le hb ha).mpr z))) p l e RR s m args below meth c H locs cells slots QQ ls C hc hs hH hL hr

theorem j_if_le {a : Int} {off : Int} (tgt : Nat) (hd : decode cc pc = .ok (.ifCond .le off, 3)) (ht : (pc : Int) + off = (tgt : Int)) (ha : -2147483648 ≤ a ∧ a < 2147483648) (kt : a ≤ 0 → J X own nm cc nL ret d bc bs (tgt) (L) (st) (I) (R) (n) Q) (kf : 0 < a → J X own nm cc nL ret d bc bs (pc + 3) (L) (st) (I) (R) (n) Q) : J X own nm cc nL ret d bc bs (pc) (L) (jI a :: st) (I) (R) (n) Q := by
  intro p l e RR s m args below meth c H locs cells slots QQ ls C hc hs hH hL hr
  refine lv_if_le C.1 C.2.1 hd ht (fun q => ?_) (fun q => ?_)
  · exact kt (by first | exact (jr_eq ha j0).mp q | exact (jr_lt ha j0).mp q | exact (jr_le ha j0).mp q | exact (jr_lt j0 ha).mp q | exact (jr_le j0 ha).mp q | exact fun z => q ((jr_eq ha j0).mpr z) | exact Int.not_lt.mp (fun z => q ((jr_lt ha j0).mpr z)) | exact Int.not_le.mp (fun z => q ((jr_le ha j0).mpr z)) | exact Int.not_lt.mp (fun z => q ((jr_lt j0 ha).mpr z)) | exact Int.not_le.mp (fun z => q ((jr_le j0 ha).mpr z))) p l e RR s m args below meth c H locs cells slots QQ ls C hc hs hH hL hr
  · exact kf (by first | exact (jr_eq ha j0).mp q | exact (jr_lt ha j0).mp q | exact (jr_le ha j0).mp q | exact (jr_lt j0 ha).mp q | exact (jr_le j0 ha).mp q | exact fun z => q ((jr_eq ha j0).mpr z) | exact Int.not_lt.mp (fun z => q ((jr_lt ha j0).mpr z)) | exact Int.not_le.mp (fun z => q ((jr_le ha j0).mpr z)) | exact Int.not_lt.mp (fun z => q ((jr_lt j0 ha).mpr z)) | exact Int.not_le.mp (fun z => q ((jr_le j0 ha).mpr z))) p l e RR s m args below meth c H locs cells slots QQ ls C hc hs hH hL hr

theorem jcmp_lt {a b : Int} (ha : -9223372036854775808 ≤ a ∧ a < 9223372036854775808) (hb : -9223372036854775808 ≤ b ∧ b < 9223372036854775808) : jcmp a b = if b < a then 1 else if a = b then 0 else -1 := by
  have e1 : Int64.ofInt b < Int64.ofInt a ↔ b < a := by rw [Int64.lt_iff_toInt_lt, jr_l ha, jr_l hb]
  have e2 : Int64.ofInt a = Int64.ofInt b ↔ a = b := by rw [← Int64.toInt_inj, jr_l ha, jr_l hb]
  unfold jcmp lg_cmp
  by_cases h1 : b < a
  · rw [if_pos h1, if_pos (show Int64.ofInt a > Int64.ofInt b from e1.mpr h1)]; rfl
  · rw [if_neg h1, if_neg (show ¬ Int64.ofInt a > Int64.ofInt b from fun z => h1 (e1.mp z))]
    by_cases h2 : a = b
    · rw [if_pos h2, if_pos (e2.mpr h2)]; rfl
    · rw [if_neg h2, if_neg (fun z => h2 (e2.mp z))]; rfl
theorem jcmp_self (a : Int) : jcmp a a = 0 := by
  unfold jcmp lg_cmp
  simp
end JS
