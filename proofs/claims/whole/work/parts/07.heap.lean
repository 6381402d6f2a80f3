/-! ===== worlds ===== -/
theorem jW_get {X : jX} {I : jMI} {R : jMR} {n k : Nat} (h : k < n) : (jW X I R n)[k]? = some (jB X + k, jen X I R k) := by
  simp [jW, h]
theorem jW_D {X : jX} {I : jMI} {R : jMR} {n : Nat} : va_D (jA X) (jW X I R n) := by
  have key : ∀ (k : Nat) (q : Nat × va_E), (jW X I R n)[k]? = some q → q.1 = jB X + k := by
    intro k q h
    have hl : k < n := by
      have := (List.getElem?_eq_some_iff.mp h).1
      simpa [jW] using this
    rw [jW_get hl] at h
    cases h
    rfl
  refine ⟨fun i j p q hi hj e => ?_, fun k q hk => ?_⟩
  · rw [key i p hi, key j q hj] at e
    omega
  · show jB X ≤ q.1
    rw [key k q hk]
    omega
theorem jW_set {X : jX} {I I' : jMI} {R R' : jMR} {n k : Nat} {e : va_E} (h1 : ∀ j, j ≠ k → jen X I' R' j = jen X I R j) (h2 : jen X I' R' k = e) : (jW X I R n).set k (jB X + k, e) = jW X I' R' n := by
  apply List.ext_getElem?
  intro j
  by_cases hj : j = k
  · subst hj
    by_cases hl : j < n
    · rw [List.getElem?_set_self (by simpa [jW] using hl), jW_get hl, h2]
    · rw [List.getElem?_eq_none (by simp [jW]; omega), List.getElem?_eq_none (by simp [jW]; omega)]
  · rw [List.getElem?_set_ne (Ne.symm hj)]
    by_cases hl : j < n
    · rw [jW_get hl, jW_get hl, h1 j hj]
    · rw [List.getElem?_eq_none (by simp [jW]; omega), List.getElem?_eq_none (by simp [jW]; omega)]
theorem jW_push {X : jX} {I : jMI} {R : jMR} {n : Nat} : jW X I R n ++ [(jB X + n, jen X I R n)] = jW X I R (n + 1) := by
  simp [jW, List.range_succ]
theorem jsh_lt {k : Nat} {q : (FieldType × Nat) ⊕ Nat} (h : jsh k = q) (hq : q ≠ .inr 99) : k < 124 := by
  by_cases hk : k < 124
  · exact hk
  · exfalso
    apply hq
    rw [← h]
    unfold jsh
    rw [List.getD_eq_getElem?_getD, List.getElem?_eq_none (by rw [show jshL.length = 124 from rfl]; omega)]
    rfl
theorem jad_lt {X : jX} {k : Nat} (h : k < 124) : jad X k = jB X + k := by
  unfold jad
  rw [if_pos (by omega)]
theorem j_vwCl {ci : Nat} (h : ci < 13) : vwCl[ci]? = some (jnm ci, jtT ci, jnF ci) := by
  match ci, h with

  | 0, _ => rfl
  | 1, _ => rfl
  | 2, _ => rfl
  | 3, _ => rfl
  | 4, _ => rfl
  | 5, _ => rfl
  | 6, _ => rfl
  | 7, _ => rfl
  | 8, _ => rfl
  | 9, _ => rfl
  | 10, _ => rfl
  | 11, _ => rfl
  | 12, _ => rfl
  | k + 13, h => omega
theorem jin_0 : ∀ w ∈ u_ws (jnm 0) (jtT 0) (jnF 0), w ∈ lw_good := by decide +kernel
theorem jin_1 : ∀ w ∈ u_ws (jnm 1) (jtT 1) (jnF 1), w ∈ lw_good := by decide +kernel
theorem jin_2 : ∀ w ∈ u_ws (jnm 2) (jtT 2) (jnF 2), w ∈ lw_good := by decide +kernel
theorem jin_3 : ∀ w ∈ u_ws (jnm 3) (jtT 3) (jnF 3), w ∈ lw_good := by decide +kernel
theorem jin_4 : ∀ w ∈ u_ws (jnm 4) (jtT 4) (jnF 4), w ∈ lw_good := by decide +kernel
theorem jin_5 : ∀ w ∈ u_ws (jnm 5) (jtT 5) (jnF 5), w ∈ lw_good := by decide +kernel
theorem jin_6 : ∀ w ∈ u_ws (jnm 6) (jtT 6) (jnF 6), w ∈ lw_good := by decide +kernel
theorem jin_7 : ∀ w ∈ u_ws (jnm 7) (jtT 7) (jnF 7), w ∈ lw_good := by decide +kernel
theorem jin_8 : ∀ w ∈ u_ws (jnm 8) (jtT 8) (jnF 8), w ∈ lw_good := by decide +kernel
theorem jin_9 : ∀ w ∈ u_ws (jnm 9) (jtT 9) (jnF 9), w ∈ lw_good := by decide +kernel
theorem jin_10 : ∀ w ∈ u_ws (jnm 10) (jtT 10) (jnF 10), w ∈ lw_good := by decide +kernel
theorem jin_11 : ∀ w ∈ u_ws (jnm 11) (jtT 11) (jnF 11), w ∈ lw_good := by decide +kernel
theorem jin_12 : ∀ w ∈ u_ws (jnm 12) (jtT 12) (jnF 12), w ∈ lw_good := by decide +kernel
theorem j_in {ci : Nat} (h : ci < 13) : ∀ w ∈ u_ws (jnm ci) (jtT ci) (jnF ci), w ∈ lw_good := by
  match ci, h with
  | 0, _ => exact jin_0
  | 1, _ => exact jin_1
  | 2, _ => exact jin_2
  | 3, _ => exact jin_3
  | 4, _ => exact jin_4
  | 5, _ => exact jin_5
  | 6, _ => exact jin_6
  | 7, _ => exact jin_7
  | 8, _ => exact jin_8
  | 9, _ => exact jin_9
  | 10, _ => exact jin_10
  | 11, _ => exact jin_11
  | 12, _ => exact jin_12
  | k + 13, h => omega
theorem j_tyok {ci : Nat} (h : ci < 13) : ∀ k, k < jnF ci → parseFieldDescriptor (jtT ci k).2.2.1 = some (jty ci k) := by
  match ci, h with
  | 0, _ => exact tyX0_ok
  | 1, _ => exact tyX1_ok
  | 2, _ => exact tyX2_ok
  | 3, _ => exact tyX3_ok
  | 4, _ => exact tyX4_ok
  | 5, _ => exact tyX5_ok
  | 6, _ => exact tyX6_ok
  | 7, _ => exact tyX7_ok
  | 8, _ => exact tyX8_ok
  | 9, _ => exact tyX9_ok
  | 10, _ => exact tyX10_ok
  | 11, _ => exact tyX11_ok
  | 12, _ => exact tyX12_ok
  | k + 13, h => omega
theorem j_nmok {ci : Nat} (h : ci < 13) : ∀ a, a < jnF ci → ∀ b, b < jnF ci → a ≠ b → (jtT ci a).2.1 ≠ (jtT ci b).2.1 := by
  match ci, h with
  | 0, _ => exact nmX0
  | 1, _ => exact nmX1
  | 2, _ => exact nmX2
  | 3, _ => exact nmX3
  | 4, _ => exact nmX4
  | 5, _ => exact nmX5
  | 6, _ => exact nmX6
  | 7, _ => exact nmX7
  | 8, _ => exact nmX8
  | 9, _ => exact nmX9
  | 10, _ => exact nmX10
  | 11, _ => exact nmX11
  | 12, _ => exact nmX12
  | k + 13, h => omega
theorem map_range_set {α : Type} {N j : Nat} {f f' : Nat → α} {v : α} (h1 : f' j = v) (h2 : ∀ i, i ≠ j → f' i = f i) : ((List.range N).map f).set j v = (List.range N).map f' := by
  apply List.ext_getElem?
  intro i
  by_cases hi : i = j
  · subst hi
    by_cases hl : i < N
    · rw [List.getElem?_set_self (by simpa using hl)]
      simp [hl, h1]
    · rw [List.getElem?_eq_none (by simp; omega), List.getElem?_eq_none (by simp; omega)]
  · rw [List.getElem?_set_ne (Ne.symm hi)]
    simp only [List.getElem?_map]
    cases hq : (List.range N)[i]? with
    | none => rfl
    | some q =>
      have : q = i := by
        have := List.getElem?_eq_some_iff.mp hq
        obtain ⟨a, b⟩ := this
        simpa using b.symm
      subst this
      simp [h2 _ hi]
/-- a field's link: own class, pool number; kind and place -/
def jFl (own : String) (idx ci j : Nat) : Prop := .fieldLink own idx (jtT ci j).1 (jtT ci j).2.1 (jtT ci j).2.2.1 ∈ lw_good ∧ j < jnF ci ∧ ci < 13
theorem jhts {X : jX} {s : State} (h : jK X s) (args : Array Value) : ∀ w ∈ lw_good, w.before args s = true := fun w hw => h.1 w hw args s (State.WarmedH.refl s)
theorem jen_o {X : jX} {I : jMI} {R : jMR} {k ci : Nat} (h : jsh k = .inr ci) : jen X I R k = .inr (ci, jfs X I R ci k) := by
  unfold jen; rw [h]
theorem jen_a {X : jX} {I : jMI} {R : jMR} {k len : Nat} {ty : FieldType} (h : jsh k = .inl (ty, len)) : jen X I R k = .inl (jcA X ty, len, jac X I R ty k) := by
  unfold jen; rw [h]
theorem jfs_at {X : jX} {I : jMI} {R : jMR} {k ci j : Nat} (h : j < jnF ci) : (jfs X I R ci k)[j]? = some (jfv X I R (jty ci j) k j) := by
  simp [jfs, h]
theorem jfv_i {X : jX} {I : jMI} {R : jMR} {ty : FieldType} {k j : Nat} (h : jkd ty = 0) : jfv X I R ty k j = .int (Int32.ofInt (I k j)) := by unfold jfv; rw [h]; rfl
theorem jfv_l {X : jX} {I : jMI} {R : jMR} {ty : FieldType} {k j : Nat} (h : jkd ty = 1) : jfv X I R ty k j = .long (Int64.ofInt (I k j)) := by unfold jfv; rw [h]; rfl
theorem jfv_r {X : jX} {I : jMI} {R : jMR} {ty : FieldType} {k j : Nat} (h : jkd ty = 2) : jfv X I R ty k j = va_rf ((R k j).map (jad X)) := by unfold jfv; rw [h]; rfl
theorem jac_i {X : jX} {I : jMI} {R : jMR} {ty : FieldType} {k : Nat} (h : jkd ty = 0) : jac X I R ty k = .inl (fun j => Int32.ofInt (I k j)) := by unfold jac; rw [h]; rfl
theorem jac_l {X : jX} {I : jMI} {R : jMR} {ty : FieldType} {k : Nat} (h : jkd ty = 1) : jac X I R ty k = .inr (.inl (fun j => Int64.ofInt (I k j))) := by unfold jac; rw [h]; rfl
theorem jac_r {X : jX} {I : jMI} {R : jMR} {ty : FieldType} {k : Nat} (h : jkd ty = 2) : jac X I R ty k = .inr (.inr (.inr (.inr (fun j => (R k j).map (jad X))))) := by unfold jac; rw [h]; rfl
theorem jfv_c {X : jX} {I I' : jMI} {R R' : jMR} {ty : FieldType} {k j : Nat} (h : I' k j = I k j) (h2 : R' k j = R k j) : jfv X I' R' ty k j = jfv X I R ty k j := by unfold jfv; rw [h, h2]
theorem jen_c {X : jX} {I I' : jMI} {R R' : jMR} {k : Nat} (h : ∀ j, I' k j = I k j) (h2 : ∀ j, R' k j = R k j) : jen X I' R' k = jen X I R k := by
  have e1 : I' k = I k := funext h
  have e2 : R' k = R k := funext h2
  unfold jen jac jfs jfv
  rw [e1, e2]
theorem jSt_ne {I : jMI} {k j k' : Nat} {a : Int} (h : k' ≠ k) (i : Nat) : jSt I k j a k' i = I k' i := by
  unfold jSt; rw [if_neg (fun z => h z.1)]
theorem jSt_self {I : jMI} {k j : Nat} {a : Int} : jSt I k j a k j = a := by
  unfold jSt; rw [if_pos ⟨rfl, rfl⟩]
theorem jSt_nj {I : jMI} {k j j' : Nat} {a : Int} (h : j' ≠ j) : jSt I k j a k j' = I k j' := by
  unfold jSt; rw [if_neg (fun z => h z.2)]
theorem jSr_ne {I : jMR} {k j k' : Nat} {a : Option Nat} (h : k' ≠ k) (i : Nat) : jSr I k j a k' i = I k' i := by
  unfold jSr; rw [if_neg (fun z => h z.1)]
theorem jSr_self {I : jMR} {k j : Nat} {a : Option Nat} : jSr I k j a k j = a := by
  unfold jSr; rw [if_pos ⟨rfl, rfl⟩]
theorem jSr_nj {I : jMR} {k j j' : Nat} {a : Option Nat} (h : j' ≠ j) : jSr I k j a k j' = I k j' := by
  unfold jSr; rw [if_neg (fun z => h z.2)]
theorem jfs_setI {X : jX} {I : jMI} {R : jMR} {ci k j : Nat} {a : Int} (h : jkd (jty ci j) = 0) : jfs X (jSt I k j a) R ci k = (jfs X I R ci k).set j (.int (Int32.ofInt a)) := by
  refine (map_range_set ?_ (fun i hi => ?_)).symm
  · rw [jfv_i h, jSt_self]
  · exact jfv_c (jSt_nj hi) rfl
theorem jfs_setL {X : jX} {I : jMI} {R : jMR} {ci k j : Nat} {a : Int} (h : jkd (jty ci j) = 1) : jfs X (jSt I k j a) R ci k = (jfs X I R ci k).set j (.long (Int64.ofInt a)) := by
  refine (map_range_set ?_ (fun i hi => ?_)).symm
  · rw [jfv_l h, jSt_self]
  · exact jfv_c (jSt_nj hi) rfl
theorem jfs_setR {X : jX} {I : jMI} {R : jMR} {ci k j : Nat} {a : Option Nat} (h : jkd (jty ci j) = 2) : jfs X I (jSr R k j a) ci k = (jfs X I R ci k).set j (va_rf (a.map (jad X))) := by
  refine (map_range_set ?_ (fun i hi => ?_)).symm
  · rw [jfv_r h, jSr_self]
  · exact jfv_c rfl (jSr_nj hi)
/-- the world behind a store of the own cells -/
theorem jH_set {X : jX} {I I' : jMI} {R R' : jMR} {n k : Nat} {e : va_E} {s : State} {H H1 : Heap} {locs locs1 : List Loc} (h : jH X I R n s H locs) (h1 : ∀ j, j ≠ k → jen X I' R' j = jen X I R j) (h2 : jen X I' R' k = e) (hP : va_P (jD X) vwCl ((jW X I R n).set k (jB X + k, e)) H1) (hS : va_S (jA X) s.heap H1 locs1) (hz : H1.size = H.size) (hq : ∀ q : Nat, q < jB X → H1[q]? = H[q]?) : jH X I' R' n s H1 locs1 := by
  rw [jW_set h1 h2] at hP
  exact ⟨⟨hP, by rw [hz]; exact h.1.2.1, fun q hb => by rw [hq q hb]; exact h.1.2.2 q hb⟩, hS⟩
theorem jS_low {X : jX} {I : jMI} {R : jMR} {n : Nat} {s : State} {H H1 : Heap} {locs locs1 : List Loc} (h : jH X I R n s H locs) (hb0 : jB X ≤ s.heap.size) (hS : va_S (jA X) s.heap H1 locs1) : ∀ q : Nat, q < jB X → H1[q]? = H[q]? := by
  intro q hq
  have hn : ¬ jA X q := Nat.not_le.mpr hq
  rw [hS.2.1 q (by omega) hn, h.2.2.1 q (by omega) hn]

