/-! ===== the class: rows copied ===== -/
theorem k_acp_s : Cond.static arraycopyName ∈ lw_good := List.mem_of_getElem? (i := 549) (by decide +kernel)
theorem k_acp_n : Cond.native arraycopyName ∈ lw_good := List.mem_of_getElem? (i := 550) (by decide +kernel)
theorem k_acp_i : Cond.initialized "java/lang/System" ∈ lw_good := List.mem_of_getElem? (i := 83) (by decide +kernel)
theorem k_acp_X2 : Cond.methodLink RX2 71 arraycopyName ∈ lw_good := List.mem_of_getElem? (i := 548) (by decide +kernel)
theorem k_acp_X1 : Cond.methodLink RX1 63 arraycopyName ∈ lw_good := List.mem_of_getElem? (i := 715) (by decide +kernel)
theorem k_acp_X4 : Cond.methodLink RX4 60 arraycopyName ∈ lw_good := List.mem_of_getElem? (i := 835) (by decide +kernel)
def acp (s d : Nat → Int) (n : Nat) : Nat → Int := fun j => if j < n then s j else d j
theorem acp_lt {s d : Nat → Int} {n j : Nat} (h : j < n) : acp s d n j = s j := by unfold acp; rw [if_pos h]
theorem jH_putL {X : jX} {I I' : jMI} {R R' : jMR} {n k : Nat} {e : va_E} {s : State} {H H1 : Heap} {locs locs2 : List Loc} (h : jH X I R n s H locs) (hk : k < n) (h1 : ∀ j, j ≠ k → jen X I' R' j = jen X I R j) (h2 : jen X I' R' k = e) (he : va_at (jD X) vwCl (jB X + k, e) H1) (z : H1.size = H.size) (oq : ∀ q : Nat, q ≠ jB X + k → H1[q]? = H[q]?) (hl : ∀ q ∈ locs2, q.base = jB X + k) : jH X I' R' n s H1 (locs ++ locs2) := by
  have h0 := jH_put (i := 0) h hk h1 h2 he z oq
  refine ⟨h0.1, h0.2.1, h0.2.2.1, fun q hq => ?_⟩
  rcases List.mem_append.mp hq with h' | h'
  · exact h.2.2.2 q h'
  · rw [hl q h']; show jB X ≤ jB X + k; omega
section JS
variable {X : jX} {own nm : String} {cc : ByteArray} {nL : Nat} {ret : Option FieldType} {d bc bs pc : Nat} {L : List (Option jV)} {st : List jV} {I : jMI} {R : jMR} {n : Nat} {Q : Option jV → jMI → jMR → Nat → Prop}
theorem j_acp {idx ks kd l1 l2 : Nat} (cN : Nat) (hw : .methodLink own idx arraycopyName ∈ lw_good) (hd : decode cc pc = .ok (.invokestatic idx, 3)) (hs : jsh ks = .inl (.int, l1)) (hs2 : jsh kd = .inl (.int, l2)) (hk1 : ks < n) (hk2 : kd < n) (h1 : cN ≤ l1 ∧ l1 ≤ 1000) (h2 : cN ≤ l2 ∧ l2 ≤ 1000) (hd1 : 1 ≤ d) (hst : jws st ≤ 8) (kk : J X own nm cc nL ret d bc bs (pc + 3) L st (jSf I kd (acp (I ks) (I kd) cN)) R n Q) : J X own nm cc nL ret d bc bs pc L (jI cN :: jI 0 :: jR kd :: jI 0 :: jR ks :: st) I R n Q := by
  intro p l e RR s m args below meth c H locs cells slots QQ ls C hc hs1 hH hL hr
  obtain ⟨cx, cb, cm, co, cr, clk, cf, cl, cK, cn⟩ := id C
  have hts := jhts cK args
  have hq1 := jsh_lt hs (by intro q; cases q)
  have hq2 := jsh_lt hs2 (by intro q; cases q)
  show W p l e RR s m args below meth c H locs cells slots QQ (F0 m pc ls (.int (Int32.ofInt cN) :: .int (Int32.ofInt 0) :: va_rf (some (jad X kd)) :: .int (Int32.ofInt 0) :: va_rf (some (jad X ks)) :: st.map (jv X)))
  rw [jad_lt hq1, jad_lt hq2]
  have hc0 : H[jB X + ks]? = some (vp_cell (jcA X .int) (l1, .inl (fun j => Int32.ofInt (I ks j)))) := by
    have := hH.1.1 ks (jB X + ks, .inl (jcA X .int, l1, jac X I R .int ks)) (by rw [jW_get hk1, jen_a hs])
    rw [jac_i rfl] at this; exact this
  have hc1 : H[jB X + kd]? = some (vp_cell (jcA X .int) (l2, .inl (fun j => Int32.ofInt (I kd j)))) := by
    have := hH.1.1 kd (jB X + kd, .inl (jcA X .int, l2, jac X I R .int kd)) (by rw [jW_get hk2, jen_a hs2])
    rw [jac_i rfl] at this; exact this
  obtain ⟨-, q0, hq0, cm0, hkk0⟩ := (cK.2.1.2 0 _ (j_tys rfl)).1 l1 (fun j => .int (Int32.ofInt (I ks j)))
  obtain ⟨-, q1, hq1', cm1, hkk1⟩ := (cK.2.1.2 0 _ (j_tys rfl)).1 l2 (fun j => .int (Int32.ofInt (I kd j)))
  have hz : ¬ (Int32.ofInt 0 : Int32) < 0 := by decide
  have hni : (Int32.ofInt (cN : Int)).toInt = (cN : Int) := jr_i (by omega)
  have hnn : ¬ (Int32.ofInt (cN : Int)) < 0 := by
    rw [Int32.lt_iff_toInt_lt, hni]; show ¬ (cN : Int) < 0; omega
  have hcl : (Int32.ofInt (cN : Int)).toNatClampNeg = cN := by show (Int32.ofInt (cN : Int)).toInt.toNat = cN; rw [hni]; omega
  have hz0 : (Int32.ofInt 0 : Int32).toNatClampNeg = 0 := by decide
  have hzi : (Int32.ofInt 0 : Int32).toInt = 0 := by decide
  intro T hT XX
  obtain ⟨vm', X', step⟩ := XX.arraycopy cx co (hts _ hw) (hts _ k_acp_n) (hts _ k_acp_s) (hts _ k_acp_i) (src := jB X + ks) (dst := jB X + kd) (cs := vp_cell (jcA X .int) (l1, .inl (fun j => Int32.ofInt (I ks j)))) (cd := vp_cell (jcA X .int) (l2, .inl (fun j => Int32.ofInt (I kd j)))) (srcPos := Int32.ofInt 0) (destPos := Int32.ofInt 0) (n := Int32.ofInt (cN : Int)) (by rw [hT]; exact hc0) (by rw [hT]; exact hc1)
    (fun _ h => by cases h) (fun _ h => by cases h) (fun h => by cases h) (fun h => by cases h) hq0 hq1' hkk0 hkk1 rfl hz hz hnn
    (by rw [hzi, hni]; show ¬ _ > ((arrV (jcA X .int) l1 (fun j => .int (Int32.ofInt (I ks j)))).slots.size : Int); rw [arrV_size]; omega)
    (by rw [hzi, hni]; show ¬ _ > ((arrV (jcA X .int) l2 (fun j => .int (Int32.ofInt (I kd j)))).slots.size : Int); rw [arrV_size]; omega)
    (fun vm₁ _ i hi => by
      rw [hcl] at hi
      have e : (vp_cell (jcA X .int) (l1, .inl (fun j => Int32.ofInt (I ks j)))).slots.getD ((Int32.ofInt 0 : Int32).toNatClampNeg + i) .null = .int (Int32.ofInt (I ks i)) := by
        show (arrV (jcA X .int) l1 (fun j => .int (Int32.ofInt (I ks j)))).slots.getD _ _ = _
        rw [hz0, Nat.zero_add, Array.getD_eq_getD_getElem?, arrV_read _ _ (by omega)]
        rfl
      rw [e]
      exact ⟨rfl, trivial⟩)
    (g := F0 m pc ls (.int (Int32.ofInt cN) :: .int (Int32.ofInt 0) :: .ref (jB X + kd) :: .int (Int32.ofInt 0) :: .ref (jB X + ks) :: st.map (jv X))) rfl (by rw [cm]; exact hL.1) (rest := st.map (jv X)) rfl (by rw [cb]; exact hd) (by omega) (by
      show 2 * 0 + _ + (nativeFrameWords "java/lang/System" "arraycopy" 5 + 11) ≤ _
      rw [jws_ok, show nativeFrameWords "java/lang/System" "arraycopy" 5 = 7 by decide]; omega)
  have e1 : copied (vp_cell (jcA X .int) (l1, .inl (fun j => Int32.ofInt (I ks j)))) (vp_cell (jcA X .int) (l2, .inl (fun j => Int32.ofInt (I kd j)))) (Int32.ofInt 0) (Int32.ofInt 0) (Int32.ofInt (cN : Int)) = vp_cell (jcA X .int) (l2, .inl (fun j => Int32.ofInt (acp (I ks) (I kd) cN j))) := by
    refine (va_copied (fun z => .int z) (jcA X .int) (jcA X .int) (fun j => Int32.ofInt (I ks j)) (fun j => Int32.ofInt (I kd j)) (n0 := l1) (n1 := l2) (by rw [hz0, hcl]; omega)).trans ?_
    rw [hz0, hcl, vp_cell_i]
    congr 1
    funext j
    unfold va_cpy acp
    by_cases hj : j < cN
    · rw [if_pos ⟨Nat.zero_le _, by omega⟩, if_pos hj, Nat.zero_add, Nat.sub_zero]
    · rw [if_neg (by omega), if_neg hj]
  rw [e1] at X' step
  have hlt : jB X + kd < H.size := (Array.getElem?_eq_some_iff.mp hc1).1
  have hheap : ((T.setVm vm').setCell (jB X + kd) (vp_cell (jcA X .int) (l2, .inl (fun j => Int32.ofInt (acp (I ks) (I kd) cN j))))).heap = H.setIfInBounds (jB X + kd) (vp_cell (jcA X .int) (l2, .inl (fun j => Int32.ofInt (acp (I ks) (I kd) cN j)))) := by rw [← hT]; rfl
  have oq : ∀ q : Nat, q ≠ jB X + kd → (H.setIfInBounds (jB X + kd) (vp_cell (jcA X .int) (l2, .inl (fun j => Int32.ofInt (acp (I ks) (I kd) cN j)))))[q]? = H[q]? := fun q hq => by simp [Array.getElem?_setIfInBounds, Ne.symm hq]
  obtain ⟨t, a1, b1⟩ := kk p l e RR s m args below meth c _ _ cells slots QQ ls C hc hs1 (jH_putL (I' := jSf I kd (acp (I ks) (I kd) cN)) (R' := R) (e := .inl (jcA X .int, l2, .inl (fun j => Int32.ofInt (acp (I ks) (I kd) cN j)))) hH hk2 (fun j hj => jen_c (fun i => by rw [jSf_n hj]) (fun _ => rfl)) (by rw [jen_a hs2, jac_i rfl, jSf_s]) (show (H.setIfInBounds (jB X + kd) _)[jB X + kd]? = some _ by simp [Array.getElem?_setIfInBounds, hlt]) (by simp) oq (fun q hq => by
      obtain ⟨z, -, hz⟩ := List.mem_map.mp hq
      rw [← hz])) hL hr _ hheap X'
  exact ⟨t, step t a1, b1⟩
end JS
