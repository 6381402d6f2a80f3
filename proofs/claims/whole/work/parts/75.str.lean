/-! ===== the String constants ===== -/
theorem k_str9 : Cond.fieldLink RJ0 9 "java/lang/String" "value" "[B" ∈ lw_tbl := List.mem_of_getElem? (i := 1322) (by decide +kernel)
theorem k_str15 : Cond.fieldLink RJ0 15 "java/lang/String" "coder" "B" ∈ lw_tbl := List.mem_of_getElem? (i := 1323) (by decide +kernel)
theorem k_str38 : Cond.fieldLink RJ0 38 "java/lang/String" "COMPACT_STRINGS" "Z" ∈ lw_tbl := List.mem_of_getElem? (i := 472) (by decide +kernel)
def sLen : List Nat := [5, 5, 7, 5]
def sByt : List (List Int) := [[104, 111, 117, 115, 101], [115, 116, 97, 105, 114], [115, 108, 101, 101, 112, 101, 114], [116, 104, 105, 110, 103]]
/-- the outer world is as it was -/
theorem jH_base {X : jX} {I : jMI} {R : jMR} {n : Nat} {s : State} {H : Heap} {locs : List Loc} (h : jH X I R n s H locs) (hE : jE X s) : ∀ a : Nat, a < (jHB X).size → ¬ jA X a → H[a]? = (jHB X)[a]? := by
  intro a ha hA
  refine h.1.2.2 a ?_
  have := hE.2.2.2.1
  omega
section JS
variable {X : jX} {own nm : String} {cc : ByteArray} {nL : Nat} {ret : Option FieldType} {d bc bs pc : Nat} {L : List (Option jV)} {st : List jV} {I : jMI} {R : jMR} {n : Nat} {Q : Option jV → jMI → jMR → Nat → Prop}
theorem j_strV {i : Nat} (hi : i < 4) (hd : decode cc pc = .ok (.getfield 9, 3)) (ho : own = RJ0) (kk : J X own nm cc nL ret d bc bs (pc + 3) L (jR (1011 + i) :: st) I R n Q) : J X own nm cc nL ret d bc bs pc L (jR (1001 + i) :: st) I R n Q := by
  intro p l e RR s m args below meth c H locs cells slots QQ ls C hc hs1 hH hL hr
  obtain ⟨cx, cb, cm, co, cr, clk, cf, cl, cK, cn⟩ := id C
  subst ho
  have hE := cK.2.2
  obtain ⟨cf, k, fi, f, cell, h1, h2, h3, h4, h5, h6⟩ := ((hE.2.2.2.2.1.1 i hi).2.2.1).kept (jH_base hH hE)
  show W p l e RR s m args below meth c H locs cells slots QQ (F0 m pc ls (va_rf (some (jad X (1001 + i))) :: st.map (jv X)))
  have e1 : jad X (1001 + i) = jex X (1 + i) := by unfold jad; rw [if_neg (by omega), show 1001 + i - 1000 = 1 + i by omega]
  have e2 : jad X (1011 + i) = jex X (11 + i) := by unfold jad; rw [if_neg (by omega), show 1011 + i - 1000 = 11 + i by omega]
  rw [e1]
  have hk := kk p l e RR s m args below meth c H locs cells slots QQ ls C hc hs1 hH hL hr
  have hk2 : W p l e RR s m args below meth c H locs cells slots QQ (F0 m (pc + 3) ls (.ref (jex X (11 + i)) :: st.map (jv X))) := by
    have : (jR (1011 + i) :: st).map (jv X) = .ref (jex X (11 + i)) :: st.map (jv X) := by
      show va_rf (some (jad X (1011 + i))) :: _ = _
      rw [e2]; rfl
    rw [this] at hk; exact hk
  exact W.getf cx cb co (jhts cK args _ k_str9) h1 h2 h3 h4 (v := .ref (jex X (11 + i))) h5 rfl rfl hd hk2
end JS
