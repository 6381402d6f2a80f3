/-! ===== the String constants ===== -/
theorem k_str9 : Cond.fieldLink RJ0 9 "java/lang/String" "value" "[B" ∈ lw_good := List.mem_of_getElem? (i := 1321) (by decide +kernel)
theorem k_str15 : Cond.fieldLink RJ0 15 "java/lang/String" "coder" "B" ∈ lw_good := List.mem_of_getElem? (i := 1322) (by decide +kernel)
theorem k_str38 : Cond.fieldLink RJ0 38 "java/lang/String" "COMPACT_STRINGS" "Z" ∈ lw_good := List.mem_of_getElem? (i := 472) (by decide +kernel)
theorem k_str1053 : Cond.fieldLink RJ0 1053 "jdk/internal/util/Preconditions" "SIOOBE_FORMATTER" "Ljava/util/function/BiFunction;" ∈ lw_good := List.mem_of_getElem? (i := 488) (by decide +kernel)
def sLen : List Nat := [5, 5, 7, 5]
def sByt : List (List Int) := [[104, 111, 117, 115, 101], [115, 116, 97, 105, 114], [115, 108, 101, 101, 112, 101, 114], [116, 104, 105, 110, 103]]
/-- the outer world is as it was -/
theorem jH_base {X : jX} {I : jMI} {R : jMR} {n : Nat} {s : State} {H : Heap} {locs : List Loc} (h : jH X I R n s H locs) (hE : jE X s) : ∀ a : Nat, a < (jHB X).size → ¬ jA X a → H[a]? = (jHB X)[a]? := by
  intro a ha hA
  refine h.1.2.2 a ?_
  have := hE.2.2.2.1
  omega
section JS
variable {X : jX} {own nm : String} {cc : ByteArray} {nL : Nat} {ret : Option FieldType} {d bc bs pc : Nat} {L : List (Option jV)} {st : List jV} {I : jMI} {R : jMR} {n : Nat} {Q : Option jV → jMI → jMR → Nat → Prop}
theorem j_strV {i : Nat} (hi : i < 4) (hd : decode cc pc = .ok (.getfield 9, 3)) (ho : own = RJ0) (kk : J X own nm cc nL ret d bc bs (pc + 3) L (jR (1011 + i) :: st) I R n Q) : J X own nm cc nL ret d bc bs pc L (jR (1001 + i) :: st) I R n Q := by
  intro p l e RR s m args below meth c H locs cells slots QQ ls C hc hs1 hH hL hr
  obtain ⟨cx, cb, cm, co, cr, clk, cf, cl, cK, cn⟩ := id C
  subst ho
  have hE := cK.2.2
  obtain ⟨cf, k, fi, f, cell, h1, h2, h3, h4, h5, h6⟩ := ((hE.2.2.2.2.1.1 i hi).2.2.1).kept (jH_base hH hE)
  show W p l e RR s m args below meth c H locs cells slots QQ (F0 m pc ls (va_rf (some (jad X (1001 + i))) :: st.map (jv X)))
  have e1 : jad X (1001 + i) = jex X (1 + i) := by unfold jad; rw [if_neg (by omega), show 1001 + i - 1000 = 1 + i by omega]
  have e2 : jad X (1011 + i) = jex X (11 + i) := by unfold jad; rw [if_neg (by omega), show 1011 + i - 1000 = 11 + i by omega]
  rw [e1]
  have hk := kk p l e RR s m args below meth c H locs cells slots QQ ls C hc hs1 hH hL hr
  have hk2 : W p l e RR s m args below meth c H locs cells slots QQ (F0 m (pc + 3) ls (.ref (jex X (11 + i)) :: st.map (jv X))) := by
    have : (jR (1011 + i) :: st).map (jv X) = .ref (jex X (11 + i)) :: st.map (jv X) := by
      show va_rf (some (jad X (1011 + i))) :: _ = _
      rw [e2]; rfl
    rw [this] at hk; exact hk
  exact W.getf cx cb co (jhts cK args _ k_str9) h1 h2 h3 h4 (v := .ref (jex X (11 + i))) h5 rfl rfl hd hk2
theorem j_strC {i : Nat} (hi : i < 4) (hd : decode cc pc = .ok (.getfield 15, 3)) (ho : own = RJ0) (kk : J X own nm cc nL ret d bc bs (pc + 3) L (jI 0 :: st) I R n Q) : J X own nm cc nL ret d bc bs pc L (jR (1001 + i) :: st) I R n Q := by
  intro p l e RR s m args below meth c H locs cells slots QQ ls C hc hs1 hH hL hr
  obtain ⟨cx, cb, cm, co, cr, clk, cf, cl, cK, cn⟩ := id C
  subst ho
  have hE := cK.2.2
  obtain ⟨cf, k, fi, f, cell, h1, h2, h3, h4, h5, h6⟩ := ((hE.2.2.2.2.1.1 i hi).2.1).kept (jH_base hH hE)
  show W p l e RR s m args below meth c H locs cells slots QQ (F0 m pc ls (va_rf (some (jad X (1001 + i))) :: st.map (jv X)))
  have e1 : jad X (1001 + i) = jex X (1 + i) := by unfold jad; rw [if_neg (by omega), show 1001 + i - 1000 = 1 + i by omega]
  rw [e1]
  exact W.getf cx cb co (jhts cK args _ k_str15) h1 h2 h3 h4 (v := .int 0) h5 rfl rfl hd (kk p l e RR s m args below meth c H locs cells slots QQ ls C hc hs1 hH hL hr)
theorem j_cmpS (hd : decode cc pc = .ok (.getstatic 38, 3)) (ho : own = RJ0) (kk : J X own nm cc nL ret d bc bs (pc + 3) L (jI 1 :: st) I R n Q) : J X own nm cc nL ret d bc bs pc L st I R n Q := by
  intro p l e RR s m args below meth c H locs cells slots QQ ls C hc hs1 hH hL hr
  obtain ⟨cx, cb, cm, co, cr, clk, cf, cl, cK, cn⟩ := id C
  subst ho
  have hE := cK.2.2
  obtain ⟨cf, kf, fi, f, a, cell, h1, h2, h3, h4, h5, h6, h7, h8⟩ := (hE.2.2.2.2.2.2.1).kept (jH_base hH hE)
  exact W.gets cx cb co (jhts cK args _ k_str38) h1 h2 h3 h4 h5 (fun e => by rw [e] at h6; cases h6) h7 rfl hd (kk p l e RR s m args below meth c H locs cells slots QQ ls C hc hs1 hH hL hr)
theorem j_sio (hd : decode cc pc = .ok (.getstatic 1053, 3)) (ho : own = RJ0) (k1 : J X own nm cc nL ret d bc bs (pc + 3) L (jN :: st) I R n Q) (k2 : J X own nm cc nL ret d bc bs (pc + 3) L (jR 1021 :: st) I R n Q) : J X own nm cc nL ret d bc bs pc L st I R n Q := by
  intro p l e RR s m args below meth c H locs cells slots QQ ls C hc hs1 hH hL hr
  obtain ⟨cx, cb, cm, co, cr, clk, cf, cl, cK, cn⟩ := id C
  subst ho
  have hE := cK.2.2
  rcases hE.2.2.2.2.2.2.2 with hz | hz
  · obtain ⟨cf, kf, fi, f, a, cell, h1, h2, h3, h4, h5, h6, h7, h8⟩ := hz.kept (jH_base hH hE)
    exact W.gets cx cb co (jhts cK args _ k_str1053) h1 h2 h3 h4 h5 (fun e => by rw [e] at h6; cases h6) h7 rfl hd (k1 p l e RR s m args below meth c H locs cells slots QQ ls C hc hs1 hH hL hr)
  · obtain ⟨cf, kf, fi, f, a, cell, h1, h2, h3, h4, h5, h6, h7, h8⟩ := hz.kept (jH_base hH hE)
    exact W.gets cx cb co (jhts cK args _ k_str1053) h1 h2 h3 h4 h5 (fun e => by rw [e] at h6; cases h6) h7 rfl hd (k2 p l e RR s m args below meth c H locs cells slots QQ ls C hc hs1 hH hL hr)
theorem j_strL {i : Nat} (hi : i < 4) (hd : decode cc pc = .ok (.arraylength, 1)) (kk : J X own nm cc nL ret d bc bs (pc + 1) L (jI ((sLen.getD i 0 : Nat) : Int) :: st) I R n Q) : J X own nm cc nL ret d bc bs pc L (jR (1011 + i) :: st) I R n Q := by
  intro p l e RR s m args below meth c H locs cells slots QQ ls C hc hs1 hH hL hr
  obtain ⟨cx, cb, cm, co, cr, clk, cf, cl, cK, cn⟩ := id C
  have hE := cK.2.2
  obtain ⟨cell, h1, h2, h3, h4, h5, h6, h7⟩ := ((hE.2.2.2.2.1.1 i hi).2.2.2).kept (jH_base hH hE)
  show W p l e RR s m args below meth c H locs cells slots QQ (F0 m pc ls (va_rf (some (jad X (1011 + i))) :: st.map (jv X)))
  have e1 : jad X (1011 + i) = jex X (11 + i) := by unfold jad; rw [if_neg (by omega), show 1011 + i - 1000 = 11 + i by omega]
  rw [e1]
  have hk := kk p l e RR s m args below meth c H locs cells slots QQ ls C hc hs1 hH hL hr
  have e2 : (Int32.ofInt ((sLen.getD i 0 : Nat) : Int)) = Int32.ofNat ([5, 5, 7, 5].getD i 0) := Int32.ofInt_eq_ofNat
  have hk2 : W p l e RR s m args below meth c H locs cells slots QQ (F0 m (pc + 1) ls (.int (Int32.ofNat ([5, 5, 7, 5].getD i 0)) :: st.map (jv X))) := by
    have : (jI ((sLen.getD i 0 : Nat) : Int) :: st).map (jv X) = .int (Int32.ofNat ([5, 5, 7, 5].getD i 0)) :: st.map (jv X) := by
      show Value.int (Int32.ofInt ((sLen.getD i 0 : Nat) : Int)) :: _ = _
      rw [e2]
    rw [this] at hk; exact hk
  exact W.alen (n := Int32.ofNat ([5, 5, 7, 5].getD i 0)) cx cb h1 h2 h5 rfl rfl hd hk2
theorem j_strB {i j : Nat} (hi : i < 4) (hj : j < sLen.getD i 0) (hd : decode cc pc = .ok (.baload, 1)) (kk : J X own nm cc nL ret d bc bs (pc + 1) L (jI ((sByt.getD i []).getD j 0) :: st) I R n Q) : J X own nm cc nL ret d bc bs pc L (jI j :: jR (1011 + i) :: st) I R n Q := by
  intro p l e RR s m args below meth c H locs cells slots QQ ls C hc hs1 hH hL hr
  obtain ⟨cx, cb, cm, co, cr, clk, cf, cl, cK, cn⟩ := id C
  have hE := cK.2.2
  obtain ⟨cell, h1, h2, h3, h4, h5, h6, h7⟩ := ((hE.2.2.2.2.1.1 i hi).2.2.2).kept (jH_base hH hE)
  show W p l e RR s m args below meth c H locs cells slots QQ (F0 m pc ls (.int (Int32.ofInt j) :: va_rf (some (jad X (1011 + i))) :: st.map (jv X)))
  have e1 : jad X (1011 + i) = jex X (11 + i) := by unfold jad; rw [if_neg (by omega), show 1011 + i - 1000 = 11 + i by omega]
  rw [e1]
  have hlen : sLen.getD i 0 ≤ 7 := by
    rcases (show i = 0 ∨ i = 1 ∨ i = 2 ∨ i = 3 by omega) with rfl | rfl | rfl | rfl <;> decide
  have hcl : (Int32.ofInt (j : Int)).toNatClampNeg = j := jr_cl (len := 1000) ⟨by omega, by omega⟩ (by omega)
  have hnn : ¬ (Int32.ofInt (j : Int)) < 0 := by
    rw [Int32.lt_iff_toInt_lt, jr_i (by omega)]; show ¬ (j : Int) < 0; omega
  have hin : ¬ ((Int32.ofInt (j : Int)) < 0 ∨ cell.slots.size ≤ (Int32.ofInt (j : Int)).toNatClampNeg) := by
    rintro (q | q)
    · exact hnn q
    · rw [hcl] at q
      have : sLen.getD i 0 ≤ cell.slots.size := h4
      omega
  have hb : ∀ i : Fin 4, ∀ j : Fin 7, Int32.ofInt ((sByt.getD i []).getD j 0) = ([[104, 111, 117, 115, 101], [115, 116, 97, 105, 114], [115, 108, 101, 101, 112, 101, 114], [116, 104, 105, 110, 103]].getD i []).getD j 0 := by decide +kernel
  have hbb := hb ⟨i, hi⟩ ⟨j, by omega⟩
  refine W.bald (v := .int (Int32.ofInt ((sByt.getD i []).getD j 0))) cx cb h1 h2 h3 hin (by rw [hcl, h6 j hj, hbb]) rfl rfl hd ?_
  exact kk p l e RR s m args below meth c H locs cells slots QQ ls C hc hs1 hH hL hr
theorem j_ldcS {i idx : Nat} {tx : String} (hi : i < 4) (hR : jE X = jE X) (hz : ∀ U, jE X U → vk_R own idx tx (jex X (1 + i)) U) (hd : decode cc pc = .ok (.ldc idx, 2)) (kk : J X own nm cc nL ret d bc bs (pc + 2) L (jR (1001 + i) :: st) I R n Q) : J X own nm cc nL ret d bc bs pc L st I R n Q := by
  intro p l e RR s m args below meth c H locs cells slots QQ ls C hc hs1 hH hL hr
  obtain ⟨cx, cb, cm, co, cr, clk, cf, cl, cK, cn⟩ := id C
  have hk := kk p l e RR s m args below meth c H locs cells slots QQ ls C hc hs1 hH hL hr
  have e1 : jad X (1001 + i) = jex X (1 + i) := by unfold jad; rw [if_neg (by omega), show 1001 + i - 1000 = 1 + i by omega]
  have hk2 : W p l e RR s m args below meth c H locs cells slots QQ (F0 m (pc + 2) ls (.ref (jex X (1 + i)) :: st.map (jv X))) := by
    have : (jR (1001 + i) :: st).map (jv X) = .ref (jex X (1 + i)) :: st.map (jv X) := by
      show va_rf (some (jad X (1001 + i))) :: _ = _
      rw [e1]; rfl
    rw [this] at hk; exact hk
  exact va_ldcS cx cb co (hz s cK.2.2) hd hk2
end JS
