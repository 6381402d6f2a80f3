/-! ===== rows over the memory ===== -/
theorem jH_put {X : jX} {I I' : jMI} {R R' : jMR} {n k i : Nat} {e : va_E} {s : State} {H H1 : Heap} {locs : List Loc} (h : jH X I R n s H locs) (hk : k < n) (h1 : ∀ j, j ≠ k → jen X I' R' j = jen X I R j) (h2 : jen X I' R' k = e) (he : va_at (jD X) vwCl (jB X + k, e) H1) (z : H1.size = H.size) (oq : ∀ q : Nat, q ≠ jB X + k → H1[q]? = H[q]?) : jH X I' R' n s H1 (locs ++ [⟨jB X + k, i⟩]) := by
  have hP := h.1.1.set jW_D (jW_get hk) he oq
  rw [jW_set h1 h2] at hP
  exact ⟨⟨hP, by rw [z]; exact h.1.2.1, fun q hb => by rw [oq q (by omega)]; exact h.1.2.2 q hb⟩, h.2.put z oq (show jB X ≤ jB X + k by omega)⟩
theorem j_tys {X : jX} {i : Nat} {ty : FieldType} (h : jTs[i]? = some ty) : (jTys X)[i]? = some (jcA X ty, ty) := by
  simp [jTys, h]
section JS
variable {X : jX} {own nm : String} {cc : ByteArray} {nL : Nat} {ret : Option FieldType} {d bc bs pc : Nat} {L : List (Option jV)} {st : List jV} {I : jMI} {R : jMR} {n : Nat} {Q : Option jV → jMI → jMR → Nat → Prop}

theorem j_getI {k ci j idx : Nat} (fl : jFl own idx ci j) (hd : decode cc pc = .ok (.getfield idx, 3)) (hs : jsh k = .inr ci) (ht : jkd (jty ci j) = 0) (hk : k < n) (kk : J X own nm cc nL ret d bc bs (pc + 3) (L) (jI (I k j) :: st) (I) (R) (n) Q) : J X own nm cc nL ret d bc bs (pc) (L) (jR k :: st) (I) (R) (n) Q := by
  intro p l e RR s m args below meth c H locs cells slots QQ ls C hc hs1 hH hL hr
  have hk1 := jsh_lt hs (by intro q; cases q; exact absurd fl.2.2 (by decide))
  show W p l e RR s m args below meth c H locs cells slots QQ (F0 m pc ls (va_rf (some (jad X k)) :: st.map (jv X)))
  rw [jad_lt hk1]
  refine va_get (ci := ci) (C := jnm ci) (T := jtT ci) (N := jnF ci) (ref := (jtT ci j).1) C.1 C.2.1 (jhts C.2.2.2.2.2.2.2.2.1 args) (j_in fl.2.2) C.2.2.2.1 C.2.2.2.2.2.2.2.2.1.2.1 hH.1.1 k (by rw [jW_get hk, jen_o hs]) (j_vwCl fl.2.2) j fl.2.1 (jhts C.2.2.2.2.2.2.2.2.1 args _ fl.1) (fun _ h => h) (v := .int (Int32.ofInt (I k j))) (by rw [jfs_at fl.2.1, jfv_i ht]) hd ?_
  exact kk p l e RR s m args below meth c H locs cells slots QQ ls C hc hs1 hH hL hr

theorem j_getL {k ci j idx : Nat} (fl : jFl own idx ci j) (hd : decode cc pc = .ok (.getfield idx, 3)) (hs : jsh k = .inr ci) (ht : jkd (jty ci j) = 1) (hk : k < n) (kk : J X own nm cc nL ret d bc bs (pc + 3) (L) (jL (I k j) :: st) (I) (R) (n) Q) : J X own nm cc nL ret d bc bs (pc) (L) (jR k :: st) (I) (R) (n) Q := by
  intro p l e RR s m args below meth c H locs cells slots QQ ls C hc hs1 hH hL hr
  have hk1 := jsh_lt hs (by intro q; cases q; exact absurd fl.2.2 (by decide))
  show W p l e RR s m args below meth c H locs cells slots QQ (F0 m pc ls (va_rf (some (jad X k)) :: st.map (jv X)))
  rw [jad_lt hk1]
  refine va_get (ci := ci) (C := jnm ci) (T := jtT ci) (N := jnF ci) (ref := (jtT ci j).1) C.1 C.2.1 (jhts C.2.2.2.2.2.2.2.2.1 args) (j_in fl.2.2) C.2.2.2.1 C.2.2.2.2.2.2.2.2.1.2.1 hH.1.1 k (by rw [jW_get hk, jen_o hs]) (j_vwCl fl.2.2) j fl.2.1 (jhts C.2.2.2.2.2.2.2.2.1 args _ fl.1) (fun _ h => h) (v := .long (Int64.ofInt (I k j))) (by rw [jfs_at fl.2.1, jfv_l ht]) hd ?_
  exact kk p l e RR s m args below meth c H locs cells slots QQ ls C hc hs1 hH hL hr

theorem j_getR {k ci j idx r : Nat} (fl : jFl own idx ci j) (hd : decode cc pc = .ok (.getfield idx, 3)) (hs : jsh k = .inr ci) (ht : jkd (jty ci j) = 2) (hk : k < n) (hR : R k j = some r) (kk : J X own nm cc nL ret d bc bs (pc + 3) (L) (jR r :: st) (I) (R) (n) Q) : J X own nm cc nL ret d bc bs (pc) (L) (jR k :: st) (I) (R) (n) Q := by
  intro p l e RR s m args below meth c H locs cells slots QQ ls C hc hs1 hH hL hr
  have hk1 := jsh_lt hs (by intro q; cases q; exact absurd fl.2.2 (by decide))
  show W p l e RR s m args below meth c H locs cells slots QQ (F0 m pc ls (va_rf (some (jad X k)) :: st.map (jv X)))
  rw [jad_lt hk1]
  refine va_get (ci := ci) (C := jnm ci) (T := jtT ci) (N := jnF ci) (ref := (jtT ci j).1) C.1 C.2.1 (jhts C.2.2.2.2.2.2.2.2.1 args) (j_in fl.2.2) C.2.2.2.1 C.2.2.2.2.2.2.2.2.1.2.1 hH.1.1 k (by rw [jW_get hk, jen_o hs]) (j_vwCl fl.2.2) j fl.2.1 (jhts C.2.2.2.2.2.2.2.2.1 args _ fl.1) (fun _ h => h) (v := va_rf ((R k j).map (jad X))) (by rw [jfs_at fl.2.1, jfv_r ht]) hd ?_
  exact (by
    rw [hR]
    exact kk p l e RR s m args below meth c H locs cells slots QQ ls C hc hs1 hH hL hr)

theorem j_putI {k ci j idx : Nat} {a : Int} (fl : jFl own idx ci j) (hd : decode cc pc = .ok (.putfield idx, 3)) (hs : jsh k = .inr ci) (ht : jty ci j = .int) (hf : (jtT ci j).2.2.2 = false) (hk : k < n) (kk : J X own nm cc nL ret d bc bs (pc + 3) (L) (st) (jSt I k j a) (R) (n) Q) : J X own nm cc nL ret d bc bs (pc) (L) (jI a :: jR k :: st) (I) (R) (n) Q := by
  intro p l e RR s m args below meth c H locs cells slots QQ ls C hc hs1 hH hL hr
  have hk1 := jsh_lt hs (by intro q; cases q; exact absurd fl.2.2 (by decide))
  show W p l e RR s m args below meth c H locs cells slots QQ (F0 m pc ls (Value.int (Int32.ofInt a) :: va_rf (some (jad X k)) :: st.map (jv X)))
  rw [jad_lt hk1]
  have hts := jhts C.2.2.2.2.2.2.2.2.1 args
  have hK := C.2.2.2.2.2.2.2.2.1.2.1
  have hap := va_apart (own := own) hts (j_in fl.2.2) (jty ci) (j_tyok fl.2.2) (j_nmok fl.2.2) hK (j_vwCl fl.2.2)
  obtain ⟨r, h1, cell, q1, q2, q3, q4⟩ := hH.1.1 k _ (by rw [jW_get hk, jen_o hs])
  have hrr : r = (jnm ci, jtT ci, jnF ci) := Option.some.inj (h1.symm.trans (j_vwCl fl.2.2))
  subst hrr
  obtain ⟨hS, hfc, kC, hkC, hkind⟩ := hK.1 ci _ (j_vwCl fl.2.2)
  obtain ⟨cf, kf, fi, f, hi, hsl⟩ := hS j fl.2.1
  have hlay := hts _ (j_in fl.2.2 _ (u_in_lay fl.2.1))
  unfold u_lay at hlay
  rw [if_neg (by rw [hf]; decide)] at hlay
  have hst := (u_facts hfc hkC (u_lays hts (j_in fl.2.2) fl.2.1) hi).1
  have h6 := u_store (v := .int (Int32.ofInt a)) hfc hkC hkind hlay hi ((j_tyok fl.2.2 j fl.2.1).trans (by rw [ht])) rfl rfl
  refine W.putK C.1 C.2.1 (f := f) ⟨C.2.2.2.1, hts _ fl.1, ⟨_, _, _, hi⟩, hst⟩ (by rw [q2]; exact h6) q1 q3 (by rw [hsl]; exact k2_hasslot (q4 j fl.2.1)) rfl rfl hd fun H' e1 e2 e3 => ?_
  rw [hsl] at e1 ⊢
  refine kk p l e RR s m args below meth c H' _ cells slots QQ ls C hc hs1 (jH_put (e := .inr (ci, (jfs X I R ci k).set j (.int (Int32.ofInt a)))) hH hk (fun i hi => jen_c (jSt_ne hi) (fun _ => rfl)) ((jen_o hs).trans (by rw [jfs_setI (by rw [ht]; rfl)])) ⟨_, j_vwCl fl.2.2, t_OB.to (V := updV (vp_V (jfs X I R ci k)) j (.int (Int32.ofInt a))) ⟨_, e1, q2, q3, t_set q4 hap fl.2.1 _⟩ (fun i _ => vp_updV_set (by simpa [jfs] using fl.2.1) _ i)⟩ e2 e3) hL hr

theorem j_putL {k ci j idx : Nat} {a : Int} (fl : jFl own idx ci j) (hd : decode cc pc = .ok (.putfield idx, 3)) (hs : jsh k = .inr ci) (ht : jty ci j = .long) (hf : (jtT ci j).2.2.2 = false) (hk : k < n) (kk : J X own nm cc nL ret d bc bs (pc + 3) (L) (st) (jSt I k j a) (R) (n) Q) : J X own nm cc nL ret d bc bs (pc) (L) (jL a :: jR k :: st) (I) (R) (n) Q := by
  intro p l e RR s m args below meth c H locs cells slots QQ ls C hc hs1 hH hL hr
  have hk1 := jsh_lt hs (by intro q; cases q; exact absurd fl.2.2 (by decide))
  show W p l e RR s m args below meth c H locs cells slots QQ (F0 m pc ls (Value.long (Int64.ofInt a) :: va_rf (some (jad X k)) :: st.map (jv X)))
  rw [jad_lt hk1]
  have hts := jhts C.2.2.2.2.2.2.2.2.1 args
  have hK := C.2.2.2.2.2.2.2.2.1.2.1
  have hap := va_apart (own := own) hts (j_in fl.2.2) (jty ci) (j_tyok fl.2.2) (j_nmok fl.2.2) hK (j_vwCl fl.2.2)
  obtain ⟨r, h1, cell, q1, q2, q3, q4⟩ := hH.1.1 k _ (by rw [jW_get hk, jen_o hs])
  have hrr : r = (jnm ci, jtT ci, jnF ci) := Option.some.inj (h1.symm.trans (j_vwCl fl.2.2))
  subst hrr
  obtain ⟨hS, hfc, kC, hkC, hkind⟩ := hK.1 ci _ (j_vwCl fl.2.2)
  obtain ⟨cf, kf, fi, f, hi, hsl⟩ := hS j fl.2.1
  have hlay := hts _ (j_in fl.2.2 _ (u_in_lay fl.2.1))
  unfold u_lay at hlay
  rw [if_neg (by rw [hf]; decide)] at hlay
  have hst := (u_facts hfc hkC (u_lays hts (j_in fl.2.2) fl.2.1) hi).1
  have h6 := u_store (v := .long (Int64.ofInt a)) hfc hkC hkind hlay hi ((j_tyok fl.2.2 j fl.2.1).trans (by rw [ht])) rfl rfl
  refine W.putK C.1 C.2.1 (f := f) ⟨C.2.2.2.1, hts _ fl.1, ⟨_, _, _, hi⟩, hst⟩ (by rw [q2]; exact h6) q1 q3 (by rw [hsl]; exact k2_hasslot (q4 j fl.2.1)) rfl rfl hd fun H' e1 e2 e3 => ?_
  rw [hsl] at e1 ⊢
  refine kk p l e RR s m args below meth c H' _ cells slots QQ ls C hc hs1 (jH_put (e := .inr (ci, (jfs X I R ci k).set j (.long (Int64.ofInt a)))) hH hk (fun i hi => jen_c (jSt_ne hi) (fun _ => rfl)) ((jen_o hs).trans (by rw [jfs_setL (by rw [ht]; rfl)])) ⟨_, j_vwCl fl.2.2, t_OB.to (V := updV (vp_V (jfs X I R ci k)) j (.long (Int64.ofInt a))) ⟨_, e1, q2, q3, t_set q4 hap fl.2.1 _⟩ (fun i _ => vp_updV_set (by simpa [jfs] using fl.2.1) _ i)⟩ e2 e3) hL hr

theorem j_putF {k ci j idx r : Nat} (fl : jFl own idx ci j) (hd : decode cc pc = .ok (.putfield idx, 3)) (hs : jsh k = .inr ci) (ht : jkd (jty ci j) = 2) (hf : (jtT ci j).2.2.2 = true) (hin2 : nm = "<init>") (hdecl : (jtT ci j).1 = own) (hk : k < n) (kk : J X own nm cc nL ret d bc bs (pc + 3) (L) (st) (I) (jSr R k j (some r)) (n) Q) : J X own nm cc nL ret d bc bs (pc) (L) (jR r :: jR k :: st) (I) (R) (n) Q := by
  intro p l e RR s m args below meth c H locs cells slots QQ ls C hc hs1 hH hL hr
  have hk1 := jsh_lt hs (by intro q; cases q; exact absurd fl.2.2 (by decide))
  show W p l e RR s m args below meth c H locs cells slots QQ (F0 m pc ls (va_rf (some (jad X r)) :: va_rf (some (jad X k)) :: st.map (jv X)))
  rw [jad_lt hk1]
  have hts := jhts C.2.2.2.2.2.2.2.2.1 args
  have hK := C.2.2.2.2.2.2.2.2.1.2.1
  have hap := va_apart (own := own) hts (j_in fl.2.2) (jty ci) (j_tyok fl.2.2) (j_nmok fl.2.2) hK (j_vwCl fl.2.2)
  obtain ⟨r9, h1, cell, q1, q2, q3, q4⟩ := hH.1.1 k _ (by rw [jW_get hk, jen_o hs])
  have hrr : r9 = (jnm ci, jtT ci, jnF ci) := Option.some.inj (h1.symm.trans (j_vwCl fl.2.2))
  subst hrr
  obtain ⟨hS, hfc, kC, hkC, hkind⟩ := hK.1 ci _ (j_vwCl fl.2.2)
  obtain ⟨cf, kf, fi, f, hi, hsl⟩ := hS j fl.2.1
  have hlay := hts _ (j_in fl.2.2 _ (u_in_lay fl.2.1))
  unfold u_lay at hlay
  rw [if_pos hf] at hlay
  have hst := (u_facts hfc hkC (u_lays hts (j_in fl.2.2) fl.2.1) hi).1
  have hcf : m.cls = cf := by
    obtain ⟨_, _, c', _, _, _, -, -, hf', -, -, -, hown2, -⟩ := Cond.laysFinal_spec hlay
    have e1 : c' = cf := by have := hi.symm.trans hf'; simp at this; exact this.1.symm
    rw [hdecl] at hown2
    rw [← e1]; exact Option.some.inj (C.2.2.2.1.symm.trans hown2)
  have h6 := u_fits (v := .ref (jad X r)) hfc hkC hkind (Or.inr hlay) hi (j_tyok fl.2.2 j fl.2.1) (by cases hq : jty ci j <;> rw [hq] at ht <;> first | rfl | cases ht) (by cases hq : jty ci j <;> rw [hq] at ht <;> first | rfl | cases ht)
  refine W.putFinK C.1 C.2.1 C.2.2.2.1 (hts _ fl.1) hi hst hcf (C.2.2.2.2.2.2.2.2.2.trans hin2) (by rw [q2]; exact h6) q1 q3 (by rw [hsl]; exact k2_hasslot (q4 j fl.2.1)) rfl rfl hd fun H' e1 e2 e3 => ?_
  rw [hsl] at e1 ⊢
  refine kk p l e RR s m args below meth c H' _ cells slots QQ ls C hc hs1 (jH_put (e := .inr (ci, (jfs X I R ci k).set j (.ref (jad X r)))) hH hk (fun i hi => jen_c (fun _ => rfl) (jSr_ne hi)) ((jen_o hs).trans (by rw [jfs_setR ht]; rfl)) ⟨_, j_vwCl fl.2.2, t_OB.to (V := updV (vp_V (jfs X I R ci k)) j (.ref (jad X r))) ⟨_, e1, q2, q3, t_set q4 hap fl.2.1 _⟩ (fun i _ => vp_updV_set (by simpa [jfs] using fl.2.1) _ i)⟩ e2 e3) hL hr

theorem j_iald {k len : Nat} {i : Int} (hd : decode cc pc = .ok (.iaload, 1)) (hs : jsh k = .inl (.int, len)) (hk : k < n) (hi : 0 ≤ i ∧ i < (len : Int)) (hlen : len ≤ 1000) (kk : J X own nm cc nL ret d bc bs (pc + 1) (L) (jI (I k i.toNat) :: st) (I) (R) (n) Q) : J X own nm cc nL ret d bc bs (pc) (L) (jI i :: jR k :: st) (I) (R) (n) Q := by
  intro p l e RR s m args below meth c H locs cells slots QQ ls C hc hs1 hH hL hr
  have hk1 := jsh_lt hs (by intro q; cases q)
  show W p l e RR s m args below meth c H locs cells slots QQ (F0 m pc ls (.int (Int32.ofInt i) :: va_rf (some (jad X k)) :: st.map (jv X)))
  rw [jad_lt hk1]
  refine va_iald (cA := jcA X .int) (n := len) C.1 C.2.1 C.2.2.2.2.2.2.2.2.1.2.1 hH.1.1 k 0 (by rw [jW_get hk, jen_a hs, jac_i rfl]) (j_tys rfl) (jr_in hi hlen) hd ?_
  rw [jr_cl hi hlen]
  exact kk p l e RR s m args below meth c H locs cells slots QQ ls C hc hs1 hH hL hr

theorem j_bald {k len : Nat} {i : Int} (hd : decode cc pc = .ok (.baload, 1)) (hs : jsh k = .inl (.byte, len)) (hk : k < n) (hi : 0 ≤ i ∧ i < (len : Int)) (hlen : len ≤ 1000) (kk : J X own nm cc nL ret d bc bs (pc + 1) (L) (jI (I k i.toNat) :: st) (I) (R) (n) Q) : J X own nm cc nL ret d bc bs (pc) (L) (jI i :: jR k :: st) (I) (R) (n) Q := by
  intro p l e RR s m args below meth c H locs cells slots QQ ls C hc hs1 hH hL hr
  have hk1 := jsh_lt hs (by intro q; cases q)
  show W p l e RR s m args below meth c H locs cells slots QQ (F0 m pc ls (.int (Int32.ofInt i) :: va_rf (some (jad X k)) :: st.map (jv X)))
  rw [jad_lt hk1]
  refine va_bald (cA := jcA X .byte) (n := len) C.1 C.2.1 C.2.2.2.2.2.2.2.2.1.2.1 hH.1.1 k 2 (by rw [jW_get hk, jen_a hs, jac_i rfl]) (j_tys rfl) (jr_in hi hlen) hd ?_
  rw [jr_cl hi hlen]
  exact kk p l e RR s m args below meth c H locs cells slots QQ ls C hc hs1 hH hL hr

theorem j_zald {k len : Nat} {i : Int} (hd : decode cc pc = .ok (.baload, 1)) (hs : jsh k = .inl (.boolean, len)) (hk : k < n) (hi : 0 ≤ i ∧ i < (len : Int)) (hlen : len ≤ 1000) (kk : J X own nm cc nL ret d bc bs (pc + 1) (L) (jI (I k i.toNat) :: st) (I) (R) (n) Q) : J X own nm cc nL ret d bc bs (pc) (L) (jI i :: jR k :: st) (I) (R) (n) Q := by
  intro p l e RR s m args below meth c H locs cells slots QQ ls C hc hs1 hH hL hr
  have hk1 := jsh_lt hs (by intro q; cases q)
  show W p l e RR s m args below meth c H locs cells slots QQ (F0 m pc ls (.int (Int32.ofInt i) :: va_rf (some (jad X k)) :: st.map (jv X)))
  rw [jad_lt hk1]
  refine va_zald (cA := jcA X .boolean) (n := len) C.1 C.2.1 C.2.2.2.2.2.2.2.2.1.2.1 hH.1.1 k 3 (by rw [jW_get hk, jen_a hs, jac_i rfl]) (j_tys rfl) (jr_in hi hlen) hd ?_
  rw [jr_cl hi hlen]
  exact kk p l e RR s m args below meth c H locs cells slots QQ ls C hc hs1 hH hL hr

theorem j_lald {k len : Nat} {i : Int} (hd : decode cc pc = .ok (.laload, 1)) (hs : jsh k = .inl (.long, len)) (hk : k < n) (hi : 0 ≤ i ∧ i < (len : Int)) (hlen : len ≤ 1000) (kk : J X own nm cc nL ret d bc bs (pc + 1) (L) (jL (I k i.toNat) :: st) (I) (R) (n) Q) : J X own nm cc nL ret d bc bs (pc) (L) (jI i :: jR k :: st) (I) (R) (n) Q := by
  intro p l e RR s m args below meth c H locs cells slots QQ ls C hc hs1 hH hL hr
  have hk1 := jsh_lt hs (by intro q; cases q)
  show W p l e RR s m args below meth c H locs cells slots QQ (F0 m pc ls (.int (Int32.ofInt i) :: va_rf (some (jad X k)) :: st.map (jv X)))
  rw [jad_lt hk1]
  refine va_lald (cA := jcA X .long) (n := len) C.1 C.2.1 C.2.2.2.2.2.2.2.2.1.2.1 hH.1.1 k 1 (by rw [jW_get hk, jen_a hs, jac_l rfl]) (j_tys rfl) (jr_in hi hlen) hd ?_
  rw [jr_cl hi hlen]
  exact kk p l e RR s m args below meth c H locs cells slots QQ ls C hc hs1 hH hL hr

theorem j_iast {k len : Nat} {i a : Int} (hd : decode cc pc = .ok (.iastore, 1)) (hs : jsh k = .inl (.int, len)) (hk : k < n) (hi : 0 ≤ i ∧ i < (len : Int)) (hlen : len ≤ 1000) (kk : J X own nm cc nL ret d bc bs (pc + 1) (L) (st) (jSt I k i.toNat a) (R) (n) Q) : J X own nm cc nL ret d bc bs (pc) (L) (jI a :: jI i :: jR k :: st) (I) (R) (n) Q := by
  intro p l e RR s m args below meth c H locs cells slots QQ ls C hc hs1 hH hL hr
  have hk1 := jsh_lt hs (by intro q; cases q)
  show W p l e RR s m args below meth c H locs cells slots QQ (F0 m pc ls (.int (Int32.ofInt a) :: .int (Int32.ofInt i) :: va_rf (some (jad X k)) :: st.map (jv X)))
  rw [jad_lt hk1]
  have hcell : H[jB X + k]? = some (vp_cell (jcA X .int) (len, jac X I R .int k)) := hH.1.1 k (jB X + k, .inl (jcA X .int, len, jac X I R .int k)) (by rw [jW_get hk, jen_a hs])
  rw [jac_i rfl] at hcell
  have hsz : (vp_cell (jcA X .int) (len, .inl (fun j => Int32.ofInt (I k j)))).slots.size = len := arrV_size _ _ _
  have hin := jr_in hi hlen
  refine W.iast C.1 C.2.1 hcell ((C.2.2.2.2.2.2.2.2.1.2.1.2 0 _ (j_tys rfl)).1 len _) (fun q => by cases q) (by rw [hsz]; exact hin) rfl rfl hd fun H1 e1 e2 e3 => ?_
  rw [jr_cl hi hlen] at e1 ⊢
  refine kk p l e RR s m args below meth c H1 _ cells slots QQ ls C hc hs1 (jH_put hH hk (fun i hi => jen_c (jSt_ne hi) (fun _ => rfl)) (jen_a hs) ?_ e2 e3) hL hr
  show H1[jB X + k]? = some (vp_cell _ _)
  rw [e1, jac_i rfl, vp_cell_i, vp_cell_i, arrV_store]
  congr 2
  funext q
  by_cases hq : q = i.toNat
  · subst hq
    simp [updV, jSt_self]
  · simp [updV, hq, jSt_nj hq]

theorem j_last {k len : Nat} {i a : Int} (hd : decode cc pc = .ok (.lastore, 1)) (hs : jsh k = .inl (.long, len)) (hk : k < n) (hi : 0 ≤ i ∧ i < (len : Int)) (hlen : len ≤ 1000) (kk : J X own nm cc nL ret d bc bs (pc + 1) (L) (st) (jSt I k i.toNat a) (R) (n) Q) : J X own nm cc nL ret d bc bs (pc) (L) (jL a :: jI i :: jR k :: st) (I) (R) (n) Q := by
  intro p l e RR s m args below meth c H locs cells slots QQ ls C hc hs1 hH hL hr
  have hk1 := jsh_lt hs (by intro q; cases q)
  show W p l e RR s m args below meth c H locs cells slots QQ (F0 m pc ls (.long (Int64.ofInt a) :: .int (Int32.ofInt i) :: va_rf (some (jad X k)) :: st.map (jv X)))
  rw [jad_lt hk1]
  have hcell : H[jB X + k]? = some (vp_cell (jcA X .long) (len, jac X I R .long k)) := hH.1.1 k (jB X + k, .inl (jcA X .long, len, jac X I R .long k)) (by rw [jW_get hk, jen_a hs])
  rw [jac_l rfl] at hcell
  have hsz : (vp_cell (jcA X .long) (len, .inr (.inl (fun j => Int64.ofInt (I k j))))).slots.size = len := arrV_size _ _ _
  have hin := jr_in hi hlen
  refine W.last C.1 C.2.1 hcell ((C.2.2.2.2.2.2.2.2.1.2.1.2 1 _ (j_tys rfl)).1 len _) (fun q => by cases q) (by rw [hsz]; exact hin) rfl rfl hd fun H1 e1 e2 e3 => ?_
  rw [jr_cl hi hlen] at e1 ⊢
  refine kk p l e RR s m args below meth c H1 _ cells slots QQ ls C hc hs1 (jH_put hH hk (fun i hi => jen_c (jSt_ne hi) (fun _ => rfl)) (jen_a hs) ?_ e2 e3) hL hr
  show H1[jB X + k]? = some (vp_cell _ _)
  rw [e1, jac_l rfl, vp_cell_l, vp_cell_l, arrV_store]
  congr 2
  funext q
  by_cases hq : q = i.toNat
  · subst hq
    simp [updV, jSt_self]
  · simp [updV, hq, jSt_nj hq]

theorem j_bast {k len : Nat} {i a : Int} (hd : decode cc pc = .ok (.bastore, 1)) (hs : jsh k = .inl (.byte, len)) (hk : k < n) (hi : 0 ≤ i ∧ i < (len : Int)) (hv : narrow .byte (.int (Int32.ofInt a)) = .int (Int32.ofInt a)) (hlen : len ≤ 1000) (kk : J X own nm cc nL ret d bc bs (pc + 1) (L) (st) (jSt I k i.toNat a) (R) (n) Q) : J X own nm cc nL ret d bc bs (pc) (L) (jI a :: jI i :: jR k :: st) (I) (R) (n) Q := by
  intro p l e RR s m args below meth c H locs cells slots QQ ls C hc hs1 hH hL hr
  have hk1 := jsh_lt hs (by intro q; cases q)
  show W p l e RR s m args below meth c H locs cells slots QQ (F0 m pc ls (.int (Int32.ofInt a) :: .int (Int32.ofInt i) :: va_rf (some (jad X k)) :: st.map (jv X)))
  rw [jad_lt hk1]
  have hcell : H[jB X + k]? = some (vp_cell (jcA X .byte) (len, jac X I R .byte k)) := hH.1.1 k (jB X + k, .inl (jcA X .byte, len, jac X I R .byte k)) (by rw [jW_get hk, jen_a hs])
  rw [jac_i rfl] at hcell
  have hsz : (vp_cell (jcA X .byte) (len, .inl (fun j => Int32.ofInt (I k j)))).slots.size = len := arrV_size _ _ _
  have hin := jr_in hi hlen
  refine W.bast C.1 C.2.1 hcell ((C.2.2.2.2.2.2.2.2.1.2.1.2 2 _ (j_tys rfl)).1 len _) (fun q => by cases q) (by rw [hsz]; exact hin) rfl rfl hd fun H1 e1 e2 e3 => ?_
  rw [jr_cl hi hlen] at e1 ⊢
  refine kk p l e RR s m args below meth c H1 _ cells slots QQ ls C hc hs1 (jH_put hH hk (fun i hi => jen_c (jSt_ne hi) (fun _ => rfl)) (jen_a hs) ?_ e2 e3) hL hr
  show H1[jB X + k]? = some (vp_cell _ _)
  rw [e1, jac_i rfl, vp_cell_i, vp_cell_i, arrV_store]
  congr 2
  funext q
  by_cases hq : q = i.toNat
  · subst hq
    simp [updV, jSt_self, hv]
  · simp [updV, hq, jSt_nj hq]

theorem j_zast {k len : Nat} {i a : Int} (hd : decode cc pc = .ok (.bastore, 1)) (hs : jsh k = .inl (.boolean, len)) (hk : k < n) (hi : 0 ≤ i ∧ i < (len : Int)) (hv : narrow .boolean (.int (Int32.ofInt a)) = .int (Int32.ofInt a)) (hlen : len ≤ 1000) (kk : J X own nm cc nL ret d bc bs (pc + 1) (L) (st) (jSt I k i.toNat a) (R) (n) Q) : J X own nm cc nL ret d bc bs (pc) (L) (jI a :: jI i :: jR k :: st) (I) (R) (n) Q := by
  intro p l e RR s m args below meth c H locs cells slots QQ ls C hc hs1 hH hL hr
  have hk1 := jsh_lt hs (by intro q; cases q)
  show W p l e RR s m args below meth c H locs cells slots QQ (F0 m pc ls (.int (Int32.ofInt a) :: .int (Int32.ofInt i) :: va_rf (some (jad X k)) :: st.map (jv X)))
  rw [jad_lt hk1]
  have hcell : H[jB X + k]? = some (vp_cell (jcA X .boolean) (len, jac X I R .boolean k)) := hH.1.1 k (jB X + k, .inl (jcA X .boolean, len, jac X I R .boolean k)) (by rw [jW_get hk, jen_a hs])
  rw [jac_i rfl] at hcell
  have hsz : (vp_cell (jcA X .boolean) (len, .inl (fun j => Int32.ofInt (I k j)))).slots.size = len := arrV_size _ _ _
  have hin := jr_in hi hlen
  refine W.zast C.1 C.2.1 hcell ((C.2.2.2.2.2.2.2.2.1.2.1.2 3 _ (j_tys rfl)).1 len _) (fun q => by cases q) (by rw [hsz]; exact hin) rfl rfl hd fun H1 e1 e2 e3 => ?_
  rw [jr_cl hi hlen] at e1 ⊢
  refine kk p l e RR s m args below meth c H1 _ cells slots QQ ls C hc hs1 (jH_put hH hk (fun i hi => jen_c (jSt_ne hi) (fun _ => rfl)) (jen_a hs) ?_ e2 e3) hL hr
  show H1[jB X + k]? = some (vp_cell _ _)
  rw [e1, jac_i rfl, vp_cell_i, vp_cell_i, arrV_store]
  congr 2
  funext q
  by_cases hq : q = i.toNat
  · subst hq
    simp [updV, jSt_self, hv]
  · simp [updV, hq, jSt_nj hq]

theorem j_aald {k len r : Nat} {i : Int} {C0 : String} (t0 : Nat) (hd : decode cc pc = .ok (.aaload, 1)) (hs : jsh k = .inl (.object C0, len)) (ht : jTs[t0]? = some (.object C0)) (hk : k < n) (hi : 0 ≤ i ∧ i < (len : Int)) (hR : R k i.toNat = some r) (hlen : len ≤ 1000) (kk : J X own nm cc nL ret d bc bs (pc + 1) (L) (jR r :: st) (I) (R) (n) Q) : J X own nm cc nL ret d bc bs (pc) (L) (jI i :: jR k :: st) (I) (R) (n) Q := by
  intro p l e RR s m args below meth c H locs cells slots QQ ls C hc hs1 hH hL hr
  have hk1 := jsh_lt hs (by intro q; cases q)
  show W p l e RR s m args below meth c H locs cells slots QQ (F0 m pc ls (.int (Int32.ofInt i) :: va_rf (some (jad X k)) :: st.map (jv X)))
  rw [jad_lt hk1]
  refine va_aldq (C := C0) (cA := jcA X (.object C0)) (n := len) C.1 C.2.1 C.2.2.2.2.2.2.2.2.1.2.1 hH.1.1 k t0 (by rw [jW_get hk, jen_a hs, jac_r rfl]) (j_tys ht) (jr_in hi hlen) hd ?_
  rw [jr_cl hi hlen, hR]
  exact kk p l e RR s m args below meth c H locs cells slots QQ ls C hc hs1 hH hL hr

theorem j_alen {k len : Nat} {ty : FieldType} (t0 : Nat) (hd : decode cc pc = .ok (.arraylength, 1)) (hs : jsh k = .inl (ty, len)) (ht : jTs[t0]? = some ty) (hk : k < n) (kk : J X own nm cc nL ret d bc bs (pc + 1) (L) (jI (len : Int) :: st) (I) (R) (n) Q) : J X own nm cc nL ret d bc bs (pc) (L) (jR k :: st) (I) (R) (n) Q := by
  intro p l e RR s m args below meth c H locs cells slots QQ ls C hc hs1 hH hL hr
  have hk1 := jsh_lt hs (by intro q; cases q)
  show W p l e RR s m args below meth c H locs cells slots QQ (F0 m pc ls (va_rf (some (jad X k)) :: st.map (jv X)))
  rw [jad_lt hk1]
  refine va_alen (cA := jcA X ty) C.1 C.2.1 C.2.2.2.2.2.2.2.2.1.2.1 hH.1.1 k t0 (by rw [jW_get hk, jen_a hs]) (j_tys ht) (v := Int32.ofInt (len : Int)) (Int32.ofInt_eq_ofNat).symm hd ?_
  exact kk p l e RR s m args below meth c H locs cells slots QQ ls C hc hs1 hH hL hr

theorem j_ldc2 {idx : Nat} {a : Int} (hw : .constantLong own idx (Int64.ofInt a) ∈ lw_good) (hd : decode cc pc = .ok (.ldc2_w idx, 3)) (kk : J X own nm cc nL ret d bc bs (pc + 3) (L) (jL a :: st) (I) (R) (n) Q) : J X own nm cc nL ret d bc bs (pc) (L) (st) (I) (R) (n) Q := by
  intro p l e RR s m args below meth c H locs cells slots QQ ls C hc hs1 hH hL hr
  exact W.ldc2 C.1 C.2.1 C.2.2.2.1 (jhts C.2.2.2.2.2.2.2.2.1 args _ hw) rfl hd (kk p l e RR s m args below meth c H locs cells slots QQ ls C hc hs1 hH hL hr)

theorem j_ldc {idx : Nat} {a : Int} (hw : .constant own idx (Int32.ofInt a) ∈ lw_good) (hd : decode cc pc = .ok (.ldc idx, 2)) (kk : J X own nm cc nL ret d bc bs (pc + 2) (L) (jI a :: st) (I) (R) (n) Q) : J X own nm cc nL ret d bc bs (pc) (L) (st) (I) (R) (n) Q := by
  intro p l e RR s m args below meth c H locs cells slots QQ ls C hc hs1 hH hL hr
  exact W.ldc C.1 C.2.1 C.2.2.2.1 (jhts C.2.2.2.2.2.2.2.2.1 args _ hw) rfl hd (kk p l e RR s m args below meth c H locs cells slots QQ ls C hc hs1 hH hL hr)

theorem j_ldcw {idx : Nat} {a : Int} (hw : .constant own idx (Int32.ofInt a) ∈ lw_good) (hd : decode cc pc = .ok (.ldc_w idx, 3)) (kk : J X own nm cc nL ret d bc bs (pc + 3) (L) (jI a :: st) (I) (R) (n) Q) : J X own nm cc nL ret d bc bs (pc) (L) (st) (I) (R) (n) Q := by
  intro p l e RR s m args below meth c H locs cells slots QQ ls C hc hs1 hH hL hr
  exact lv_ldcw C.1 C.2.1 C.2.2.2.1 (jhts C.2.2.2.2.2.2.2.2.1 args _ hw) hd (kk p l e RR s m args below meth c H locs cells slots QQ ls C hc hs1 hH hL hr)

theorem j_iret {a : Int} (hd : decode cc pc = .ok (.ireturn, 1)) (hq : Q (some (jI a)) I R n) (hret : ret = some .int) : J X own nm cc nL ret d bc bs pc L [jI a] I R n Q := by
  intro p l e RR s m args below meth c H locs cells slots QQ ls C hc hs1 hH hL hr
  exact hr (some (jI a)) I R n H locs cells slots pc ls hq hH (by omega) (by omega) (Or.inl hret) hd
theorem j_zret {a : Int} (hd : decode cc pc = .ok (.ireturn, 1)) (ha : a = 0 ∨ a = 1) (hq : Q (some (jI a)) I R n) (hret : ret = some .boolean) : J X own nm cc nL ret d bc bs pc L [jI a] I R n Q := by
  intro p l e RR s m args below meth c H locs cells slots QQ ls C hc hs1 hH hL hr
  exact hr (some (jI a)) I R n H locs cells slots pc ls hq hH (by omega) (by omega) (Or.inr ⟨.boolean, hret, by rcases ha with rfl | rfl <;> decide⟩) hd
theorem j_nret {a : Int} (ty : FieldType) (hd : decode cc pc = .ok (.ireturn, 1)) (ha : narrow ty (.int (Int32.ofInt a)) = .int (Int32.ofInt a)) (hq : Q (some (jI a)) I R n) (hret : ret = some ty) : J X own nm cc nL ret d bc bs pc L [jI a] I R n Q := by
  intro p l e RR s m args below meth c H locs cells slots QQ ls C hc hs1 hH hL hr
  exact hr (some (jI a)) I R n H locs cells slots pc ls hq hH (by omega) (by omega) (Or.inr ⟨ty, hret, ha⟩) hd
theorem j_lret {a : Int} (hd : decode cc pc = .ok (.lreturn, 1)) (hq : Q (some (jL a)) I R n) (hret : ret = some .long) : J X own nm cc nL ret d bc bs pc L [jL a] I R n Q := by
  intro p l e RR s m args below meth c H locs cells slots QQ ls C hc hs1 hH hL hr
  exact hr (some (jL a)) I R n H locs cells slots pc ls hq hH (by omega) (by omega) hret hd
theorem j_vret (hd : decode cc pc = .ok (.return_, 1)) (hq : Q none I R n) (hret : ret = none) : J X own nm cc nL ret d bc bs pc L [] I R n Q := by
  intro p l e RR s m args below meth c H locs cells slots QQ ls C hc hs1 hH hL hr
  exact hr none I R n H locs cells slots pc ls hq hH (by omega) (by omega) hret hd
end JS

