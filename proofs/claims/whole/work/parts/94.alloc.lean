/-! ===== cells that are made ===== -/
def jNr (R : jMR) (n : Nat) : jMR := fun k j => if k = n then none else R k j
def jNw (I : jMI) (n : Nat) : jMI := fun k j => if k = n then 0 else I k j
theorem jNr_s {R : jMR} {n : Nat} {j : Nat} : jNr R n n j = none := by unfold jNr; rw [if_pos rfl]
theorem jNr_n {R : jMR} {n k : Nat} (h : k ≠ n) (j : Nat) : jNr R n k j = R k j := by unfold jNr; rw [if_neg h]
theorem jNw_s {I : jMI} {n : Nat} {j : Nat} : jNw I n n j = 0 := by unfold jNw; rw [if_pos rfl]
theorem jNw_n {I : jMI} {n k : Nat} (h : k ≠ n) (j : Nat) : jNw I n k j = I k j := by unfold jNw; rw [if_neg h]
theorem jW_ag {X : jX} {I I' : jMI} {R R' : jMR} {n : Nat} (h : ∀ k, k < n → (∀ j, I' k j = I k j) ∧ ∀ j, R' k j = R k j) : jW X I' R' n = jW X I R n := by
  unfold jW
  refine List.map_congr_left (fun k hk => ?_)
  obtain ⟨h1, h2⟩ := h k (List.mem_range.mp hk)
  rw [jen_c h1 h2]
theorem jH_new {X : jX} {I : jMI} {R : jMR} {n : Nat} {s : State} {H H1 : Heap} {locs : List Loc} (hH : jH X I R n s H locs) (hat : va_at (jD X) vwCl (jB X + n, jen X (jNw I n) (jNr R n) n) H1) (hz : H1.size = H.size + 1) (ho : ∀ q, q < H.size → H1[q]? = H[q]?) : jH X (jNw I n) (jNr R n) (n + 1) s H1 locs := by
  obtain ⟨⟨hP, hsz, hlo⟩, hS⟩ := hH
  refine ⟨⟨?_, by omega, fun q hq => (ho q (by omega)).trans (hlo q hq)⟩, ⟨Nat.le_trans hS.1 (by omega), fun x h1 h2 => (ho x (Nat.lt_of_lt_of_le h1 hS.1)).trans (hS.2.1 x h1 h2), hS.2.2⟩⟩
  rw [← jW_push, jW_ag (I := I) (R := R) (fun k hk => ⟨jNw_n (by omega), jNr_n (by omega)⟩)]
  refine (hP.kept (fun k q hk => ho q.1 ((hP k q hk).lt))).app (fun k q hk => ?_)
  have hz1 : k < 1 := (List.getElem?_eq_some_iff.mp hk).1
  rw [show k = 0 by omega] at hk
  cases hk
  exact hat
theorem jfv_0 {X : jX} {I : jMI} {R : jMR} {k j : Nat} (h1 : I k j = 0) (h2 : R k j = none) (ty : FieldType) (ht : ty ≠ .float ∧ ty ≠ .double) : defaultValue ty = jfv X I R ty k j := by
  obtain ⟨t1, t2⟩ := ht
  cases ty with
  | float => exact absurd rfl t1
  | double => exact absurd rfl t2
  | long => show _ = Value.long (Int64.ofInt (I k j)); rw [h1]; rfl
  | object c => show _ = va_rf ((R k j).map (jad X)); rw [h2]; rfl
  | array c => show _ = va_rf ((R k j).map (jad X)); rw [h2]; rfl
  | int => show _ = Value.int (Int32.ofInt (I k j)); rw [h1]; rfl
  | byte => show _ = Value.int (Int32.ofInt (I k j)); rw [h1]; rfl
  | char => show _ = Value.int (Int32.ofInt (I k j)); rw [h1]; rfl
  | short => show _ = Value.int (Int32.ofInt (I k j)); rw [h1]; rfl
  | boolean => show _ = Value.int (Int32.ofInt (I k j)); rw [h1]; rfl
theorem jty_ok {ci : Nat} (h : ci < 13) {j : Nat} (hj : j < jnF ci) : jty ci j ≠ .float ∧ jty ci j ≠ .double := by
  have hb : ∀ c : Fin 13, ∀ z : Fin 30, (z : Nat) < jnF c → jty c z ≠ .float ∧ jty c z ≠ .double := by decide +kernel
  have hn : ∀ c : Fin 13, jnF c ≤ 29 := by decide +kernel
  have h1 := hn ⟨ci, h⟩
  simp only at h1
  exact hb ⟨ci, h⟩ ⟨j, by omega⟩ hj
section JS
variable {X : jX} {own nm : String} {cc : ByteArray} {nL : Nat} {ret : Option FieldType} {d bc bs pc : Nat} {L : List (Option jV)} {st : List jV} {I : jMI} {R : jMR} {n : Nat} {Q : Option jV → jMI → jMR → Nat → Prop}
theorem j_newc {ci idx : Nat} (n' bc' bs' : Nat) (hcl : .classLink own idx (jnm ci) ∈ lw_good) (hin : .instantiable (jnm ci) (jnF ci) ∈ lw_good) (hini : .initialized (jnm ci) ∈ lw_good) (hci : ci < 13) (hd : decode cc pc = .ok (.new idx, 3)) (hs : jsh n = .inr ci) (hn' : n' = n + 1) (h1 : bc' + 1 ≤ bc) (h2 : bs' + jnF ci ≤ bs) (kk : J X own nm cc nL ret d bc' bs' (pc + 3) L (jR n :: st) (jNw I n) (jNr R n) n' Q) : J X own nm cc nL ret d bc bs pc L st I R n Q := by
  subst hn'
  intro p l e RR s m args below meth c H locs cells slots QQ ls C hc hs1 hH hL hr
  obtain ⟨cx, cb, cm, co, cr, clk, cf, cl, cK, cn⟩ := id C
  have hts := jhts cK args
  have hKn := cK.2.1.1 ci _ (j_vwCl hci)
  have hn124 := jsh_lt hs (by intro q; cases q; omega)
  refine W.newcK cx cb co (hts _ hcl) (hts _ hin) (hts _ hini) rfl hd (by omega) (by omega) hKn.2.1 rfl fun H1 kC hkC e1 z1 o1 => ?_
  have hsz : H.size = jB X + n := hH.1.2.1
  have hH1 : jH X (jNw I n) (jNr R n) (n + 1) s H1 locs := by
    refine jH_new hH ?_ z1 o1
    rw [jen_o hs]
    refine ⟨_, j_vwCl hci, ?_⟩
    rw [← hsz]
    exact (u_born (jty ci) hts (j_in hci) hKn hkC e1 (j_tyok hci)).to (fun j hj => by show _ = vp_V (jfs X (jNw I n) (jNr R n) ci n) j; unfold vp_V; rw [List.getD_eq_getElem?_getD, jfs_at hj]; exact jfv_0 jNw_s jNr_s _ (jty_ok hci hj))
  have hk := kk p l e RR s m args below meth c H1 locs (cells + 1) (slots + jnF ci) QQ ls C (by omega) (by omega) hH1 hL (fun v2 I2 R2 n2 H2 locs2 cells2 slots2 pc2 ls2 g1 g2 g3 g4 g5 g6 => hr v2 I2 R2 n2 H2 locs2 cells2 slots2 pc2 ls2 g1 g2 (by omega) (by omega) g5 g6)
  have e9 : (jR n :: st).map (jv X) = .ref H.size :: st.map (jv X) := by
    show va_rf (some (jad X n)) :: _ = _
    rw [jad_lt hn124, hsz]; rfl
  rw [e9] at hk
  exact hk
theorem j_newa {ty : FieldType} {len t0 : Nat} (n' bc' bs' : Nat) {at0 : ArrayType} {i : Int} (hty : newarray.typeOf at0 = ty) (harr : .arrayClass ty ∈ lw_good) (ht : jTs[t0]? = some ty) (hob : ∀ (U : State) (cA : ClassId), va_RA U cA ty → U.vm.findClass ("[" ++ ty.toString) = some cA) (hdv : (jkd ty = 0 ∧ defaultValue ty = .int 0) ∨ (jkd ty = 1 ∧ defaultValue ty = .long 0)) (hby : componentBytes ty ≤ 8) (hd : decode cc pc = .ok (.newarray at0, 2)) (hi : i = (len : Int)) (hs : jsh n = .inl (ty, len)) (hlen : len ≤ 999) (hn' : n' = n + 1) (h1 : bc' + 1 ≤ bc) (h2 : bs' + len ≤ bs) (kk : J X own nm cc nL ret d bc' bs' (pc + 2) L (jR n :: st) (jNw I n) (jNr R n) n' Q) : J X own nm cc nL ret d bc bs pc L (jI i :: st) I R n Q := by
  subst hn'
  intro p l e RR s m args below meth c H locs cells slots QQ ls C hc hs1 hH hL hr
  obtain ⟨cx, cb, cm, co, cr, clk, cf, cl, cK, cn⟩ := id C
  have hts := jhts cK args
  have hn124 := jsh_lt hs (by intro q; cases q)
  have hsz : H.size = jB X + n := hH.1.2.1
  subst hi
  have hcl : (Int32.ofInt (len : Int)).toNatClampNeg = len := jr_cl (len := 1000) ⟨by omega, by omega⟩ (by omega)
  have hnn : ¬ (Int32.ofInt (len : Int)) < 0 := by
    rw [Int32.lt_iff_toInt_lt, jr_i (by omega)]; show ¬ (len : Int) < 0; omega
  have hbb : len * componentBytes ty ≤ 536870912 := Nat.le_trans (Nat.mul_le_mul hlen hby) (by omega)
  subst hty
  refine va_newaK (N := len) cx cb (hts _ harr) (g := F0 m pc ls (.int (Int32.ofInt (len : Int)) :: st.map (jv X))) rfl hd rfl hnn hcl hbb (by omega) (by omega) hsz fun H1 cA e1 z1 o1 hAr hNm => ?_
  have hcA : cA = jcA X (newarray.typeOf at0) := Option.some.inj (hNm.symm.trans (hob s _ (cK.2.1.2 t0 _ (j_tys ht)).2))
  subst hcA
  have hH1 : jH X (jNw I n) (jNr R n) (n + 1) s H1 locs := by
    refine jH_new hH ?_ (by omega) (fun q hq => o1 q (by omega))
    rw [jen_a hs]
    show H1[jB X + n]? = some (vp_cell _ _)
    rw [e1]
    congr 1
    rcases hdv with ⟨k0, dv⟩ | ⟨k0, dv⟩
    · rw [jac_i k0, dv]
      show _ = vp_cell (jcA X (newarray.typeOf at0)) (len, .inl (fun j => Int32.ofInt (jNw I n n j)))
      rw [vp_cell_i]
      congr 1
      funext j
      rw [jNw_s]; rfl
    · rw [jac_l k0, dv]
      show _ = vp_cell (jcA X (newarray.typeOf at0)) (len, .inr (.inl (fun j => Int64.ofInt (jNw I n n j))))
      rw [vp_cell_l]
      congr 1
      funext j
      rw [jNw_s]; rfl
  have hk := kk p l e RR s m args below meth c H1 locs (cells + 1) (slots + len) QQ ls C (by omega) (by omega) hH1 hL (fun v2 I2 R2 n2 H2 locs2 cells2 slots2 pc2 ls2 g1 g2 g3 g4 g5 g6 => hr v2 I2 R2 n2 H2 locs2 cells2 slots2 pc2 ls2 g1 g2 (by omega) (by omega) g5 g6)
  have e9 : (jR n :: st).map (jv X) = .ref (jB X + n) :: st.map (jv X) := by
    show va_rf (some (jad X n)) :: _ = _
    rw [jad_lt hn124]; rfl
  rw [e9] at hk
  exact hk
theorem j_newq {E : String} {len idx t0 : Nat} (n' bc' bs' : Nat) {i : Int} (hcl : .classLink own idx E ∈ lw_good) (hov : .arrayOver (.object E) ∈ lw_good) (ht : jTs[t0]? = some (.object E)) (hd : decode cc pc = .ok (.anewarray idx, 3)) (hi : i = (len : Int)) (hs : jsh n = .inl (.object E, len)) (hlen : len ≤ 999) (hn' : n' = n + 1) (h1 : bc' + 1 ≤ bc) (h2 : bs' + len ≤ bs) (kk : J X own nm cc nL ret d bc' bs' (pc + 3) L (jR n :: st) (jNw I n) (jNr R n) n' Q) : J X own nm cc nL ret d bc bs pc L (jI i :: st) I R n Q := by
  subst hn'
  intro p l e RR s m args below meth c H locs cells slots QQ ls C hc hs1 hH hL hr
  obtain ⟨cx, cb, cm, co, cr, clk, cf, cl, cK, cn⟩ := id C
  have hts := jhts cK args
  have hn124 := jsh_lt hs (by intro q; cases q)
  have hsz : H.size = jB X + n := hH.1.2.1
  subst hi
  have hcl' : (Int32.ofInt (len : Int)).toNatClampNeg = len := jr_cl (len := 1000) ⟨by omega, by omega⟩ (by omega)
  have hnn : ¬ (Int32.ofInt (len : Int)) < 0 := by
    rw [Int32.lt_iff_toInt_lt, jr_i (by omega)]; show ¬ (len : Int) < 0; omega
  refine W.anew (n := Int32.ofInt (len : Int)) cx cb co (hts _ hcl) (va_AO.use (va_AO.of (hts _ hov))) (g := F0 m pc ls (.int (Int32.ofInt (len : Int)) :: st.map (jv X))) rfl hd rfl hnn (by rw [hcl']; omega) (by omega) (by rw [hcl']; omega) fun cA kA comp f1 f2 f3 f4 => ?_
  rw [hcl']
  generalize hH1 : H.push ({ cls := cA, slots := Array.replicate len .null, vm := .none } : Cell) = H1
  have z1 : H1.size = H.size + 1 := by rw [← hH1, Array.size_push]
  have e1 : H1[H.size]? = some (arrV cA len (fun _ => .null)) := by rw [← hH1, Array.getElem?_push_size, ← arrV_new]
  have o1 : ∀ q : Nat, q < H.size → H1[q]? = H[q]? := fun q hq => by rw [← hH1, Array.getElem?_push, if_neg (Nat.ne_of_lt hq)]
  obtain ⟨kA', comp', g1, g2, g3, g4⟩ := (cK.2.1.2 t0 _ (j_tys (X := X) ht)).2
  have hcA : cA = jcA X (.object E) := Option.some.inj (f1.symm.trans g4)
  subst hcA
  have hH2 : jH X (jNw I n) (jNr R n) (n + 1) s H1 locs := by
    refine jH_new hH ?_ z1 o1
    rw [jen_a hs]
    show H1[jB X + n]? = some (vp_cell _ _)
    rw [← hsz, e1]
    congr 1
    show _ = vp_cell (jcA X (.object E)) (len, .inr (.inr (.inr (.inr (fun j => (jNr R n n j).map (jad X))))))
    rw [vp_cell_q]
    congr 1
    funext j
    show _ = va_rf ((jNr R n n j).map (jad X))
    rw [jNr_s]; rfl
  have hk := kk p l e RR s m args below meth c H1 locs (cells + 1) (slots + len) QQ ls C (by omega) (by omega) hH2 hL (fun v2 I2 R2 n2 H2 locs2 cells2 slots2 pc2 ls2 g1 g2 g3 g4 g5 g6 => hr v2 I2 R2 n2 H2 locs2 cells2 slots2 pc2 ls2 g1 g2 (by omega) (by omega) g5 g6)
  have e9 : (jR n :: st).map (jv X) = .ref H.size :: st.map (jv X) := by
    show va_rf (some (jad X n)) :: _ = _
    rw [jad_lt hn124, hsz]; rfl
  rw [e9] at hk
  exact hk
theorem j_aast {E : String} {k len r ci t0 : Nat} {i : Int} (j : Nat) (ht : jTs[t0]? = some (.object E)) (hd : decode cc pc = .ok (.aastore, 1)) (hs : jsh k = .inl (.object E, len)) (hk : k < n) (hsr : jsh r = .inr ci) (hci : ci < 13) (hrn : r < n) (hca : jnm ci = E ∨ .castable (jnm ci) E ∈ lw_good) (hi : i = (j : Int)) (hj : j < len) (hlen : len ≤ 1000) (kk : J X own nm cc nL ret d bc bs (pc + 1) L st I (jSr R k j (some r)) n Q) : J X own nm cc nL ret d bc bs pc L (jR r :: jI i :: jR k :: st) I R n Q := by
  intro p l e RR s m args below meth c H locs cells slots QQ ls C hc hs1 hH hL hr
  obtain ⟨cx, cb, cm, co, cr, clk, cf, cl, cK, cn⟩ := id C
  have hts := jhts cK args
  subst hi
  have hk1 := jsh_lt hs (by intro q; cases q)
  have hr1 := jsh_lt hsr (by intro q; cases q; omega)
  show W p l e RR s m args below meth c H locs cells slots QQ (F0 m pc ls (va_rf (some (jad X r)) :: .int (Int32.ofInt (j : Int)) :: va_rf (some (jad X k)) :: st.map (jv X)))
  rw [jad_lt hk1, jad_lt hr1]
  have hcell : H[jB X + k]? = some (vp_cell (jcA X (.object E)) (len, jac X I R (.object E) k)) := hH.1.1 k (jB X + k, .inl (jcA X (.object E), len, jac X I R (.object E) k)) (by rw [jW_get hk, jen_a hs])
  obtain ⟨r', hr', cellV, g1, g2, g3, -⟩ := hH.1.1 r (jB X + r, .inr (ci, jfs X I R ci r)) (by rw [jW_get hrn, jen_o hsr])
  have hcls := (cK.2.1.1 ci _ (j_vwCl hci)).2
  obtain ⟨kA, comp, k1, k2, k3, k4⟩ := (cK.2.1.2 t0 _ (j_tys (X := X) ht)).2
  obtain ⟨kE, hkE, -⟩ := Vm.findClass_spec k3
  obtain ⟨kC, hkC, hkC2⟩ := hcls.2
  have hasg : s.vm.assignable ((jD X).1 ci) comp = true := by
    rcases hca with h | h
    · have : comp = (jD X).1 ci := Option.some.inj (k3.symm.trans (by rw [← h]; exact hcls.1))
      rw [this]
      exact va_assign hcls
    · obtain ⟨c0, t1, f1, f2, f3⟩ := Cond.castable_spec (hts _ h)
      cases hcls.1.symm.trans f1
      cases k3.symm.trans f2
      exact f3
  have hin := jr_in (show 0 ≤ (j : Int) ∧ (j : Int) < (len : Int) by omega) hlen
  have hcl : (Int32.ofInt (j : Int)).toNatClampNeg = j := jr_cl (len := len) ⟨by omega, by omega⟩ hlen
  have h0 : ¬ (Int32.ofInt (j : Int)) < 0 := fun q => hin (Or.inl q)
  refine W.aast cx cb hcell (fun q h => by cases h) (fun h => by cases h) k1 k2 rfl hkE ⟨h0, by show _ < (arrV _ _ _).slots.size; rw [arrV_size, hcl]; exact hj⟩ g1 (fun q h => by rw [g3] at h; cases h) (by rw [g2]; exact hkC) (by rw [g2]; exact hasg) rfl rfl hd fun H1 e z oq => ?_
  rw [hcl] at e ⊢
  refine kk p l _ RR s m args below meth c H1 _ cells slots QQ ls C hc hs1 (jH_put hH hk (fun i hi => jen_c (fun _ => rfl) (jSr_ne hi)) (jen_a hs) ?_ z oq) hL hr
  show H1[jB X + k]? = some (vp_cell _ _)
  rw [e]
  show some (Cell.setSlot (vp_cell (jcA X (.object E)) (len, .inr (.inr (.inr (.inr (fun j => (R k j).map (jad X))))))) _ _) = some (vp_cell (jcA X (.object E)) (len, .inr (.inr (.inr (.inr (fun q => (jSr R k j (some r) k q).map (jad X)))))))
  rw [vp_cell_q, vp_cell_q, arrV_store]
  congr 2
  funext q
  by_cases hq : q = j
  · subst hq
    simp [updV, jSr, va_rf, jad_lt hr1]
  · simp [updV, jSr, hq]
theorem j_chR {R' : jMR} (h : ∀ k, k < n → jen X I R k = jen X I R' k) (kk : J X own nm cc nL ret d bc bs pc L st I R' n Q) : J X own nm cc nL ret d bc bs pc L st I R n Q := by
  intro p l e RR s m args below meth c H locs cells slots QQ ls C hc hs1 hH hL hr
  have hw : jW X I R n = jW X I R' n := by
    unfold jW
    refine List.map_congr_left (fun k hk => ?_)
    rw [h k (List.mem_range.mp hk)]
  refine kk p l e RR s m args below meth c H locs cells slots QQ ls C hc hs1 ?_ hL hr
  obtain ⟨⟨hP, hz⟩, hS⟩ := hH
  rw [hw] at hP
  exact ⟨⟨hP, hz⟩, hS⟩
theorem j_goQ {mc ms : Nat} {rest : List jV} {Qc : Option jV → jMI → jMR → Nat → Prop} (bc' bs' : Nat) (hrun : jRun X own nm cc nL ret d mc ms pc st rest I R n Qc) (h1 : bc' + mc = bc) (h2 : bs' + ms = bs)
    (kk : ∀ (v : Option jV) (I' : jMI) (R' : jMR) (n' : Nat), Qc v I' R' n' → J X own nm cc nL ret d bc' bs' (pc + 3) L (v.toList ++ rest) I' R' n' Q) : J X own nm cc nL ret d bc bs pc L st I R n Q := by
  subst h1
  subst h2
  refine j_go hrun (by omega) (by omega) (fun v I' R' n' h => ?_)
  rw [Nat.add_sub_cancel, Nat.add_sub_cancel]
  exact kk v I' R' n' h
end JS
theorem jSr_x {R : jMR} {k j k' j' : Nat} {a : Option Nat} (h : k' ≠ k ∨ j' ≠ j) : jSr R k j a k' j' = R k' j' := by
  unfold jSr
  rw [if_neg (by omega)]
theorem jSr_r {R : jMR} {k j k' : Nat} {a : Option Nat} (h : k' ≠ k) : jSr R k j a k' = R k' := by
  funext z
  exact jSr_x (Or.inl h)
theorem jNr_r {R : jMR} {n k : Nat} (h : k ≠ n) : jNr R n k = R k := by
  funext z
  exact jNr_n h z
theorem jNw_r {I : jMI} {n k : Nat} (h : k ≠ n) : jNw I n k = I k := by
  funext z
  exact jNw_n h z
