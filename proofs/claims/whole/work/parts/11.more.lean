/-! ===== switches; loops; equal numbers ===== -/
section JS
variable {X : jX} {own nm : String} {cc : ByteArray} {nL : Nat} {ret : Option FieldType} {d bc bs pc : Nat} {L : List (Option jV)} {st rest : List jV} {I : jMI} {R : jMR} {n : Nat} {Q : Option jV → jMI → jMR → Nat → Prop}
/-- where a switch goes -/
def jSw (X : jX) (own nm : String) (cc : ByteArray) (nL : Nat) (ret : Option FieldType) (d bc bs pc : Nat) (L : List (Option jV)) (st : List jV) (I : jMI) (R : jMR) (n : Nat) (Q : Option jV → jMI → jMR → Nat → Prop) (off : Option Int) : Prop :=
  ∃ (o : Int) (tgt : Nat), off = some o ∧ (pc : Int) + o = (tgt : Int) ∧ J X own nm cc nL ret d bc bs tgt L st I R n Q
theorem j_swt {off : Option Int} (o : Int) (tgt : Nat) (h0 : some o = some o) (h1 : off = some o) (h2 : (pc : Int) + o = (tgt : Int)) (k : J X own nm cc nL ret d bc bs tgt L st I R n Q) : jSw X own nm cc nL ret d bc bs pc L st I R n Q off := ⟨o, tgt, h1, h2, k⟩
def jPt (X : jX) (own nm : String) (cc : ByteArray) (nL : Nat) (ret : Option FieldType) (d bc bs : Nat) (p : Int) (L : List (Option jV)) (st : List jV) (I : jMI) (R : jMR) (n : Nat) (Q : Option jV → jMI → jMR → Nat → Prop) : Prop :=
  ∃ tgt : Nat, p = (tgt : Int) ∧ J X own nm cc nL ret d bc bs tgt L st I R n Q
theorem j_pcto {p : Int} (tgt : Nat) (h : p = (tgt : Int)) (k : J X own nm cc nL ret d bc bs tgt L st I R n Q) : jPt X own nm cc nL ret d bc bs p L st I R n Q := ⟨tgt, h, k⟩
theorem j_tsw {a dflt lo hi : Int} {offs : Array Int} {len : Nat} (hd : decode cc pc = .ok (.tableswitch dflt lo hi offs, len)) (ha : -2147483648 ≤ a ∧ a < 2147483648)
    (k0 : (a < lo ∨ hi < a) → jPt X own nm cc nL ret d bc bs ((pc : Int) + dflt) L st I R n Q)
    (k1 : lo ≤ a → a ≤ hi → jSw X own nm cc nL ret d bc bs pc L st I R n Q (offs[(a - lo).toNat]?)) : J X own nm cc nL ret d bc bs pc L (jI a :: st) I R n Q := by
  intro p l e RR s m args below meth c H locs cells slots QQ ls C hc hs1 hH hL hr
  by_cases h : a < lo ∨ hi < a
  · obtain ⟨tgt, e1, k⟩ := k0 h
    exact lv_tableOut C.1 C.2.1 hd (by rw [jr_i ha]; exact h) e1 (k p l e RR s m args below meth c H locs cells slots QQ ls C hc hs1 hH hL hr)
  · obtain ⟨o, tgt, e1, e2, k⟩ := k1 (by omega) (by omega)
    exact lv_tableIn C.1 C.2.1 hd (by rw [jr_i ha]; omega) (by rw [jr_i ha]; omega) (by rw [jr_i ha]; exact e1) e2 (k p l e RR s m args below meth c H locs cells slots QQ ls C hc hs1 hH hL hr)
/-- equal numbers, whatever they are -/
theorem j_same {a : Int} {off : Int} (tgt : Nat) (hd : decode cc pc = .ok (.if_icmp .eq off, 3)) (ht : (pc : Int) + off = (tgt : Int)) (k : J X own nm cc nL ret d bc bs tgt L st I R n Q) : J X own nm cc nL ret d bc bs pc L (jI a :: jI a :: st) I R n Q := by
  intro p l e RR s m args below meth c H locs cells slots QQ ls C hc hs1 hH hL hr
  exact lv_icmp_eq C.1 C.2.1 hd ht (fun _ => k p l e RR s m args below meth c H locs cells slots QQ ls C hc hs1 hH hL hr) (fun q => absurd rfl q)
theorem j_obj0 : Cond.instanceMethod Lib.objectInit ∈ lw_good := List.mem_of_getElem? (i := 91) (by decide +kernel)
theorem j_obj1 : Cond.code Lib.objectInit ⟨#[0xb1]⟩ 1 none ∈ lw_good := List.mem_of_getElem? (i := 92) (by decide +kernel)
theorem j_objI {idx : Nat} (hw : .methodLink own idx Lib.objectInit ∈ lw_good) {k0 : Nat} (hd : decode cc pc = .ok (.invokespecial idx, 3)) (hd1 : 1 ≤ d) (hst : jws st ≤ 8) (k : J X own nm cc nL ret d bc bs (pc + 3) L st I R n Q) : J X own nm cc nL ret d bc bs pc L (jR k0 :: st) I R n Q := by
  intro p l e RR s m args below meth c H locs cells slots QQ ls C hc hs1 hH hL hr
  obtain ⟨cx, cb, cm, co, cr, clk, cf, cl, cK, cn⟩ := id C
  have hts := jhts cK args
  refine W.objInit cx cb co (hts _ hw) (hts _ j_obj0) (hts _ j_obj1) rfl (by rw [cm]; exact hL.1) (rest := st.map (jv X)) rfl hd (by omega) ?_ ?_
  · show 2 * 0 + _ + 12 ≤ RR.locals
    rw [jws_ok]; omega
  · exact k p l e RR s m args below meth c H locs cells slots QQ ls C hc hs1 hH hL hr
end JS
theorem up_ind {σ : Type} (n : Nat) (P : Nat → σ → Prop) (G : Nat → σ → Prop) (hexit : ∀ s, P n s → G n s) (hstep : ∀ i s, i < n → P i s → (∀ s', P (i + 1) s' → G (i + 1) s') → G i s) : ∀ i s, i ≤ n → P i s → G i s := by
  have key : ∀ m i s, i + m = n → P i s → G i s := by
    intro m
    induction m with
    | zero => intro i s h hp; obtain rfl : i = n := by omega
              exact hexit s hp
    | succ m ih => intro i s h hp; exact hstep i s (by omega) hp (fun s' hp' => ih (i + 1) s' (by omega) hp')
  intro i s h hp
  exact key (n - i) i s (by omega) hp
theorem down_ind {σ : Type} (P : Nat → σ → Prop) (G : Nat → σ → Prop) (hexit : ∀ s, P 0 s → G 0 s) (hstep : ∀ i s, P (i + 1) s → (∀ s', P i s' → G i s') → G (i + 1) s) : ∀ i s, P i s → G i s := by
  intro i
  induction i with
  | zero => exact hexit
  | succ i ih => exact fun s h => hstep i s h ih
