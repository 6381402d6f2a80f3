/-! ===== the JDK's own methods: their names hold a stroke ===== -/
theorem jofW {l : Launch} {y : MethodName} {ws' : List Cond} {rm : Room} {Pc : Array Value → State → Prop} {Qc : Array Value → State → Outcome → State → Prop} {mc ms : Nat} {free : Addr → Prop} {cc : ByteArray} {maxL : Nat} {ret : Option FieldType}
    (hy : plainFor y = true)
    (body : ∀ p e s m args below meth c s₁, BodyLoose p l y (headSpec (Cond.code y cc maxL ret :: ws') rm) cc maxL ret e s m args below meth c s₁ → c.maxLocals = maxL → Pc args s →
      W p l e (headSpec (Cond.code y cc maxL ret :: ws') rm).room s m args below meth c s.heap [] 0 0 (MQ below Qc args s mc ms free) (entryFrame m args maxL)) : Met l y (Cond.code y cc maxL ret :: ws') rm Pc Qc mc ms free := by
  refine MetFree.of_bodySF (code := cc) (maxLocals := maxL) (ret := ret) hy (fun args s m h hn => ?_) (fun p e s m args below meth c s₁ B hml hP _ => ?_)
  · obtain ⟨meth, c, h1, h2, h3, h4, h5, h6, -, -⟩ := Cond.code_spec hn (atoms_spec (ws := Cond.code y cc maxL ret :: ws') h _ List.mem_cons_self)
    exact ⟨meth, c, h1, h2, h3, h4, h5, h6⟩
  · obtain ⟨t, a1, o, b1, b2, b3⟩ := body p e s m args below meth c s₁ B hml hP s₁ (by rw [B.state]; rfl) (Stand.of_body B)
    exact ⟨t, o, a1, b1, b2, b3.1, b3.2⟩
theorem CG.ofJ {X : jX} {y : MethodName} {cc : ByteArray} {nL : Nat} {ret : Option FieldType} {d mc ms : Nat} {As : List jV} {I : jMI} {R : jMR} {n : Nat} {Q : Option jV → jMI → jMR → Nat → Prop} (hy : plainFor y = true) (L : List (Option jV)) (hL : jal As ++ List.replicate (nL - (jal As).length) none = L) (hn : (jal As).length ≤ nL) (h : J X y.cls y.name cc nL ret d mc ms 0 L [] I R n Q) : CG X y cc nL ret d mc ms As I R n Q := by
  intro l
  refine jofW (cc := cc) (maxL := nL) (ret := ret) hy ?_
  intro p e s m args below meth c s₁ B hml hv
  obtain ⟨rfl, hHp, hK⟩ := hv
  have hown : s.vm.findClass y.cls = some m.cls := findClass_of_methodNamed B.named
  have hnm : meth.name = y.name := (name_of_methodNamed B.named B.method).1
  have hr := B.returns
  have hlk := B.notSynchronized
  have hl := lv_entry (As.map (jv X)) (n := nL) (by rw [jal_len]; exact hn)
  rw [lg_entry_eq]
  generalize (lg_sl (As.map (jv X)) ++ List.replicate (nL - (lg_sl (As.map (jv X))).length) Slot.unset).toArray = ls at hl ⊢
  refine h p l e _ s m _ below meth c s.heap [] 0 0 _ ls ⟨B.exec, B.bytes, hml, hown, hr, hlk, Nat.le_refl _, Nat.le_refl _, hK, hnm⟩ (by show 0 + mc ≤ mc; omega) (by show 0 + ms ≤ ms; omega) ⟨hHp, va_S.rf⟩ ⟨hl.1, hl.2.1, fun i v hi => ?_⟩ ?_
  · rw [← hL] at hi
    by_cases hlt : i < (jal As).length
    · rw [List.getElem?_append_left hlt] at hi
      have := hl.2.2 _ (jal_args (X := X) As 0 i v hi)
      rw [Nat.zero_add] at this
      exact this
    · rw [List.getElem?_append_right (by omega)] at hi
      have := List.mem_of_getElem? hi
      rw [List.mem_replicate] at this
      cases this.2
  · intro v I' R' n' H' locs' cells' slots' pc' ls' hq hH' hc' hs' hok hd
    refine W.widen (k := mc) (n := ms) (by omega) (by omega) ?_
    have hpost : ∀ t : State, t.heap = H' → jQc X Q (As.map (jv X)).toArray s (.returned (v.map (jv X))) t := fun t ht => ⟨v, I', R', n', rfl, hq, by rw [ht]; exact hH'.1, by rw [ht]; exact hH'.2.1⟩
    match v, hok, hd, hpost with
    | none, hok, hd, hpost => exact W.vret B.exec B.bytes (hr.trans hok) (fun t ht _ => hpost t ht) hH'.2.2.2 hd
    | some (Sum.inl a), hok, hd, hpost =>
      rcases hok with h1 | ⟨ty, h1, h2⟩
      · exact W.iret B.exec B.bytes (hr.trans h1) (fun t ht _ => hpost t ht) hH'.2.2.2 hd
      · exact W.zret B.exec B.bytes (hr.trans h1) h2 (fun t ht _ => hpost t ht) hH'.2.2.2 hd
    | some (Sum.inr (Sum.inl a)), hok, hd, hpost => exact W.lret B.exec B.bytes (hr.trans hok) (fun t ht _ => hpost t ht) hH'.2.2.2 hd
    | some (Sum.inr (Sum.inr r)), hok, hd, hpost => exact hok.elim
/-! ===== what holds while the program's own cells are still being made ===== -/
def jGi (R0 : jMR) (n0 : Nat) (q : Int → jMI → Prop) : Option jV → jMI → jMR → Nat → Prop := fun v I R n => ∃ r, v = some (jI r) ∧ q r I ∧ R = R0 ∧ n = n0
def jGv (R0 : jMR) (n0 : Nat) (q : jMI → Prop) : Option jV → jMI → jMR → Nat → Prop := fun v I R n => v = none ∧ q I ∧ R = R0 ∧ n = n0
section JS
variable {X : jX} {own nm : String} {cc : ByteArray} {nL : Nat} {ret : Option FieldType} {d bc bs pc : Nat} {L : List (Option jV)} {st rest : List jV} {I : jMI} {R : jMR} {n : Nat} {Q : Option jV → jMI → jMR → Nat → Prop}
theorem j_goIg {q : Int → jMI → Prop} (hrun : jRun X own nm cc nL ret d 0 0 pc st rest I R n (jGi R n q)) (kk : ∀ (r : Int) (I' : jMI), q r I' → J X own nm cc nL ret d bc bs (pc + 3) L (jI r :: rest) I' R n Q) : J X own nm cc nL ret d bc bs pc L st I R n Q := by
  refine j_go hrun (Nat.zero_le _) (Nat.zero_le _) (fun v I' R' n' h => ?_)
  obtain ⟨r, rfl, h, rfl, rfl⟩ := h
  exact kk r I' h
theorem j_goVg {q : jMI → Prop} (hrun : jRun X own nm cc nL ret d 0 0 pc st rest I R n (jGv R n q)) (kk : ∀ (I' : jMI), q I' → J X own nm cc nL ret d bc bs (pc + 3) L rest I' R n Q) : J X own nm cc nL ret d bc bs pc L st I R n Q := by
  refine j_go hrun (Nat.zero_le _) (Nat.zero_le _) (fun v I' R' n' h => ?_)
  obtain ⟨rfl, h, rfl, rfl⟩ := h
  exact kk I' h
theorem j_retig {a : Int} {q : Int → jMI → Prop} (hd : decode cc pc = .ok (.ireturn, 1)) (hq : q a I) (hret : ret = some .int) : J X own nm cc nL ret d bc bs pc L [jI a] I R n (jGi R n q) := j_iret hd ⟨a, rfl, hq, rfl, rfl⟩ hret
theorem j_retvg {q : jMI → Prop} (hd : decode cc pc = .ok (.return_, 1)) (hq : q I) (hret : ret = none) : J X own nm cc nL ret d bc bs pc L [] I R n (jGv R n q) := j_vret hd ⟨rfl, hq, rfl, rfl⟩ hret
end JS
abbrev G_X11_pair (X : jX) (R : jMR) (n : Nat) (As : List jV) (I : jMI) (q : Int → jMI → Prop) : Prop := CG X yX11_pair cX11_pair 2 (some .int) 0 0 0 As I R n (jGi R n q)
abbrev G_J9_min (X : jX) (R : jMR) (n : Nat) (As : List jV) (I : jMI) (q : Int → jMI → Prop) : Prop := CG X yJ9_min_7cf53 cJ9_min_7cf53 2 (some .int) 0 0 0 As I R n (jGi R n q)
theorem g_pair (X : jX) (R : jMR) (n : Nat) (I : jMI) (a b : Int) : G_X11_pair X R n [jI a, jI b] I (fun r I' => r = a * 8 + b ∧ I' = I) := by
  refine CG.of (by decide) [some (jI a), some (jI b)] rfl (Nat.le_of_ble_eq_true rfl) ?_
  refine j_iload_n (pc := 0) dX11_pair_0 rfl ?_
  refine j_bipush (pc := 1) dX11_pair_1 (by decide) ?_
  refine j_imul (pc := 3) dX11_pair_3 ?_
  refine j_iload_n (pc := 4) dX11_pair_4 rfl ?_
  refine j_iadd (pc := 5) dX11_pair_5 ?_
  exact j_retig dX11_pair_6 (⟨rfl, rfl⟩) rfl
theorem g_min (X : jX) (R : jMR) (n : Nat) (I : jMI) (a b : Int) (ha : -2147483648 ≤ a ∧ a < 2147483648) (hb : -2147483648 ≤ b ∧ b < 2147483648) : G_J9_min X R n [jI a, jI b] I (fun r I' => r = (if a ≤ b then a else b) ∧ I' = I) := by
  refine CG.ofJ (by decide +kernel) [some (jI a), some (jI b)] rfl (Nat.le_of_ble_eq_true rfl) ?_
  refine j_iload_n (pc := 0) dJ9_min_7cf53_0 rfl ?_
  refine j_iload_n (pc := 1) dJ9_min_7cf53_1 rfl ?_
  refine j_icmp_gt (pc := 2) 9 dJ9_min_7cf53_2 (by decide) (by omega) (by omega) (fun h_2 => ?_) (fun h_2 => ?_)
  · refine j_iload_n (pc := 9) dJ9_min_7cf53_9 rfl ?_
    exact j_retig dJ9_min_7cf53_10 (⟨by split <;> omega, rfl⟩) rfl
  · refine j_iload_n (pc := 5) dJ9_min_7cf53_5 rfl ?_
    refine j_goto (pc := 6) 10 dJ9_min_7cf53_6 (by decide) ?_
    exact j_retig dJ9_min_7cf53_10 (⟨by split <;> omega, rfl⟩) rfl
theorem c_min (X : jX) (I : jMI) (a b : Int) (ha : -2147483648 ≤ a ∧ a < 2147483648) (hb : -2147483648 ≤ b ∧ b < 2147483648) : C_J9_min_7cf53 X [jI a, jI b] I (fun r I' => r = (if a ≤ b then a else b) ∧ I' = I) := g_min X RF 124 I a b ha hb
theorem c_max (X : jX) (I : jMI) (a b : Int) (ha : -9000000000000000000 ≤ a ∧ a ≤ 9000000000000000000) (hb : -9000000000000000000 ≤ b ∧ b ≤ 9000000000000000000) : C_J9_max_f86c9 X [jL a, jL b] I (fun r I' => r = (if b ≤ a then a else b) ∧ I' = I) := by
  refine CG.ofJ (by decide +kernel) [some (jL a), none, some (jL b), none] rfl (Nat.le_of_ble_eq_true rfl) ?_
  have hj := jcmp_lt (a := a) (b := b) (by omega) (by omega)
  refine j_lload_n (pc := 0) dJ9_max_f86c9_0 rfl ?_
  refine j_lload_n (pc := 1) dJ9_max_f86c9_1 rfl ?_
  refine j_lcmp (pc := 2) dJ9_max_f86c9_2 ?_
  rw [hj]
  refine j_if_lt (pc := 3) 10 dJ9_max_f86c9_3 (by decide) (by omega) (fun h_3 => ?_) (fun h_3 => ?_)
  · refine j_lload_n (pc := 10) dJ9_max_f86c9_10 rfl ?_
    refine j_retl dJ9_max_f86c9_11 (?_) rfl
    refine ⟨?_, rfl⟩
    repeat' split at h_3
    all_goals first
      | (exfalso; omega)
      | rw [if_pos (by omega)]
      | rw [if_neg (by omega)]
  · refine j_lload_n (pc := 6) dJ9_max_f86c9_6 rfl ?_
    refine j_goto (pc := 7) 11 dJ9_max_f86c9_7 (by decide) ?_
    refine j_retl dJ9_max_f86c9_11 (?_) rfl
    refine ⟨?_, rfl⟩
    repeat' split at h_3
    all_goals first
      | (exfalso; omega)
      | rw [if_pos (by omega)]
      | rw [if_neg (by omega)]
/-! walks by way of the rooms below a number -/
def wm (e : Nat → Nat → Prop) : Nat → Nat → Nat → Nat → Prop
  | 0, k, a, b => (k = 0 ∧ a = b) ∨ (k = 1 ∧ e a b)
  | m + 1, k, a, b => wm e m k a b ∨ ∃ k1 k2, k1 + k2 ≤ k ∧ wm e m k1 a m ∧ wm e m k2 m b
theorem wm_up {e : Nat → Nat → Prop} {k a b : Nat} : ∀ m, wm e 0 k a b → wm e m k a b := by
  intro m h
  induction m with
  | zero => exact h
  | succ m ih => exact Or.inl ih
theorem wm_tr {e : Nat → Nat → Prop} : ∀ (m : Nat) (k1 k2 a b c : Nat), c < m → wm e m k1 a c → wm e m k2 c b → ∃ k, k ≤ k1 + k2 ∧ wm e m k a b := by
  intro m
  induction m with
  | zero => intro k1 k2 a b c h; omega
  | succ m ih =>
    intro k1 k2 a b c hc h1 h2
    by_cases hcm : c = m
    · subst hcm
      have g1 : ∃ k, k ≤ k1 ∧ wm e c k a c := by
        rcases h1 with h1 | ⟨x, y, hxy, h3, h4⟩
        · exact ⟨k1, Nat.le_refl _, h1⟩
        · exact ⟨x, by omega, h3⟩
      have g2 : ∃ k, k ≤ k2 ∧ wm e c k c b := by
        rcases h2 with h2 | ⟨x, y, hxy, h3, h4⟩
        · exact ⟨k2, Nat.le_refl _, h2⟩
        · exact ⟨y, by omega, h4⟩
      obtain ⟨x, hx, g1⟩ := g1
      obtain ⟨y, hy, g2⟩ := g2
      exact ⟨x + y, by omega, Or.inr ⟨x, y, Nat.le_refl _, g1, g2⟩⟩
    · have hc' : c < m := by omega
      rcases h1 with h1 | ⟨x, y, hxy, h3, h4⟩ <;> rcases h2 with h2 | ⟨x', y', hxy', h3', h4'⟩
      · obtain ⟨k, hk, h⟩ := ih _ _ _ _ _ hc' h1 h2
        exact ⟨k, hk, Or.inl h⟩
      · obtain ⟨k, hk, h⟩ := ih _ _ _ _ _ hc' h1 h3'
        exact ⟨k + y', by omega, Or.inr ⟨k, y', Nat.le_refl _, h, h4'⟩⟩
      · obtain ⟨k, hk, h⟩ := ih _ _ _ _ _ hc' h4 h2
        exact ⟨x + k, by omega, Or.inr ⟨x, k, Nat.le_refl _, h3, h⟩⟩
      · exact ⟨x + y', by omega, Or.inr ⟨x, y', Nat.le_refl _, h3, h4'⟩⟩
