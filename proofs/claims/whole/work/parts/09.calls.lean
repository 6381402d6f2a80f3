/-! ===== calls and entries ===== -/
def jws : List jV → Nat
  | [] => 0
  | Sum.inr (Sum.inl _) :: r => 2 + jws r
  | _ :: r => 1 + jws r
theorem jws_ok {X : jX} : ∀ r : List jV, ((r.map (jv X)).map fun v => v.category).sum = jws r
  | [] => rfl
  | Sum.inl a :: r => by
    have := jws_ok (X := X) r
    simp only [List.map_cons, List.sum_cons, jws, this]
    rfl
  | Sum.inr (Sum.inl a) :: r => by
    have := jws_ok (X := X) r
    simp only [List.map_cons, List.sum_cons, jws, this]
    rfl
  | Sum.inr (Sum.inr none) :: r => by
    have := jws_ok (X := X) r
    simp only [List.map_cons, List.sum_cons, jws, this]
    rfl
  | Sum.inr (Sum.inr (some k)) :: r => by
    have := jws_ok (X := X) r
    simp only [List.map_cons, List.sum_cons, jws, this]
    rfl
/-- a method by its name: code, places, answer, arguments -/
def jMd (y : MethodName) (cc : ByteArray) (nL : Nat) (ret : Option FieldType) (na : Nat) : Prop :=
  .code y cc nL ret ∈ lw_good ∧ .initialized y.cls ∈ lw_good ∧ (y.cls ≠ "java/lang/invoke/MethodHandle" ∧ y.cls ≠ "java/lang/invoke/VarHandle") ∧ (parseMethodDescriptor y.desc).map (fun d => d.parameters.length) = some na ∧ nL ≤ 17
def jLS (own : String) (idx : Nat) (y : MethodName) : Prop := .methodLink own idx y ∈ lw_good ∧ .static y ∈ lw_good
def jLSN (own : String) (idx : Nat) (y : MethodName) (host : String) : Prop := .methodLinkNest own idx y host ∈ lw_good ∧ .static y ∈ lw_good
def jLV (own : String) (idx : Nat) (y : MethodName) : Prop := .methodLink own idx y ∈ lw_good ∧ .instanceMethod y ∈ lw_good ∧ .selects y.cls y y ∈ lw_good
def jLI (own : String) (idx : Nat) (y : MethodName) : Prop := .methodLink own idx y ∈ lw_good ∧ .instanceMethod y ∈ lw_good ∧ y.name = "<init>"
def jLIN (own : String) (idx : Nat) (y : MethodName) (host : String) : Prop := .methodLinkNest own idx y host ∈ lw_good ∧ .instanceMethod y ∈ lw_good ∧ y.name = "<init>"
def jLO (own : String) (idx : Nat) (C : String) (x y : MethodName) : Prop := .methodLink own idx x ∈ lw_good ∧ .sameMethod x.cls x.cls x.name x.desc ∈ lw_good ∧ .selects C x y ∈ lw_good ∧ .instanceMethod y ∈ lw_good ∧ .instanceMethod x ∈ lw_good ∧ (∃ b n r, .code x b n r ∈ lw_good) ∧ (x.cls ≠ "java/lang/invoke/MethodHandle" ∧ x.cls ≠ "java/lang/invoke/VarHandle") ∧ x.desc = y.desc
def jLU (own : String) (idx : Nat) (y : MethodName) : Prop := .methodLink own idx y ∈ lw_good ∧ .sameMethod y.cls y.cls y.name y.desc ∈ lw_good ∧ .superclass own y.cls ∈ lw_good ∧ .instanceMethod y ∈ lw_good ∧ y.name ≠ "<init>"
theorem jK.moved {X : jX} {s U : State} (hW : s.WarmedH U.vm) (h : jK X s) : jK X U := by
  obtain ⟨h1, h2, ⟨e1, e2, e3, e4, e5, ⟨r1, r2, r3, r4⟩, e6, e7⟩⟩ := h
  exact ⟨fun w hw a V hV => h1 w hw a V (State.WarmedH.trans hW hV), va_K.moved hW.alike h2, ⟨e1.moved hW.alike, e2, e3, e4, e5.moved hW.alike, ⟨r1.warm hW, r2.warm hW, r3.warm hW, r4.warm hW⟩, e6.moved hW.alike, e7.imp (va_Z.moved hW.alike) (va_Z.moved hW.alike)⟩⟩
theorem jPc_blind {X : jX} {As : List jV} {I : jMI} {R : jMR} {n : Nat} : FrameBlind (jPc X As I R n) := by
  intro a U g mk h
  exact ⟨h.1, h.2.1, jK.moved (U := U.calling g mk a) (State.WarmedH.refl U) h.2.2⟩
theorem jlen {y : MethodName} {cc : ByteArray} {nL na : Nat} {ret : Option FieldType} (h : jMd y cc nL ret na) : ∀ sig, parseMethodDescriptor y.desc = some sig → na = sig.parameters.length := by
  intro sig hs
  have h2 := h.2.2.2.1
  rw [hs] at h2
  exact (Option.some.inj h2).symm
/-- a call, by its contract -/
def jRun (X : jX) (own nm : String) (cc : ByteArray) (nL : Nat) (ret : Option FieldType) (d mc ms pc : Nat) (st0 rest : List jV) (I : jMI) (R : jMR) (n : Nat) (Qc : Option jV → jMI → jMR → Nat → Prop) : Prop :=
  ∀ (p : Program) (l : Launch) (e : Env) (RR : Room) (s : State) (m : MethodId) (args : Array Value) (below : List Frame) (meth : Method) (c : Code) (H : Heap) (locs : List Loc) (cells slots : Nat) (ls : Array Slot),
    jC X own nm cc nL ret d p RR s m meth c → cells + mc ≤ RR.cells → slots + ms ≤ RR.slots → jH X I R n s H locs → ls.size = nL →
    ∃ a : Array Value, va_Run p l e RR s m args below meth c H locs cells slots mc ms (F0 m pc ls (st0.map (jv X))) (rest.map (jv X)) (jQc X Qc a) (jA X)
section JS
variable {X : jX} {own nm : String} {cc : ByteArray} {nL : Nat} {ret : Option FieldType} {d bc bs pc : Nat} {L : List (Option jV)} {st : List jV} {I : jMI} {R : jMR} {n : Nat} {Q : Option jV → jMI → jMR → Nat → Prop}
theorem j_go {mc ms : Nat} {rest : List jV} {Qc : Option jV → jMI → jMR → Nat → Prop} (hrun : jRun X own nm cc nL ret d mc ms pc st rest I R n Qc) (h1 : mc ≤ bc) (h2 : ms ≤ bs)
    (kk : ∀ (v : Option jV) (I' : jMI) (R' : jMR) (n' : Nat), Qc v I' R' n' → J X own nm cc nL ret d (bc - mc) (bs - ms) (pc + 3) L (v.toList ++ rest) I' R' n' Q) : J X own nm cc nL ret d bc bs pc L st I R n Q := by
  intro p l e RR s m args below meth c H locs cells slots QQ ls C hc hs1 hH hL hr
  obtain ⟨a, hv⟩ := hrun p l e RR s m args below meth c H locs cells slots ls C (by omega) (by omega) hH hL.1
  intro T hT XX
  obtain ⟨v, st₀, t, T', LL, h0, X', hLL, e1, e2, ⟨v', I', R', n', hv', hq, hHp, hz⟩, stp⟩ := hv T hT XX
  cases hv'
  have hH' : jH X I' R' n' s T'.heap (locs ++ LL) := by
    rw [e1]
    refine ⟨hHp, ?_, fun q hq1 hq2 => ?_, fun q hq1 => ?_⟩
    · rw [h0] at hz
      exact Nat.le_trans hH.2.1 hz
    · have hb : q < jB X := Nat.not_le.mp hq2
      rw [hHp.2.2 q hb, ← hH.1.2.2 q hb]
      exact hH.2.2.1 q hq1 hq2
    · rcases List.mem_append.mp hq1 with h | h
      · exact hH.2.2.2 q h
      · exact hLL q h
  have hw := kk v' I' R' n' hq p l e RR s m args below meth c T'.heap (locs ++ LL) (cells + mc) (slots + ms) QQ ls C (by omega) (by omega) hH' hL (fun v2 I2 R2 n2 H2 locs2 cells2 slots2 pc2 ls2 g1 g2 g3 g4 g5 g6 => hr v2 I2 R2 n2 H2 locs2 cells2 slots2 pc2 ls2 g1 g2 (by omega) (by omega) g5 g6)
  obtain ⟨t2, a1, b1⟩ := hw T' rfl X'
  refine ⟨t2, stp t2 ?_, b1⟩
  have e9 : (v'.map (jv X)).toList ++ rest.map (jv X) = (v'.toList ++ rest).map (jv X) := by cases v' <;> rfl
  rw [e9]
  exact a1
variable {y : MethodName} {cy : ByteArray} {ny na dy mc ms idx : Nat} {ry : Option FieldType} {As rest : List jV} {Qc : Option jV → jMI → jMR → Nat → Prop}
theorem j_runS (lk : jLS own idx y) (md : jMd y cy ny ry na) (hM : CG X y cy ny ry dy mc ms As I R n Qc) (hd : decode cc pc = .ok (.invokestatic idx, 3)) (hdy : dy + 1 ≤ d) (hn : As.length = na) (hst : st = As.reverse ++ rest) (hw : jws rest ≤ 8) : jRun X own nm cc nL ret d mc ms pc st rest I R n Qc := by
  intro p l e RR s m args below meth c H locs cells slots ls C hc hs1 hH hls
  obtain ⟨cx, cb, cm, co, cr, clk, cf, cl, cK, cn⟩ := C
  have hts := jhts cK args
  refine ⟨_, va_runS (As := As.map (jv X)) (n := na) (bytes := cy) (maxL := ny) (ret := ry) (Ts := []) (own := own) ⟨cx, cb, cm, co, fun w h => by cases h⟩ (hM l) ⟨⟨rfl, rfl, ?_, ?_, fun w hw a' U hW => ?_, List.mem_cons_self, hts _ md.1, hts _ md.2.1, md.2.2.1, jlen md, hts _ lk.1⟩, hts _ lk.2⟩ ⟨jPc_blind, fun U hU hW => ⟨rfl, by rw [hU]; exact hH.1, jK.moved hW cK⟩⟩ rfl (by rw [List.length_map]; exact hn) hls ?_ ?_ hd ⟨hc, hs1⟩⟩
  · show dy + 1 ≤ RR.frames; omega
  · show 8 + (ny + 11) + 36 * dy ≤ RR.locals; have := md.2.2.2.2; omega
  · rw [List.mem_singleton.mp hw]; exact cK.1 _ md.1 a' U hW
  · show st.map (jv X) = _; rw [hst, List.map_append, List.map_reverse]
  · show 2 * 0 + _ ≤ 8; rw [jws_ok]; omega
theorem j_runSN {host : String} (lk : jLSN own idx y host) (md : jMd y cy ny ry na) (hM : CG X y cy ny ry dy mc ms As I R n Qc) (hd : decode cc pc = .ok (.invokestatic idx, 3)) (hdy : dy + 1 ≤ d) (hn : As.length = na) (hst : st = As.reverse ++ rest) (hw : jws rest ≤ 8) : jRun X own nm cc nL ret d mc ms pc st rest I R n Qc := by
  intro p l e RR s m args below meth c H locs cells slots ls C hc hs1 hH hls
  obtain ⟨cx, cb, cm, co, cr, clk, cf, cl, cK, cn⟩ := C
  have hts := jhts cK args
  refine ⟨_, va_runSN (As := As.map (jv X)) (n := na) (bytes := cy) (maxL := ny) (ret := ry) (Ts := []) (own := own) (host := host) ⟨cx, cb, cm, co, fun w h => by cases h⟩ (hM l) ⟨⟨⟨rfl, rfl, ?_, ?_, fun w hw a' U hW => ?_, List.mem_cons_self⟩, hts _ md.1, hts _ md.2.1, md.2.2.1, jlen md, hts _ lk.1⟩, hts _ lk.2, trivial⟩ ⟨jPc_blind, fun U hU hW => ⟨rfl, by rw [hU]; exact hH.1, jK.moved hW cK⟩⟩ rfl (by rw [List.length_map]; exact hn) hls ?_ ?_ hd ⟨hc, hs1⟩⟩
  · show dy + 1 ≤ RR.frames; omega
  · show 8 + (ny + 11) + 36 * dy ≤ RR.locals; have := md.2.2.2.2; omega
  · rw [List.mem_singleton.mp hw]; exact cK.1 _ md.1 a' U hW
  · show st.map (jv X) = _; rw [hst, List.map_append, List.map_reverse]
  · show 2 * 0 + _ ≤ 8; rw [jws_ok]; omega
theorem j_recv {k ci : Nat} {s : State} {H : Heap} {locs : List Loc} (hK : jK X s) (hH : jH X I R n s H locs) (hs : jsh k = .inr ci) (hci : ci < 13) (hk : k < n) : ∃ cell : Cell, H[jad X k]? = some cell ∧ cell.vm.isStatics = false ∧ s.vm.findClass (jnm ci) = some cell.cls := by
  have hk1 := jsh_lt hs (by intro q; cases q; omega)
  rw [jad_lt hk1]
  exact va_recv (q := (jnm ci, jtT ci, jnF ci)) hK.2.1 hH.1.1 (j_vwCl hci) (by rw [jW_get hk, jen_o hs])
theorem j_runV {k ci : Nat} (lk : jLV own idx y) (md : jMd y cy ny ry na) (hM : CG X y cy ny ry dy mc ms (jR k :: As) I R n Qc) (hd : decode cc pc = .ok (.invokevirtual idx, 3)) (hs : jsh k = .inr ci) (hci : ci < 13) (hnm : jnm ci = y.cls) (hk : k < n) (hdy : dy + 1 ≤ d) (hn : As.length = na) (hst : st = As.reverse ++ jR k :: rest) (hw : jws rest ≤ 8) : jRun X own nm cc nL ret d mc ms pc st rest I R n Qc := by
  intro p l e RR s m args below meth c H locs cells slots ls C hc hs1 hH hls
  obtain ⟨cx, cb, cm, co, cr, clk, cf, cl, cK, cn⟩ := C
  have hts := jhts cK args
  refine ⟨_, va_runV (As := As.map (jv X)) (b := jad X k) (n := na) (bytes := cy) (maxL := ny) (ret := ry) (Ts := []) (own := own) (C := y.cls) ⟨cx, cb, cm, co, fun w h => by cases h⟩ (hM l) ⟨⟨rfl, rfl, ?_, ?_, fun w hw a' U hW => ?_, List.mem_cons_self, hts _ md.1, hts _ md.2.1, md.2.2.1, jlen md, hts _ lk.1⟩, hts _ lk.2.1, hts _ lk.2.2⟩ ⟨jPc_blind, by rw [← hnm]; exact j_recv cK hH hs hci hk, fun U hU hW => ⟨rfl, by rw [hU]; exact hH.1, jK.moved hW cK⟩⟩ rfl (by rw [List.length_map]; exact hn) hls ?_ ?_ hd ⟨hc, hs1⟩⟩
  · show dy + 1 ≤ RR.frames; omega
  · show 8 + (ny + 11) + 36 * dy ≤ RR.locals; have := md.2.2.2.2; omega
  · rw [List.mem_singleton.mp hw]; exact cK.1 _ md.1 a' U hW
  · show st.map (jv X) = _; rw [hst, List.map_append, List.map_reverse]; rfl
  · show 2 * 0 + _ ≤ 8; rw [jws_ok]; omega
theorem j_runO {k ci : Nat} {x : MethodName} (lk : jLO own idx (jnm ci) x y) (md : jMd y cy ny ry na) (hM : CG X y cy ny ry dy mc ms (jR k :: As) I R n Qc) (hd : decode cc pc = .ok (.invokevirtual idx, 3)) (hs : jsh k = .inr ci) (hci : ci < 13) (hk : k < n) (hdy : dy + 1 ≤ d) (hn : As.length = na) (hst : st = As.reverse ++ jR k :: rest) (hw : jws rest ≤ 8) : jRun X own nm cc nL ret d mc ms pc st rest I R n Qc := by
  intro p l e RR s m args below meth c H locs cells slots ls C hc hs1 hH hls
  obtain ⟨cx, cb, cm, co, cr, clk, cf, cl, cK, cn⟩ := C
  have hts := jhts cK args
  obtain ⟨l1, l2, l3, l4, l5, ⟨b0, n0, r0, l6⟩, l7, l8⟩ := lk
  refine ⟨_, va_runU (x := x) (owner := x.cls) (As := As.map (jv X)) (b := jad X k) (n := na) (bytes := cy) (maxL := ny) (ret := ry) (Ts := []) (own := own) (C := jnm ci) ⟨cx, cb, cm, co, fun w h => by cases h⟩ (hM l) ⟨⟨rfl, rfl, ?_, ?_, fun w hw a' U hW => ?_, List.mem_cons_self⟩, hts _ md.1, hts _ md.2.1, l7, by rw [l8]; exact jlen md, hts _ l1, hts _ l2, va_Decl.of (hts _ l5) (hts _ l6), hts _ l3, hts _ l4⟩ ⟨jPc_blind, j_recv cK hH hs hci hk, fun U hU hW => ⟨rfl, by rw [hU]; exact hH.1, jK.moved hW cK⟩⟩ rfl (by rw [List.length_map]; exact hn) hls ?_ ?_ hd ⟨hc, hs1⟩⟩
  · show dy + 1 ≤ RR.frames; omega
  · show 8 + (ny + 11) + 36 * dy ≤ RR.locals; have := md.2.2.2.2; omega
  · rw [List.mem_singleton.mp hw]; exact cK.1 _ md.1 a' U hW
  · show st.map (jv X) = _; rw [hst, List.map_append, List.map_reverse]; rfl
  · show 2 * 0 + _ ≤ 8; rw [jws_ok]; omega
theorem j_runU {k ci : Nat} (lk : jLU own idx y) (md : jMd y cy ny ry na) (hM : CG X y cy ny ry dy mc ms (jR k :: As) I R n Qc) (hd : decode cc pc = .ok (.invokespecial idx, 3)) (hs : jsh k = .inr ci) (hci : ci < 13) (hk : k < n) (hdy : dy + 1 ≤ d) (hn : As.length = na) (hst : st = As.reverse ++ jR k :: rest) (hw : jws rest ≤ 8) : jRun X own nm cc nL ret d mc ms pc st rest I R n Qc := by
  intro p l e RR s m args below meth c H locs cells slots ls C hc hs1 hH hls
  obtain ⟨cx, cb, cm, co, cr, clk, cf, cl, cK, cn⟩ := C
  have hts := jhts cK args
  refine ⟨_, va_runSU (C := jnm ci) (cC := (jD X).1 ci) (As := As.map (jv X)) (b := jad X k) (n := na) (bytes := cy) (maxL := ny) (ret := ry) (Ts := []) (own := own) (cK.2.1.1 ci _ (j_vwCl hci)).2 ⟨cx, cb, cm, co, fun w h => by cases h⟩ (hM l) ⟨⟨rfl, rfl, ?_, ?_, fun w hw a' U hW => ?_, List.mem_cons_self⟩, hts _ lk.1, hts _ lk.2.1, hts _ lk.2.2.1, hts _ lk.2.2.2.1, hts _ md.2.1, hts _ md.1, lk.2.2.2.2, jlen md⟩ ⟨jPc_blind, j_recv cK hH hs hci hk, fun U hU hW => ⟨rfl, by rw [hU]; exact hH.1, jK.moved hW cK⟩⟩ rfl (by rw [List.length_map]; exact hn) hls ?_ ?_ hd ⟨hc, hs1⟩⟩
  · show dy + 1 ≤ RR.frames; omega
  · show 8 + (ny + 11) + 36 * dy ≤ RR.locals; have := md.2.2.2.2; omega
  · rw [List.mem_singleton.mp hw]; exact cK.1 _ md.1 a' U hW
  · show st.map (jv X) = _; rw [hst, List.map_append, List.map_reverse]; rfl
  · show 2 * 0 + _ ≤ 8; rw [jws_ok]; omega
theorem j_runI {k : Nat} (lk : jLI own idx y) (md : jMd y cy ny none na) (hM : CG X y cy ny none dy mc ms (jR k :: As) I R n Qc) (hd : decode cc pc = .ok (.invokespecial idx, 3)) (hdy : dy + 1 ≤ d) (hn : As.length = na) (hst : st = As.reverse ++ jR k :: rest) (hw : jws rest ≤ 8) : jRun X own nm cc nL ret d mc ms pc st rest I R n Qc := by
  intro p l e RR s m args below meth c H locs cells slots ls C hc hs1 hH hls
  obtain ⟨cx, cb, cm, co, cr, clk, cf, cl, cK, cn⟩ := C
  have hts := jhts cK args
  refine ⟨_, va_runI (As := As.map (jv X)) (b := jad X k) (n := na) (bytes := cy) (maxL := ny) (Ts := []) (own := own) ⟨cx, cb, cm, co, fun w h => by cases h⟩ (hM l) ⟨⟨rfl, rfl, ?_, ?_, fun w hw a' U hW => ?_, List.mem_cons_self, hts _ md.1, hts _ md.2.1, md.2.2.1, jlen md, hts _ lk.1⟩, lk.2.2, hts _ lk.2.1⟩ ⟨jPc_blind, fun U hU hW => ⟨rfl, by rw [hU]; exact hH.1, jK.moved hW cK⟩⟩ rfl (by rw [List.length_map]; exact hn) hls ?_ ?_ hd ⟨hc, hs1⟩⟩
  · show dy + 1 ≤ RR.frames; omega
  · show 8 + (ny + 11) + 36 * dy ≤ RR.locals; have := md.2.2.2.2; omega
  · rw [List.mem_singleton.mp hw]; exact cK.1 _ md.1 a' U hW
  · show st.map (jv X) = _; rw [hst, List.map_append, List.map_reverse]; rfl
  · show 2 * 0 + _ ≤ 8; rw [jws_ok]; omega
theorem j_runIN {k : Nat} {host : String} (lk : jLIN own idx y host) (md : jMd y cy ny none na) (hM : CG X y cy ny none dy mc ms (jR k :: As) I R n Qc) (hd : decode cc pc = .ok (.invokespecial idx, 3)) (hdy : dy + 1 ≤ d) (hn : As.length = na) (hst : st = As.reverse ++ jR k :: rest) (hw : jws rest ≤ 8) : jRun X own nm cc nL ret d mc ms pc st rest I R n Qc := by
  intro p l e RR s m args below meth c H locs cells slots ls C hc hs1 hH hls
  obtain ⟨cx, cb, cm, co, cr, clk, cf, cl, cK, cn⟩ := C
  have hts := jhts cK args
  refine ⟨_, va_runIN (As := As.map (jv X)) (b := jad X k) (n := na) (bytes := cy) (maxL := ny) (Ts := []) (own := own) (host := host) ⟨cx, cb, cm, co, fun w h => by cases h⟩ (hM l) ⟨⟨⟨rfl, rfl, ?_, ?_, fun w hw a' U hW => ?_, List.mem_cons_self⟩, hts _ md.1, hts _ md.2.1, md.2.2.1, jlen md, hts _ lk.1⟩, lk.2.2, hts _ lk.2.1⟩ ⟨jPc_blind, fun U hU hW => ⟨rfl, by rw [hU]; exact hH.1, jK.moved hW cK⟩⟩ rfl (by rw [List.length_map]; exact hn) hls ?_ ?_ hd ⟨hc, hs1⟩⟩
  · show dy + 1 ≤ RR.frames; omega
  · show 8 + (ny + 11) + 36 * dy ≤ RR.locals; have := md.2.2.2.2; omega
  · rw [List.mem_singleton.mp hw]; exact cK.1 _ md.1 a' U hW
  · show st.map (jv X) = _; rw [hst, List.map_append, List.map_reverse]; rfl
  · show 2 * 0 + _ ≤ 8; rw [jws_ok]; omega
end JS
/-- the locals with which a method begins -/
def jal : List jV → List (Option jV)
  | [] => []
  | Sum.inr (Sum.inl a) :: r => some (jL a) :: none :: jal r
  | v :: r => some v :: jal r
theorem jal_args {X : jX} : ∀ (As : List jV) (o i : Nat) (v : jV), (jal As)[i]? = some (some v) → (o + i, jv X v) ∈ lv_args o (As.map (jv X))
  | [], o, i, v, h => by simp [jal] at h
  | Sum.inl a :: r, o, i, v, h => by
    have ih := jal_args (X := X) r
    cases i with
    | zero => simp [jal] at h; subst h; simp [lv_args]
    | succ i =>
      have := ih (o + 1) i v (by simpa [jal] using h)
      simp only [List.map_cons, lv_args]
      rw [show o + (i + 1) = o + 1 + i by omega]
      exact List.mem_cons_of_mem _ this
  | Sum.inr (Sum.inl a) :: r, o, i, v, h => by
    have ih := jal_args (X := X) r
    match i, h with
    | 0, h => simp [jal] at h; subst h; simp [lv_args]
    | 1, h => simp [jal] at h
    | i + 2, h =>
      have := ih (o + 2) i v (by simpa [jal] using h)
      simp only [List.map_cons, lv_args]
      rw [show o + (i + 2) = o + 2 + i by omega]
      exact List.mem_cons_of_mem _ this
  | Sum.inr (Sum.inr none) :: r, o, i, v, h => by
    have ih := jal_args (X := X) r
    cases i with
    | zero => simp [jal] at h; subst h; simp [lv_args]
    | succ i =>
      have := ih (o + 1) i v (by simpa [jal] using h)
      simp only [List.map_cons, lv_args]
      rw [show o + (i + 1) = o + 1 + i by omega]
      exact List.mem_cons_of_mem _ this
  | Sum.inr (Sum.inr (some k)) :: r, o, i, v, h => by
    have ih := jal_args (X := X) r
    cases i with
    | zero => simp [jal] at h; subst h; simp [lv_args]
    | succ i =>
      have := ih (o + 1) i v (by simpa [jal] using h)
      simp only [List.map_cons, lv_args]
      rw [show o + (i + 1) = o + 1 + i by omega]
      exact List.mem_cons_of_mem _ this
theorem jal_len {X : jX} : ∀ As : List jV, (lg_sl (As.map (jv X))).length = (jal As).length
  | [] => rfl
  | Sum.inl a :: r => by
    have ih := jal_len (X := X) r
    simp only [List.map_cons, lg_sl, List.flatMap_cons, List.length_append, jal, List.length_cons] at ih ⊢
    rw [ih]; simp [jv, Value.category]; omega
  | Sum.inr (Sum.inl a) :: r => by
    have ih := jal_len (X := X) r
    simp only [List.map_cons, lg_sl, List.flatMap_cons, List.length_append, jal, List.length_cons] at ih ⊢
    rw [ih]; simp [jv, Value.category]; omega
  | Sum.inr (Sum.inr none) :: r => by
    have ih := jal_len (X := X) r
    simp only [List.map_cons, lg_sl, List.flatMap_cons, List.length_append, jal, List.length_cons] at ih ⊢
    rw [ih]; simp [jv, va_rf, Value.category]; omega
  | Sum.inr (Sum.inr (some k)) :: r => by
    have ih := jal_len (X := X) r
    simp only [List.map_cons, lg_sl, List.flatMap_cons, List.length_append, jal, List.length_cons] at ih ⊢
    rw [ih]; simp [jv, va_rf, Value.category]; omega
theorem CG.of {X : jX} {y : MethodName} {cc : ByteArray} {nL : Nat} {ret : Option FieldType} {d mc ms : Nat} {As : List jV} {I : jMI} {R : jMR} {n : Nat} {Q : Option jV → jMI → jMR → Nat → Prop} (hy : plainName y.cls = true) (L : List (Option jV)) (hL : jal As ++ List.replicate (nL - (jal As).length) none = L) (hn : (jal As).length ≤ nL) (h : J X y.cls y.name cc nL ret d mc ms 0 L [] I R n Q) : CG X y cc nL ret d mc ms As I R n Q := by
  intro l
  refine Met.ofW (cc := cc) (maxL := nL) (ret := ret) hy rfl ?_
  intro p e s m args below meth c s₁ B hml hv
  obtain ⟨rfl, hHp, hK⟩ := hv
  have hown : s.vm.findClass y.cls = some m.cls := findClass_of_methodNamed B.named
  have hnm : meth.name = y.name := (name_of_methodNamed B.named B.method).1
  have hr := B.returns
  have hlk := B.notSynchronized
  have hl := lv_entry (As.map (jv X)) (n := nL) (by rw [jal_len]; exact hn)
  rw [lg_entry_eq]
  generalize (lg_sl (As.map (jv X)) ++ List.replicate (nL - (lg_sl (As.map (jv X))).length) Slot.unset).toArray = ls at hl ⊢
  refine h p l e _ s m _ below meth c s.heap [] 0 0 _ ls ⟨B.exec, B.bytes, hml, hown, hr, hlk, Nat.le_refl _, Nat.le_refl _, hK, hnm⟩ (by show 0 + mc ≤ mc; omega) (by show 0 + ms ≤ ms; omega) ⟨hHp, va_S.rf⟩ ⟨hl.1, hl.2.1, fun i v hi => ?_⟩ ?_
  · rw [← hL] at hi
    by_cases hlt : i < (jal As).length
    · rw [List.getElem?_append_left hlt] at hi
      have := hl.2.2 _ (jal_args (X := X) As 0 i v hi)
      rw [Nat.zero_add] at this
      exact this
    · rw [List.getElem?_append_right (by omega)] at hi
      have := List.mem_of_getElem? hi
      rw [List.mem_replicate] at this
      cases this.2
  · intro v I' R' n' H' locs' cells' slots' pc' ls' hq hH' hc' hs' hok hd
    refine W.widen (k := mc) (n := ms) (by omega) (by omega) ?_
    have hpost : ∀ t : State, t.heap = H' → jQc X Q (As.map (jv X)).toArray s (.returned (v.map (jv X))) t := fun t ht => ⟨v, I', R', n', rfl, hq, by rw [ht]; exact hH'.1, by rw [ht]; exact hH'.2.1⟩
    match v, hok, hd, hpost with
    | none, hok, hd, hpost => exact W.vret B.exec B.bytes (hr.trans hok) (fun t ht _ => hpost t ht) hH'.2.2.2 hd
    | some (Sum.inl a), hok, hd, hpost =>
      rcases hok with h1 | ⟨ty, h1, h2⟩
      · exact W.iret B.exec B.bytes (hr.trans h1) (fun t ht _ => hpost t ht) hH'.2.2.2 hd
      · exact W.zret B.exec B.bytes (hr.trans h1) h2 (fun t ht _ => hpost t ht) hH'.2.2.2 hd
    | some (Sum.inr (Sum.inl a)), hok, hd, hpost => exact W.lret B.exec B.bytes (hr.trans hok) (fun t ht _ => hpost t ht) hH'.2.2.2 hd
    | some (Sum.inr (Sum.inr r)), hok, hd, hpost => exact hok.elim
