/-! THE CLAIM OUT OF ONE WALK OF THE LAW'S BODY. Your part is whole_start (and what it stands on); all else here is the same for every law, but numbers. -/
def R_law : String := "PutBackLaw"
def lw_P (b : Addr) (xs : List Int32) (args : Array Value) (s : State) : Prop := args = #[.ref b] ∧ s.IntsAt b xs ∧ xs.length ≤ 320 ∧ (Jvm.Cond.and given_1 narrow_1).before args s = true
def lw_Q (_ : Array Value) (s : State) (o : Outcome) (t : State) : Prop := o = .returned (some (.int 1)) ∧ Framed s o t [] 124 3724
def lw_Z (below : List Frame) (a : Array Value) (s : State) : State → Prop := fun t => ∃ o, t.status = .running ∧ Ended t below o ∧ lw_Q a s o t
/-- the law's own end, with 1 on the stack, nothing written that was there before, its room as the claim has it -/
theorem lw_ret {p : Program} {l : Launch} {e : Env} {s : State} {m : MethodId} {below : List Frame} {meth : Method} {c : Code} {b : Nat} (hx : p.tables.exec = Jvm.exec) (hb : c.code = code) (hr : meth.sig.returnType = ret) (hlocks : meth.locks = false) {pc : Nat} {H : Heap} {ls : Array Slot} (hdg : decode code pc = .ok (.ireturn, 1)) : W p l e room_1 s m #[Value.ref b] below meth c H [] 124 3724 (lw_Z below #[Value.ref b] s) (F0 m pc ls [.int 1]) := by
  intro T hT X
  obtain ⟨fs, hret, hrun, hended, hW, hframe⟩ := X.leave (v := some (.int 1)) (hlocks := hlocks) (fun h => by rw [hr] at h; cases h)
  have hmeth' : T.vm.method? m = some meth := X.method'
  refine ⟨T.setFrames fs, ?_, .returned (some (.int 1)), hrun, hended, rfl, ⟨_, rfl⟩, hW, hframe⟩
  jvm_step X.here [X.here.top, hx, hb, hdg, hmeth', hr, ret, narrow_b1]
  (try refine ⟨rfl, ?_⟩); (try refine ⟨rfl, ?_⟩)
  first | (intro acts; rw [hret _ acts rfl rfl rfl]) | rw [hret _ _ rfl rfl rfl]
  exact Steps.refl _
/-- what holds at the law's entry: the machine, the code, the tables' words (any of lw_tbl by 'hts w (by decide +kernel)'), the script of L ints xs at the cell b, what the Statement gives of the start (any of its parts by flat_of_before) -/
def lw_At (p : Program) (s : State) (m : MethodId) (meth : Method) (c : Code) (b L : Nat) (xs : Nat → Int32) : Prop :=
  p.tables.exec = Jvm.exec ∧ c.code = code ∧ meth.sig.returnType = ret ∧ c.maxLocals = 4 ∧ s.vm.findClass R_law = some m.cls ∧ (∀ w ∈ lw_tbl, w.before #[Value.ref b] s = true) ∧ va_X b L xs s s.heap ∧ b < s.heap.size ∧ meth.locks = false ∧ (Jvm.Cond.and given_1 narrow_1).before #[Value.ref b] s = true
/-! ===== from the entry ===== -/
def lbad : Cond → Bool
  | .castable _ _ => true
  | .arrayOver (.object _) => true
  | .methodLinkNest _ _ _ _ => true
  | .stringRef _ _ _ => true
  | _ => false
def lisA : Cond → Bool
  | .arrayClass _ => true
  | _ => false
theorem lisA_spec {w : Cond} (h : lisA w = true) : ∃ ty, w = Cond.arrayClass ty := by
  cases w with
  | arrayClass ty => exact ⟨ty, rfl⟩
  | _ => exact absurd h (by simp [lisA])
theorem lw_chk : (lw_good.all fun w => lbad w || ((w.onTables && w.keeps) || lisA w)) = true := by decide +kernel
theorem lw_stable {args : Array Value} {s : State} (hts : ∀ w ∈ lw_good, w.before args s = true) : ∀ w ∈ lw_good, ∀ (a : Array Value) (U : State), s.WarmedH U.vm → w.before a U = true := by
  intro w hw a U hW
  have h := hts w hw
  by_cases hb : lbad w = true
  · cases w with
    | castable C T => exact va_Nw.use rfl (va_Nw.warmC hW (va_Nw.of rfl h))
    | methodLinkNest p q r t => exact va_Nw.use rfl (va_Nw.warmM hW (va_Nw.of rfl h))
    | stringRef p q r =>
      have h1 := Cond.stringRef_warmed hW h
      simp only [Cond.before, Cond.holds, Cond.value, State.names, State.poolOf?, State.resolvedAt?] at h1 ⊢
      exact h1
    | arrayOver t =>
      cases t with
      | object C => exact va_AO.use (va_AO.moved hW.alike (va_AO.of h))
      | _ => exact absurd hb (by simp [lbad])
    | _ => exact absurd hb (by simp [lbad])
  · have hc := List.all_eq_true.mp lw_chk w hw
    rw [Bool.or_eq_true, Bool.or_eq_true] at hc
    refine pay_in (big := lw_good) (ws := [w]) hts (fun w' hw' => ?_) w List.mem_cons_self a U hW
    rw [List.mem_singleton.mp hw']
    refine ⟨hw, ?_⟩
    rcases hc with hc | hc | hc
    · exact absurd hc hb
    · exact Or.inl hc
    · exact Or.inr (lisA_spec hc)
theorem Inv_start {I1 I2 : jMI} {I0 : jMI} (h11 : (I1 0 8 = 0 ∧ I1 0 9 = 1 ∧ I1 0 10 = 0 ∧ I1 0 11 = 0 ∧ I1 0 12 = 0) ∧ (∀ f, isE f → hR f I1 2) ∧ (∀ j, I1 1 j = 0) ∧ (∀ j, I1 18 j = 0) ∧ (∀ j, I1 77 j = 0) ∧ (∀ j, I1 78 j = 0)) (hag : ∀ z, z < 105 → I0 z = I1 z) (h12 : X12Q I0 I2) : Inv I2 := by
  obtain ⟨⟨a1, a2, a3, a4, a5⟩, b1, b2, b3, b4, b5⟩ := h11
  obtain ⟨c1, ⟨g, c2⟩, c3, c4, c5, c6, c7, c8⟩ := h12
  have hz : ∀ z, z < 105 → I2 z = I1 z := fun z hz => (c1 z hz).trans (hag z hz)
  refine ⟨⟨0, c3, ?_, ?_⟩, ⟨0, by omega, ?_, c6, fun i hi => by omega, fun i hi => by omega⟩, ⟨?_, ?_⟩, ⟨?_, ?_, ?_⟩, ⟨?_, ?_⟩, ⟨?_, ?_⟩⟩
  · rw [c2]
    exact nOK_0 (okSt_st0 g) (by rw [st0_k g 1 (by omega)]; exact awB_0)
  · rw [c2]
    refine nR_0 (hR_fr (b1 _ (isE_st0 g)) (fun z q => hz z (by omega))) (fun k hk => st0_k g k hk) ?_ ?_ ?_ ?_ ?_
    · rw [hz 1 (by omega)]; exact b2 _
    · rw [hz 1 (by omega)]; exact b2 _
    · rw [hz 1 (by omega)]; exact b2 _
    · rw [hz 1 (by omega)]; exact b2 _
    · intro p _; rw [hz 18 (by omega)]; exact b3 _
  · rw [hz 78 (by omega)]; exact b5 _
  · rw [hz 0 (by omega), c4]; exact a1
  · rw [hz 0 (by omega), c5]; exact a2
  · rw [hz 0 (by omega), c7]; exact a3
  · rw [hz 0 (by omega), c7]; exact a4
  · rw [hz 0 (by omega), c7]; exact a5
  · rw [hz 77 (by omega), c8]; exact b4 _
  · exact Or.inl (c8 _)
  · rw [hz 77 (by omega), c8]; exact b4 _
  · exact Or.inl (c8 _)
set_option maxHeartbeats 2000000 in
theorem lw_all (X : jX) (nm : String) (hL : X.2.2.2.2.2.2.1 ≤ 320) (hx : ∀ j, -2147483648 ≤ X.2.2.2.2.2.2.2 j ∧ X.2.2.2.2.2.2.2 j < 2147483648) : J X RL nm cL_law 4 (some .boolean) 9 124 3724 0 [some (jR 1000), none, none, none] [] (fun _ _ => 0) (fun _ _ => none) 0 (jQi (fun r _ => r = 1)) := by
  refine j_newc (pc := 0) (ci := 11) 1 123 3711 nc_L_7 ni_X11 nz_X11 (by decide) dL_law_0 rfl rfl (by decide) (by decide) ?_
  refine j_dupR (pc := 3) dL_law_3 ?_
  refine j_goQ 19 2269 (j_runI k_L_9 m_X11_init (i_X11 X _ _ (fun j => jNr_s) (fun j => jNw_s)) dL_law_4 (by decide) rfl rfl (Nat.le_of_ble_eq_true rfl)) rfl rfl (fun v I1 R1 n1 h1 => ?_)
  obtain ⟨rfl, rfl, q1, q2, q3, q4, q5, q6, q7⟩ := h1
  refine j_astore_n1 (pc := 7) dL_law_7 (by decide) rfl ?_
  refine j_newc (pc := 8) (ci := 12) 106 18 2240 nc_L_10 ni_X12 nz_X12 (by decide) dL_law_8 rfl rfl (by decide) (by decide) ?_
  refine j_dupR (pc := 11) dL_law_11 ?_
  refine j_goQ 0 0 (j_runI k_L_12 m_X12_init (i_X12 X _ _ (fun j => jNr_s) (fun j => jNw_s) (fun k hk hk5 => by rw [jNr_r (by omega)]; exact q7 k hk hk5)) dL_law_12 (by decide) rfl rfl (Nat.le_of_ble_eq_true rfl)) rfl rfl (fun v I2 R2 n2 h2 => ?_)
  obtain ⟨rfl, h2, rfl, rfl⟩ := h2
  refine j_astore_n2 (pc := 15) dL_law_15 (by decide) rfl ?_
  refine j_iconst (pc := 16) dL_law_16 ?_
  refine j_istore_n3 (pc := 17) dL_law_17 (by decide) rfl ?_
  exact lw_loop X nm hL hx 0 I2 (by omega) (Inv_start ⟨q1, q2, q3, q4, q5, q6⟩ (fun z hz => jNw_r (by omega)) h2)
def stk (i : Nat) : Nat := [30, 50, 55, 60].getD i 0
def tmS (i : Nat) : Term := .string "PutBack$Reader" (stk i)
theorem lw_str {args : Array Value} {s : State} (hgv : (Jvm.Cond.and given_1 narrow_1).before args s = true) {A : Nat → Prop} (hA : ∀ a : Nat, a < s.heap.size → ¬ A a) : ∃ adK adV : Nat → Nat, vk_S 4 [5, 5, 7, 5] [[104, 111, 117, 115, 101], [115, 116, 97, 105, 114], [115, 108, 101, 101, 112, 101, 114], [116, 104, 105, 110, 103]] adK adV A s s.heap ∧ ∀ i : Nat, i < 4 → (tmS i).eval args s none [] s = some (.ref (adK i)) := by
  have hs := flat_of_before _ hgv
  refine vk_Sof (fun i hi => ?_) (fun i hi => ?_) (fun i hi => ?_) (fun i hi => ?_) (fun i hi => ?_) (fun i hi j hj => ?_) (fun i j hi hj hij => ?_) hA
  · rcases (show i = 0 ∨ i = 1 ∨ i = 2 ∨ i = 3 by omega) with rfl | rfl | rfl | rfl <;> decide
  · rcases (show i = 0 ∨ i = 1 ∨ i = 2 ∨ i = 3 by omega) with rfl | rfl | rfl | rfl <;> exact hs _ (by decide +kernel)
  · rcases (show i = 0 ∨ i = 1 ∨ i = 2 ∨ i = 3 by omega) with rfl | rfl | rfl | rfl <;> exact hs _ (by decide +kernel)
  · rcases (show i = 0 ∨ i = 1 ∨ i = 2 ∨ i = 3 by omega) with rfl | rfl | rfl | rfl <;> exact hs _ (by decide +kernel)
  · rcases (show i = 0 ∨ i = 1 ∨ i = 2 ∨ i = 3 by omega) with rfl | rfl | rfl | rfl <;> exact hs _ (by decide +kernel)
  · rcases (show i = 0 ∨ i = 1 ∨ i = 2 ∨ i = 3 by omega) with rfl | rfl | rfl | rfl
    · rcases (show j = 0 ∨ j = 1 ∨ j = 2 ∨ j = 3 ∨ j = 4 by have : j < 5 := hj; omega) with rfl | rfl | rfl | rfl | rfl <;> exact hs _ (by decide +kernel)
    · rcases (show j = 0 ∨ j = 1 ∨ j = 2 ∨ j = 3 ∨ j = 4 by have : j < 5 := hj; omega) with rfl | rfl | rfl | rfl | rfl <;> exact hs _ (by decide +kernel)
    · rcases (show j = 0 ∨ j = 1 ∨ j = 2 ∨ j = 3 ∨ j = 4 ∨ j = 5 ∨ j = 6 by have : j < 7 := hj; omega) with rfl | rfl | rfl | rfl | rfl | rfl | rfl <;> exact hs _ (by decide +kernel)
    · rcases (show j = 0 ∨ j = 1 ∨ j = 2 ∨ j = 3 ∨ j = 4 by have : j < 5 := hj; omega) with rfl | rfl | rfl | rfl | rfl <;> exact hs _ (by decide +kernel)
  · rcases (show (i = 0 ∧ (j = 1 ∨ j = 2 ∨ j = 3)) ∨ (i = 1 ∧ (j = 2 ∨ j = 3)) ∨ (i = 2 ∧ j = 3) ∨ (j = 0 ∧ (i = 1 ∨ i = 2 ∨ i = 3)) ∨ (j = 1 ∧ (i = 2 ∨ i = 3)) ∨ (j = 2 ∧ i = 3) by omega) with ⟨rfl, rfl | rfl | rfl⟩ | ⟨rfl, rfl | rfl⟩ | ⟨rfl, rfl⟩ | ⟨rfl, rfl | rfl | rfl⟩ | ⟨rfl, rfl | rfl⟩ | ⟨rfl, rfl⟩
    · exact Or.inl (hs _ (by decide +kernel))
    · exact Or.inl (hs _ (by decide +kernel))
    · exact Or.inl (hs _ (by decide +kernel))
    · exact Or.inl (hs _ (by decide +kernel))
    · exact Or.inl (hs _ (by decide +kernel))
    · exact Or.inl (hs _ (by decide +kernel))
    · exact Or.inr (hs _ (by decide +kernel))
    · exact Or.inr (hs _ (by decide +kernel))
    · exact Or.inr (hs _ (by decide +kernel))
    · exact Or.inr (hs _ (by decide +kernel))
    · exact Or.inr (hs _ (by decide +kernel))
    · exact Or.inr (hs _ (by decide +kernel))
theorem lw_arr {args : Array Value} {s : State} (hts : ∀ w ∈ lw_good, w.before args s = true) : ∃ cA : FieldType → ClassId, ∀ ty, ty ∈ jTs → ArrOfT s (cA ty) ty ∧ va_RA s (cA ty) ty := by
  have h0 : ∀ ty : FieldType, ∃ cA : ClassId, ty ∈ jTs → ArrOfT s cA ty ∧ va_RA s cA ty := by
    intro ty
    by_cases hm : ty ∈ jTs
    · have hm2 : ty = .int ∨ ty = .long ∨ ty = .byte ∨ ty = .boolean ∨ ty = .object RX7 ∨ ty = .object RX4 := by
        unfold jTs at hm
        simpa using hm
      have pr : ∀ t : FieldType, (Cond.arrayClass t).before args s = true → (∀ c, s.vm.findClass ("[" ++ t.toString) = some c → va_RA s c t) → ∃ cA : ClassId, t ∈ jTs → ArrOfT s cA t ∧ va_RA s cA t := by
        intro t h hr
        obtain ⟨c, k, comp, h1, h2, h3⟩ := Cond.arrayClass_spec (args := args) (first := s) (o := none) (s := s) (idx := []) h
        exact ⟨c, fun _ => ⟨fun n z => ⟨fun k h => (by cases h), k, h2, comp, h3⟩, hr c h1⟩⟩
      have ob : ∀ C : String, (Cond.arrayOver (.object C)).before args s = true → ∃ cA : ClassId, (.object C : FieldType) ∈ jTs → ArrOfT s cA (.object C) ∧ va_RA s cA (.object C) := by
        intro C h
        obtain ⟨comp, c, k, h1, -, h3, h4, h5⟩ := Cond.arrayOver_spec (args := args) (first := s) (o := none) (s := s) (idx := []) h
        exact ⟨c, fun _ => ⟨fun n z => ⟨fun k h => (by cases h), k, h3, comp, h4⟩, ⟨k, comp, h3, h4, h1, h5⟩⟩⟩
      rcases hm2 with rfl | rfl | rfl | rfl | rfl | rfl
      · exact pr _ (hts _ na_int) (fun c h => h)
      · exact pr _ (hts _ na_long) (fun c h => h)
      · exact pr _ (hts _ na_byte) (fun c h => h)
      · exact pr _ (hts _ na_boolean) (fun c h => h)
      · exact ob _ (hts _ no_X7)
      · exact ob _ (hts _ no_X4)
    · obtain ⟨c, -, -, -, -, -⟩ := Cond.arrayClass_spec (args := args) (first := s) (o := none) (s := s) (idx := []) (hts _ na_int)
      exact ⟨c, fun h => absurd h hm⟩
  exact ⟨fun ty => (h0 ty).choose, fun ty => (h0 ty).choose_spec⟩
theorem lw_cls {args : Array Value} {s : State} (hts : ∀ w ∈ lw_good, w.before args s = true) : ∃ (dC : Nat → ClassId) (dI : Nat → Nat → Nat), ∀ (k : Nat) (q : vw_C), vwCl[k]? = some q → u_Kn s q.1 q.2.1 q.2.2 (dC k) (dI k) := by
  have hin : ∀ ci, ci < 13 → Cond.instantiable (jnm ci) (jnF ci) ∈ lw_good := by
    intro ci h
    rcases (show ci = 0 ∨ ci = 1 ∨ ci = 2 ∨ ci = 3 ∨ ci = 4 ∨ ci = 5 ∨ ci = 6 ∨ ci = 7 ∨ ci = 8 ∨ ci = 9 ∨ ci = 10 ∨ ci = 11 ∨ ci = 12 by omega) with rfl | rfl | rfl | rfl | rfl | rfl | rfl | rfl | rfl | rfl | rfl | rfl | rfl
    · exact ni_X0
    · exact ni_X1
    · exact ni_X2
    · exact ni_X3
    · exact ni_X4
    · exact ni_X5
    · exact ni_X6
    · exact ni_X7
    · exact ni_X8
    · exact ni_X9
    · exact ni_X10
    · exact ni_X11
    · exact ni_X12
  have h1 : ∀ ci, ci < 13 → ∃ (cC : ClassId) (iS : Nat → Nat), u_Kn s (jnm ci) (jtT ci) (jnF ci) cC iS := fun ci h => u_known hts (j_in h) (hts _ (hin ci h))
  obtain ⟨c0, i0, -⟩ := h1 0 (by omega)
  have h0 : ∀ ci : Nat, ∃ q : ClassId × (Nat → Nat), ci < 13 → u_Kn s (jnm ci) (jtT ci) (jnF ci) q.1 q.2 := by
    intro ci
    by_cases h : ci < 13
    · obtain ⟨c, i, hk⟩ := h1 ci h
      exact ⟨(c, i), fun _ => hk⟩
    · exact ⟨(c0, i0), fun q => absurd q h⟩
  obtain ⟨f, hf⟩ : ∃ f : Nat → ClassId × (Nat → Nat), ∀ ci, ci < 13 → u_Kn s (jnm ci) (jtT ci) (jnF ci) (f ci).1 (f ci).2 := ⟨fun ci => (h0 ci).choose, fun ci => (h0 ci).choose_spec⟩
  refine ⟨fun k => (f k).1, fun k => (f k).2, fun k q hq => ?_⟩
  have hk : k < 13 := (List.getElem?_eq_some_iff.mp hq).1
  rw [j_vwCl hk] at hq
  cases hq
  exact hf k hk
theorem lw_hts {args : Array Value} {s : State} (hts : ∀ w ∈ lw_tbl, w.before args s = true) : ∀ w ∈ lw_good, w.before args s = true := by
  intro w hw
  obtain ⟨w0, hw0, e⟩ := List.mem_map.mp hw
  rw [← e]
  split
  · exact hts w0 hw0
  · exact hts (Cond.initialized "PutBackLaw") (List.mem_of_getElem? (i := 64) (by decide +kernel))
def lwE (b t21 : Nat) (adK adV : Nat → Nat) : Nat → Nat := fun k => if k = 0 then b else if k = 21 then t21 else if 11 ≤ k then adV (k - 11) else adK (k - 1)
theorem lwE_K {b t21 : Nat} {adK adV : Nat → Nat} {i : Nat} (h : i < 4) : lwE b t21 adK adV (1 + i) = adK i := by
  unfold lwE
  rw [if_neg (by omega), if_neg (by omega), if_neg (by omega), Nat.add_sub_cancel_left]
theorem lwE_V {b t21 : Nat} {adK adV : Nat → Nat} {i : Nat} (h : i < 4) : lwE b t21 adK adV (11 + i) = adV i := by
  unfold lwE
  rw [if_neg (by omega), if_neg (by omega), if_pos (by omega), Nat.add_sub_cancel_left]
def lwX (s : State) (dC : Nat → ClassId) (dI : Nat → Nat → Nat) (cA : FieldType → ClassId) (ex : Nat → Nat) (L : Nat) (xs : Nat → Int32) : jX := (s.heap.size, dC, dI, cA, s.heap, ex, L, fun j => (xs j).toInt)
theorem lw_K {args : Array Value} {s : State} {b L : Nat} {xs : Nat → Int32} (hL : L ≤ 320) (hts : ∀ w ∈ lw_tbl, w.before args s = true) (hX : va_X b L xs s s.heap) (hbl : b < s.heap.size) (hgv : (Jvm.Cond.and given_1 narrow_1).before args s = true) : ∃ (dC : Nat → ClassId) (dI : Nat → Nat → Nat) (cA : FieldType → ClassId) (ex : Nat → Nat), ex 0 = b ∧ jK (lwX s dC dI cA ex L xs) s := by
  have htg := lw_hts hts
  obtain ⟨dC, dI, hKc⟩ := lw_cls htg
  obtain ⟨cA, hcA⟩ := lw_arr htg
  have hA : ∀ a : Nat, a < s.heap.size → ¬ (fun q : Nat => s.heap.size ≤ q) a := fun a h => Nat.not_le.mpr h
  obtain ⟨adK, adV, hstr, hev⟩ := lw_str hgv (A := fun q => s.heap.size ≤ q) hA
  have hs := flat_of_before _ hgv
  have hcs := va_Zof (v := .int 1) (A := fun q : Nat => s.heap.size ≤ q) (hts (.laysStatic "java/lang/String" "COMPACT_STRINGS" "Z") (by decide +kernel)) (hts (.initialized "java/lang/String") (by decide +kernel)) (va_eqt (hs (.eq (.static "java/lang/String" "COMPACT_STRINGS" "Z") (.int 1)) (by decide +kernel))) hA
  have hsi := va_Zqof (A := fun q : Nat => s.heap.size ≤ q) (hts (.laysStatic "jdk/internal/util/Preconditions" "SIOOBE_FORMATTER" "Ljava/util/function/BiFunction;") (by decide +kernel)) (hts (.initialized "jdk/internal/util/Preconditions") (by decide +kernel)) (hs (.isRef (.static "jdk/internal/util/Preconditions" "SIOOBE_FORMATTER" "Ljava/util/function/BiFunction;")) (by decide +kernel)) hA
  obtain ⟨t21, h21⟩ : ∃ t : Nat, va_Z "jdk/internal/util/Preconditions" "SIOOBE_FORMATTER" "Ljava/util/function/BiFunction;" .null (fun q : Nat => s.heap.size ≤ q) s s.heap ∨ va_Z "jdk/internal/util/Preconditions" "SIOOBE_FORMATTER" "Ljava/util/function/BiFunction;" (.ref t) (fun q : Nat => s.heap.size ≤ q) s s.heap := by
    rcases hsi with h | ⟨t, h⟩
    · exact ⟨0, Or.inl h⟩
    · exact ⟨t, Or.inr h⟩
  refine ⟨dC, dI, cA, lwE b t21 adK adV, rfl, lw_stable htg, ⟨fun c q hq => hKc c q hq, fun k q hq => ?_⟩, ?_⟩
  · have hq2 : (jTs.map (fun ty => (cA ty, ty)))[k]? = some q := hq
    rw [List.getElem?_map] at hq2
    cases h : jTs[k]? with
    | none => rw [h] at hq2; cases hq2
    | some ty =>
      rw [h] at hq2
      cases hq2
      exact hcA ty (List.mem_of_getElem? h)
  · have hr : ∀ (i : Nat) (tx : String), i < 4 → (Cond.stringRef "PutBack$Reader" (stk i) tx).before args s = true → vk_R "PutBack$Reader" (stk i) tx (lwE b t21 adK adV (1 + i)) s := by
      intro i tx hi h
      rw [lwE_K hi]
      exact vk_R.of h (hev i hi)
    refine ⟨?_, ?_, hbl, rfl, ⟨fun i hi => ?_, fun i j hi hj e => ?_⟩, ⟨?_, ?_, ?_, ?_⟩, hcs, ?_⟩
    · show va_X b L (fun j => Int32.ofInt (xs j).toInt) s s.heap
      have e : (fun j => Int32.ofInt (xs j).toInt) = xs := by
        funext j
        exact Int32.ofInt_toInt (xs j)
      rw [e]
      exact hX
    · show L < 2 ^ 31
      omega
    · have h := hstr.1 i hi
      show va_O "java/lang/String" (lwE b t21 adK adV (1 + i)) _ s s.heap ∧ va_OF "java/lang/String" "coder" "B" (.int 0) (lwE b t21 adK adV (1 + i)) _ s s.heap ∧ va_OF "java/lang/String" "value" "[B" (.ref (lwE b t21 adK adV (11 + i))) (lwE b t21 adK adV (1 + i)) _ s s.heap ∧ va_T .byte (lwE b t21 adK adV (11 + i)) _ _ _ s s.heap
      rw [lwE_K hi, lwE_V hi]
      exact h
    · have e2 : lwE b t21 adK adV (1 + i) = lwE b t21 adK adV (1 + j) := e
      rw [lwE_K hi, lwE_K hj] at e2
      exact hstr.2 i j hi hj e2
    · exact hr 0 "house" (by omega) (htg _ (by decide +kernel))
    · exact hr 1 "stair" (by omega) (htg _ (by decide +kernel))
    · exact hr 2 "sleeper" (by omega) (htg _ (by decide +kernel))
    · exact hr 3 "thing" (by omega) (htg _ (by decide +kernel))
    · exact h21
set_option maxHeartbeats 1000000 in
/-- from the entry, for every script of at most 320 ints, the law comes to its end with true -/
theorem whole_start {p : Program} {e : Env} {s : State} {m : MethodId} {below : List Frame} {meth : Method} {c : Code} (l : Launch) {b L : Nat} {xs : Nat → Int32} (hL : L ≤ 320) (C0 : lw_At p s m meth c b L xs) : W p l e room_1 s m #[Value.ref b] below meth c s.heap [] 0 0 (lw_Z below #[Value.ref b] s) (entryFrame m ([Value.ref b] : List Value).toArray 4) := by
  obtain ⟨hx, hb, hr, hml, hown, hts, hX, hbl, hlocks, hgv⟩ := id C0
  obtain ⟨dC, dI, cA, ex, hex, hK⟩ := lw_K hL hts hX hbl hgv
  generalize hXd : lwX s dC dI cA ex L xs = X at hK
  have x1 : jB X = s.heap.size := by rw [← hXd]; rfl
  have x2 : jHB X = s.heap := by rw [← hXd]; rfl
  have x3 : X.2.2.2.2.2.2.1 = L := by rw [← hXd]; rfl
  have x4 : ∀ j, -2147483648 ≤ X.2.2.2.2.2.2.2 j ∧ X.2.2.2.2.2.2.2 j < 2147483648 := by
    intro j
    have e : X.2.2.2.2.2.2.2 j = (xs j).toInt := by rw [← hXd]; rfl
    rw [e]
    have h1 := Int32.le_toInt (xs j)
    have h2 := Int32.toInt_lt (xs j)
    omega
  have x5 : jv X (jR 1000) = .ref b := by
    show va_rf (some (jad X 1000)) = _
    have e : jad X 1000 = b := by
      unfold jad
      rw [if_neg (by omega), ← hXd]
      exact hex
    rw [e]; rfl
  have hl := lv_entry ([Value.ref b]) (n := 4) (Nat.le_of_ble_eq_true rfl)
  rw [lg_entry_eq]
  generalize (lg_sl ([Value.ref b]) ++ List.replicate (4 - (lg_sl ([Value.ref b])).length) Slot.unset).toArray = ls at hl ⊢
  have hJ := lw_all X meth.name (by rw [x3]; exact hL) x4
  refine hJ p l e room_1 s m #[Value.ref b] below meth c s.heap [] 0 0 _ ls ⟨hx, hb, hml, hown, hr, hlocks, by decide, by decide, hK, rfl⟩ (by decide) (by decide) ⟨⟨fun k q h => by simp [jW] at h, by rw [x1]; rfl, fun q _ => by rw [x2]⟩, va_S.rf⟩ ⟨hl.1, hl.2.1, fun i v hi => ?_⟩ ?_
  · match i, hi with
    | 0, hi =>
      cases hi
      rw [x5]
      exact hl.2.2 (0, .ref b) (by simp [lv_args])
    | 1, hi => simp at hi
    | 2, hi => simp at hi
    | 3, hi => simp at hi
    | i + 4, hi => simp at hi
  · intro v I' R' n' H' locs' cells' slots' pc' ls' hq hH' hc' hs' hok hd
    obtain ⟨r, rfl, hr1, rfl, rfl⟩ := hq
    subst hr1
    refine va_forget (fun q hq => ?_) ?_
    · have := hH'.2.2.2 q hq
      rw [← x1]
      exact this
    refine W.widen (k := 124) (n := 3724) (by omega) (by omega) ?_
    exact lw_ret hx hb hr hlocks hd
