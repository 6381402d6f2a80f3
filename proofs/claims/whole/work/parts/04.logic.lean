/-! ===== a machine of whole numbers over the fixed cells: values, memory, worlds ===== -/
abbrev jV : Type := Int ⊕ (Int ⊕ Option Nat)
abbrev jI (a : Int) : jV := Sum.inl a
abbrev jL (a : Int) : jV := Sum.inr (Sum.inl a)
abbrev jR (r : Nat) : jV := Sum.inr (Sum.inr (some r))
abbrev jN : jV := Sum.inr (Sum.inr none)
/-- the first own cell, the kinds' numbers, their slots, the arrays' numbers, the heap at the start, the outer cells, the script's length, the script -/
abbrev jX : Type := Nat × (Nat → ClassId) × (Nat → Nat → Nat) × (FieldType → ClassId) × Heap × (Nat → Nat) × Nat × (Nat → Int)
abbrev jMI : Type := Nat → Nat → Int
abbrev jMR : Type := Nat → Nat → Option Nat
def jB (X : jX) : Nat := X.1
def jD (X : jX) : va_G := (X.2.1, X.2.2.1)
def jcA (X : jX) : FieldType → ClassId := X.2.2.2.1
def jHB (X : jX) : Heap := X.2.2.2.2.1
def jex (X : jX) : Nat → Nat := X.2.2.2.2.2.1
def jA (X : jX) : Nat → Prop := fun q => jB X ≤ q
/-- a cell's address by its number: below 1000 own ones, from 1000 on outer ones -/
def jad (X : jX) (k : Nat) : Nat := if k < 1000 then jB X + k else jex X (k - 1000)
def jv (X : jX) : jV → Value
  | Sum.inl a => .int (Int32.ofInt a)
  | Sum.inr (Sum.inl a) => .long (Int64.ofInt a)
  | Sum.inr (Sum.inr r) => va_rf (r.map (jad X))
def jshL : List ((FieldType × Nat) ⊕ Nat) := [.inr 11, .inr 4, .inr 2, .inl (.object RX7, 6), .inr 7, .inr 3, .inr 5, .inr 0, .inr 6, .inr 10, .inl (.int, 64), .inl (.int, 64), .inl (.int, 5), .inl (.int, 5), .inl (.int, 5), .inl (.int, 5), .inl (.int, 5), .inl (.int, 20), .inl (.int, 3), .inl (.int, 3), .inl (.int, 8), .inl (.int, 8), .inl (.int, 8), .inl (.int, 6), .inl (.int, 6), .inl (.int, 6), .inl (.object RX4, 2), .inr 4, .inr 2, .inl (.object RX7, 6), .inr 7, .inr 3, .inr 5, .inr 0, .inr 6, .inr 10, .inl (.int, 64), .inl (.int, 64), .inl (.int, 5), .inl (.int, 5), .inl (.int, 5), .inl (.int, 5), .inl (.int, 5), .inl (.int, 20), .inl (.int, 3), .inl (.int, 3), .inl (.int, 8), .inl (.int, 8), .inl (.int, 8), .inl (.int, 6), .inl (.int, 6), .inl (.int, 6), .inr 4, .inr 2, .inl (.object RX7, 6), .inr 7, .inr 3, .inr 5, .inr 0, .inr 6, .inr 10, .inl (.int, 64), .inl (.int, 64), .inl (.int, 5), .inl (.int, 5), .inl (.int, 5), .inl (.int, 5), .inl (.int, 5), .inl (.int, 20), .inl (.int, 3), .inl (.int, 3), .inl (.int, 8), .inl (.int, 8), .inl (.int, 8), .inl (.int, 6), .inl (.int, 6), .inl (.int, 6), .inl (.boolean, 2), .inr 8, .inl (.byte, 150), .inr 2, .inl (.object RX7, 6), .inr 7, .inr 3, .inr 5, .inr 0, .inr 6, .inr 10, .inl (.int, 64), .inl (.int, 64), .inl (.int, 5), .inl (.int, 5), .inl (.int, 5), .inl (.int, 5), .inl (.int, 5), .inl (.int, 20), .inr 1, .inl (.int, 8), .inl (.int, 8), .inl (.int, 8), .inr 9, .inl (.int, 96), .inl (.long, 104), .inl (.long, 104), .inl (.long, 6), .inr 12, .inl (.int, 99), .inl (.int, 3), .inl (.int, 150), .inl (.int, 5), .inl (.int, 8), .inl (.int, 40), .inl (.boolean, 64), .inl (.int, 480), .inl (.boolean, 64), .inl (.boolean, 64), .inl (.long, 104), .inl (.long, 104), .inl (.boolean, 768), .inl (.int, 5), .inl (.boolean, 2), .inl (.int, 198), .inl (.int, 80), .inl (.int, 2)]
def jsh (k : Nat) : (FieldType × Nat) ⊕ Nat := jshL.getD k (.inr 99)
def jnF (ci : Nat) : Nat := match vwCl[ci]? with
  | some q => q.2.2
  | none => 0
def jtT (ci : Nat) : u_T := match vwCl[ci]? with
  | some q => q.2.1
  | none => TX0
def jnm (ci : Nat) : String := match vwCl[ci]? with
  | some q => q.1
  | none => ""
def jty (ci : Nat) : Nat → FieldType := ([tyX0, tyX1, tyX2, tyX3, tyX4, tyX5, tyX6, tyX7, tyX8, tyX9, tyX10, tyX11, tyX12] : List (Nat → FieldType)).getD ci tyX0
/-- 0: an int or less, 1: a long, 2: a reference -/
def jkd : FieldType → Nat
  | .long => 1
  | .object _ => 2
  | .array _ => 2
  | _ => 0
def jfv (X : jX) (I : jMI) (R : jMR) (ty : FieldType) (k j : Nat) : Value := match jkd ty with
  | 0 => .int (Int32.ofInt (I k j))
  | 1 => .long (Int64.ofInt (I k j))
  | _ => va_rf ((R k j).map (jad X))
def jac (X : jX) (I : jMI) (R : jMR) (ty : FieldType) (k : Nat) : (Nat → Int32) ⊕ (Nat → Int64) ⊕ (Nat → UInt32) ⊕ (Nat → UInt64) ⊕ (Nat → Option Nat) := match jkd ty with
  | 0 => .inl (fun j => Int32.ofInt (I k j))
  | 1 => .inr (.inl (fun j => Int64.ofInt (I k j)))
  | _ => .inr (.inr (.inr (.inr (fun j => (R k j).map (jad X)))))
def jfs (X : jX) (I : jMI) (R : jMR) (ci k : Nat) : List Value := (List.range (jnF ci)).map (fun j => jfv X I R (jty ci j) k j)
def jen (X : jX) (I : jMI) (R : jMR) (k : Nat) : va_E := match jsh k with
  | .inl (ty, len) => .inl (jcA X ty, len, jac X I R ty k)
  | .inr ci => .inr (ci, jfs X I R ci k)
def jW (X : jX) (I : jMI) (R : jMR) (n : Nat) : va_W := (List.range n).map (fun k => (jB X + k, jen X I R k))
def jTs : List FieldType := [.int, .long, .byte, .boolean, .object RX7, .object RX4]
def jTys (X : jX) : List (ClassId × FieldType) := jTs.map (fun ty => (jcA X ty, ty))
def jSt (I : jMI) (k j : Nat) (a : Int) : jMI := fun k' j' => if k' = k ∧ j' = j then a else I k' j'
def jSr (R : jMR) (k j : Nat) (a : Option Nat) : jMR := fun k' j' => if k' = k ∧ j' = j then a else R k' j'
/-- the outer world at a state: the script, the String constants, String's own static -/
def jE (X : jX) (U : State) : Prop :=
  va_X (jex X 0) X.2.2.2.2.2.2.1 (fun j => Int32.ofInt (X.2.2.2.2.2.2.2 j)) U (jHB X) ∧ X.2.2.2.2.2.2.1 < 2 ^ 31 ∧ jex X 0 < jB X ∧ (jHB X).size = jB X ∧
  vk_S 4 [5, 5, 7, 5] [[104, 111, 117, 115, 101], [115, 116, 97, 105, 114], [115, 108, 101, 101, 112, 101, 114], [116, 104, 105, 110, 103]] (fun i => jex X (1 + i)) (fun i => jex X (11 + i)) (jA X) U (jHB X) ∧
  (vk_R RX8 30 "house" (jex X 1) U ∧ vk_R RX8 50 "stair" (jex X 2) U ∧ vk_R RX8 55 "sleeper" (jex X 3) U ∧ vk_R RX8 60 "thing" (jex X 4) U) ∧
  va_Z "java/lang/String" "COMPACT_STRINGS" "Z" (.int 1) (jA X) U (jHB X) ∧
  (va_Z "jdk/internal/util/Preconditions" "SIOOBE_FORMATTER" "Ljava/util/function/BiFunction;" .null (jA X) U (jHB X) ∨ va_Z "jdk/internal/util/Preconditions" "SIOOBE_FORMATTER" "Ljava/util/function/BiFunction;" (.ref (jex X 21)) (jA X) U (jHB X))
def jK (X : jX) (s : State) : Prop := (∀ w ∈ lw_good, ∀ (a : Array Value) (U : State), s.WarmedH U.vm → w.before a U = true) ∧ va_K (jD X) vwCl (jTys X) s ∧ jE X s
def jHp (X : jX) (I : jMI) (R : jMR) (n : Nat) (H : Heap) : Prop := va_P (jD X) vwCl (jW X I R n) H ∧ H.size = jB X + n ∧ ∀ q : Nat, q < jB X → H[q]? = (jHB X)[q]?
def jPc (X : jX) (As : List jV) (I : jMI) (R : jMR) (n : Nat) : Array Value → State → Prop := fun a U => a = (As.map (jv X)).toArray ∧ jHp X I R n U.heap ∧ jK X U
def jQc (X : jX) (Q : Option jV → jMI → jMR → Nat → Prop) : Array Value → State → Outcome → State → Prop := fun _ st o t => ∃ (v : Option jV) (I : jMI) (R : jMR) (n : Nat), o = .returned (v.map (jv X)) ∧ Q v I R n ∧ jHp X I R n t.heap ∧ st.heap.size ≤ t.heap.size
/-- a method's contract: any caller, from this memory: it returns, with Q -/
def CG (X : jX) (y : MethodName) (cc : ByteArray) (nL : Nat) (ret : Option FieldType) (d mc ms : Nat) (As : List jV) (I : jMI) (R : jMR) (n : Nat) (Q : Option jV → jMI → jMR → Nat → Prop) : Prop :=
  ∀ l : Launch, Met l y [.code y cc nL ret] { frames := d, cells := mc, slots := ms, locals := 36 * d } (jPc X As I R n) (jQc X Q) mc ms (jA X)
def jLs (X : jX) (ls : Array Slot) (nL : Nat) (L : List (Option jV)) : Prop := ls.size = nL ∧ lv_wf ls ∧ ∀ (i : Nat) (v : jV), L[i]? = some (some v) → ls[i]? = some (.val (jv X v))
def jH (X : jX) (I : jMI) (R : jMR) (n : Nat) (s : State) (H : Heap) (locs : List Loc) : Prop := jHp X I R n H ∧ va_S (jA X) s.heap H locs
def jC (X : jX) (own nm : String) (cc : ByteArray) (nL : Nat) (ret : Option FieldType) (d : Nat) (p : Program) (RR : Room) (s : State) (m : MethodId) (meth : Method) (c : Code) : Prop :=
  p.tables.exec = Jvm.exec ∧ c.code = cc ∧ c.maxLocals = nL ∧ s.vm.findClass own = some m.cls ∧ meth.sig.returnType = ret ∧ meth.locks = false ∧ d ≤ RR.frames ∧ 36 * d ≤ RR.locals ∧ jK X s ∧ meth.name = nm
/-- a value of a small type stands as it is -/
def jRok (ret : Option FieldType) (v : Option jV) : Prop := match v with
  | none => ret = none
  | some (Sum.inl a) => ret = some .int ∨ ∃ ty, ret = some ty ∧ narrow ty (.int (Int32.ofInt a)) = .int (Int32.ofInt a)
  | some (Sum.inr (Sum.inl _)) => ret = some .long
  | some (Sum.inr (Sum.inr _)) => False
def jRi (v : Option jV) : Instr := match v with
  | none => .return_
  | some (Sum.inl _) => .ireturn
  | some (Sum.inr (Sum.inl _)) => .lreturn
  | some (Sum.inr (Sum.inr _)) => .areturn
/-- from here the method comes to its end, with Q -/
def J (X : jX) (own nm : String) (cc : ByteArray) (nL : Nat) (ret : Option FieldType) (d bc bs pc : Nat) (L : List (Option jV)) (st : List jV) (I : jMI) (R : jMR) (n : Nat) (Q : Option jV → jMI → jMR → Nat → Prop) : Prop :=
  ∀ (p : Program) (l : Launch) (e : Env) (RR : Room) (s : State) (m : MethodId) (args : Array Value) (below : List Frame) (meth : Method) (c : Code) (H : Heap) (locs : List Loc) (cells slots : Nat) (QQ : State → Prop) (ls : Array Slot),
    jC X own nm cc nL ret d p RR s m meth c → cells + bc ≤ RR.cells → slots + bs ≤ RR.slots → jH X I R n s H locs → jLs X ls nL L →
    (∀ (v : Option jV) (I' : jMI) (R' : jMR) (n' : Nat) (H' : Heap) (locs' : List Loc) (cells' slots' pc' : Nat) (ls' : Array Slot), Q v I' R' n' → jH X I' R' n' s H' locs' → cells' ≤ cells + bc → slots' ≤ slots + bs → jRok ret v → decode cc pc' = .ok (jRi v, 1) → W p l e RR s m args below meth c H' locs' cells' slots' QQ (F0 m pc' ls' (v.map (jv X)).toList)) →
    W p l e RR s m args below meth c H locs cells slots QQ (F0 m pc ls (st.map (jv X)))
