/-! ===== memory in its plain form: one cell's row over the rest ===== -/
def jU (g : Nat → Int) (j : Nat) (v : Int) : Nat → Int := fun i => if i = j then v else g i
def jSf (I : jMI) (k : Nat) (g : Nat → Int) : jMI := fun k' => if k' = k then g else I k'
theorem jU_s {g : Nat → Int} {j : Nat} {v : Int} : jU g j v j = v := by unfold jU; rw [if_pos rfl]
theorem jU_n {g : Nat → Int} {j i : Nat} {v : Int} (h : i ≠ j) : jU g j v i = g i := by unfold jU; rw [if_neg h]
theorem jSf_s {I : jMI} {k : Nat} {g : Nat → Int} : jSf I k g k = g := by unfold jSf; rw [if_pos rfl]
theorem jSf_n {I : jMI} {k k' : Nat} {g : Nat → Int} (h : k' ≠ k) : jSf I k g k' = I k' := by unfold jSf; rw [if_neg h]
theorem jSf_f {I : jMI} {k : Nat} {g h : Nat → Int} : jSf (jSf I k g) k h = jSf I k h := by
  funext k'
  by_cases e : k' = k
  · subst e; rw [jSf_s, jSf_s]
  · rw [jSf_n e, jSf_n e, jSf_n e]
theorem jSf_c {I : jMI} {k k' : Nat} {g h : Nat → Int} (e : k ≠ k') : jSf (jSf I k g) k' h = jSf (jSf I k' h) k g := by
  funext q
  by_cases e1 : q = k
  · subst e1; rw [jSf_s, jSf_n e, jSf_s]
  · by_cases e2 : q = k'
    · subst e2; rw [jSf_s, jSf_n e1, jSf_s]
    · rw [jSf_n e2, jSf_n e1, jSf_n e1, jSf_n e2]
theorem jSf_i {I : jMI} {k : Nat} : jSf I k (I k) = I := by
  funext q
  by_cases e : q = k
  · subst e; rw [jSf_s]
  · rw [jSf_n e]
theorem jSt_f {I : jMI} {k j : Nat} {v : Int} : jSt I k j v = jSf I k (jU (I k) j v) := by
  funext k' i
  by_cases e : k' = k
  · subst e
    rw [jSf_s]
    by_cases e2 : i = j
    · subst e2; rw [jSt_self, jU_s]
    · rw [jSt_nj e2, jU_n e2]
  · rw [jSf_n e, jSt_ne e]
theorem jSt_a {I : jMI} {k j : Nat} {g : Nat → Int} {v : Int} : jSt (jSf I k g) k j v = jSf I k (jU g j v) := by
  rw [jSt_f, jSf_f, jSf_s]
section JS
variable {X : jX} {own nm : String} {cc : ByteArray} {nL : Nat} {ret : Option FieldType} {d bc bs pc : Nat} {L : List (Option jV)} {st : List jV} {I : jMI} {R : jMR} {n : Nat} {Q : Option jV → jMI → jMR → Nat → Prop}

theorem j_iald_a {k len : Nat} {i : Int} {g : Nat → Int} (j : Nat) (hd : decode cc pc = .ok (.iaload, 1)) (hs : jsh k = .inl (.int, len)) (hk : k < n) (hlen : len ≤ 1000) (hj : i = (j : Int)) (hl : j < len) (kk : J X own nm cc nL ret d bc bs (pc + 1) (L) (jI (g j) :: st) (jSf I k g) (R) (n) Q) : J X own nm cc nL ret d bc bs (pc) (L) (jI i :: jR k :: st) (jSf I k g) (R) (n) Q := by
  subst hj
  refine j_iald hd hs hk ⟨by omega, by omega⟩ hlen ?_
  rw [Int.toNat_natCast, jSf_s]
  exact kk
theorem j_iald_c {k len : Nat} {i : Int} {g : Nat → Int} {k2 : Nat} (j : Nat) (hd : decode cc pc = .ok (.iaload, 1)) (hs : jsh k = .inl (.int, len)) (hk : k < n) (hlen : len ≤ 1000) (hj : i = (j : Int)) (hl : j < len) (hne : k ≠ k2) (kk : J X own nm cc nL ret d bc bs (pc + 1) (L) (jI (I k j) :: st) (jSf I k2 g) (R) (n) Q) : J X own nm cc nL ret d bc bs (pc) (L) (jI i :: jR k :: st) (jSf I k2 g) (R) (n) Q := by
  subst hj
  refine j_iald hd hs hk ⟨by omega, by omega⟩ hlen ?_
  rw [Int.toNat_natCast, jSf_n hne]
  exact kk
theorem j_iald_b {k len : Nat} {i : Int} (j : Nat) (hd : decode cc pc = .ok (.iaload, 1)) (hs : jsh k = .inl (.int, len)) (hk : k < n) (hlen : len ≤ 1000) (hj : i = (j : Int)) (hl : j < len) (kk : J X own nm cc nL ret d bc bs (pc + 1) (L) (jI (I k j) :: st) (I) (R) (n) Q) : J X own nm cc nL ret d bc bs (pc) (L) (jI i :: jR k :: st) (I) (R) (n) Q := by
  subst hj
  refine j_iald hd hs hk ⟨by omega, by omega⟩ hlen ?_
  rw [Int.toNat_natCast]
  exact kk
theorem j_iald_a0 {k len : Nat} {i : Int} {g : Nat → Int} (hd : decode cc pc = .ok (.iaload, 1)) (hs : jsh k = .inl (.int, len)) (hk : k < n) (hlen : len ≤ 1000) (hi : 0 ≤ i ∧ i < (len : Int)) (kk : J X own nm cc nL ret d bc bs (pc + 1) (L) (jI (g i.toNat) :: st) (jSf I k g) (R) (n) Q) : J X own nm cc nL ret d bc bs (pc) (L) (jI i :: jR k :: st) (jSf I k g) (R) (n) Q := by
  refine j_iald hd hs hk hi hlen ?_
  rw [jSf_s]
  exact kk
theorem j_iald_c0 {k len : Nat} {i : Int} {g : Nat → Int} {k2 : Nat} (hd : decode cc pc = .ok (.iaload, 1)) (hs : jsh k = .inl (.int, len)) (hk : k < n) (hlen : len ≤ 1000) (hi : 0 ≤ i ∧ i < (len : Int)) (hne : k ≠ k2) (kk : J X own nm cc nL ret d bc bs (pc + 1) (L) (jI (I k i.toNat) :: st) (jSf I k2 g) (R) (n) Q) : J X own nm cc nL ret d bc bs (pc) (L) (jI i :: jR k :: st) (jSf I k2 g) (R) (n) Q := by
  refine j_iald hd hs hk hi hlen ?_
  rw [jSf_n hne]
  exact kk
theorem j_lald_a {k len : Nat} {i : Int} {g : Nat → Int} (j : Nat) (hd : decode cc pc = .ok (.laload, 1)) (hs : jsh k = .inl (.long, len)) (hk : k < n) (hlen : len ≤ 1000) (hj : i = (j : Int)) (hl : j < len) (kk : J X own nm cc nL ret d bc bs (pc + 1) (L) (jL (g j) :: st) (jSf I k g) (R) (n) Q) : J X own nm cc nL ret d bc bs (pc) (L) (jI i :: jR k :: st) (jSf I k g) (R) (n) Q := by
  subst hj
  refine j_lald hd hs hk ⟨by omega, by omega⟩ hlen ?_
  rw [Int.toNat_natCast, jSf_s]
  exact kk
theorem j_lald_c {k len : Nat} {i : Int} {g : Nat → Int} {k2 : Nat} (j : Nat) (hd : decode cc pc = .ok (.laload, 1)) (hs : jsh k = .inl (.long, len)) (hk : k < n) (hlen : len ≤ 1000) (hj : i = (j : Int)) (hl : j < len) (hne : k ≠ k2) (kk : J X own nm cc nL ret d bc bs (pc + 1) (L) (jL (I k j) :: st) (jSf I k2 g) (R) (n) Q) : J X own nm cc nL ret d bc bs (pc) (L) (jI i :: jR k :: st) (jSf I k2 g) (R) (n) Q := by
  subst hj
  refine j_lald hd hs hk ⟨by omega, by omega⟩ hlen ?_
  rw [Int.toNat_natCast, jSf_n hne]
  exact kk
theorem j_lald_b {k len : Nat} {i : Int} (j : Nat) (hd : decode cc pc = .ok (.laload, 1)) (hs : jsh k = .inl (.long, len)) (hk : k < n) (hlen : len ≤ 1000) (hj : i = (j : Int)) (hl : j < len) (kk : J X own nm cc nL ret d bc bs (pc + 1) (L) (jL (I k j) :: st) (I) (R) (n) Q) : J X own nm cc nL ret d bc bs (pc) (L) (jI i :: jR k :: st) (I) (R) (n) Q := by
  subst hj
  refine j_lald hd hs hk ⟨by omega, by omega⟩ hlen ?_
  rw [Int.toNat_natCast]
  exact kk
theorem j_lald_a0 {k len : Nat} {i : Int} {g : Nat → Int} (hd : decode cc pc = .ok (.laload, 1)) (hs : jsh k = .inl (.long, len)) (hk : k < n) (hlen : len ≤ 1000) (hi : 0 ≤ i ∧ i < (len : Int)) (kk : J X own nm cc nL ret d bc bs (pc + 1) (L) (jL (g i.toNat) :: st) (jSf I k g) (R) (n) Q) : J X own nm cc nL ret d bc bs (pc) (L) (jI i :: jR k :: st) (jSf I k g) (R) (n) Q := by
  refine j_lald hd hs hk hi hlen ?_
  rw [jSf_s]
  exact kk
theorem j_lald_c0 {k len : Nat} {i : Int} {g : Nat → Int} {k2 : Nat} (hd : decode cc pc = .ok (.laload, 1)) (hs : jsh k = .inl (.long, len)) (hk : k < n) (hlen : len ≤ 1000) (hi : 0 ≤ i ∧ i < (len : Int)) (hne : k ≠ k2) (kk : J X own nm cc nL ret d bc bs (pc + 1) (L) (jL (I k i.toNat) :: st) (jSf I k2 g) (R) (n) Q) : J X own nm cc nL ret d bc bs (pc) (L) (jI i :: jR k :: st) (jSf I k2 g) (R) (n) Q := by
  refine j_lald hd hs hk hi hlen ?_
  rw [jSf_n hne]
  exact kk
theorem j_zald_a {k len : Nat} {i : Int} {g : Nat → Int} (j : Nat) (hd : decode cc pc = .ok (.baload, 1)) (hs : jsh k = .inl (.boolean, len)) (hk : k < n) (hlen : len ≤ 1000) (hj : i = (j : Int)) (hl : j < len) (kk : J X own nm cc nL ret d bc bs (pc + 1) (L) (jI (g j) :: st) (jSf I k g) (R) (n) Q) : J X own nm cc nL ret d bc bs (pc) (L) (jI i :: jR k :: st) (jSf I k g) (R) (n) Q := by
  subst hj
  refine j_zald hd hs hk ⟨by omega, by omega⟩ hlen ?_
  rw [Int.toNat_natCast, jSf_s]
  exact kk
theorem j_zald_c {k len : Nat} {i : Int} {g : Nat → Int} {k2 : Nat} (j : Nat) (hd : decode cc pc = .ok (.baload, 1)) (hs : jsh k = .inl (.boolean, len)) (hk : k < n) (hlen : len ≤ 1000) (hj : i = (j : Int)) (hl : j < len) (hne : k ≠ k2) (kk : J X own nm cc nL ret d bc bs (pc + 1) (L) (jI (I k j) :: st) (jSf I k2 g) (R) (n) Q) : J X own nm cc nL ret d bc bs (pc) (L) (jI i :: jR k :: st) (jSf I k2 g) (R) (n) Q := by
  subst hj
  refine j_zald hd hs hk ⟨by omega, by omega⟩ hlen ?_
  rw [Int.toNat_natCast, jSf_n hne]
  exact kk
theorem j_zald_b {k len : Nat} {i : Int} (j : Nat) (hd : decode cc pc = .ok (.baload, 1)) (hs : jsh k = .inl (.boolean, len)) (hk : k < n) (hlen : len ≤ 1000) (hj : i = (j : Int)) (hl : j < len) (kk : J X own nm cc nL ret d bc bs (pc + 1) (L) (jI (I k j) :: st) (I) (R) (n) Q) : J X own nm cc nL ret d bc bs (pc) (L) (jI i :: jR k :: st) (I) (R) (n) Q := by
  subst hj
  refine j_zald hd hs hk ⟨by omega, by omega⟩ hlen ?_
  rw [Int.toNat_natCast]
  exact kk
theorem j_zald_a0 {k len : Nat} {i : Int} {g : Nat → Int} (hd : decode cc pc = .ok (.baload, 1)) (hs : jsh k = .inl (.boolean, len)) (hk : k < n) (hlen : len ≤ 1000) (hi : 0 ≤ i ∧ i < (len : Int)) (kk : J X own nm cc nL ret d bc bs (pc + 1) (L) (jI (g i.toNat) :: st) (jSf I k g) (R) (n) Q) : J X own nm cc nL ret d bc bs (pc) (L) (jI i :: jR k :: st) (jSf I k g) (R) (n) Q := by
  refine j_zald hd hs hk hi hlen ?_
  rw [jSf_s]
  exact kk
theorem j_zald_c0 {k len : Nat} {i : Int} {g : Nat → Int} {k2 : Nat} (hd : decode cc pc = .ok (.baload, 1)) (hs : jsh k = .inl (.boolean, len)) (hk : k < n) (hlen : len ≤ 1000) (hi : 0 ≤ i ∧ i < (len : Int)) (hne : k ≠ k2) (kk : J X own nm cc nL ret d bc bs (pc + 1) (L) (jI (I k i.toNat) :: st) (jSf I k2 g) (R) (n) Q) : J X own nm cc nL ret d bc bs (pc) (L) (jI i :: jR k :: st) (jSf I k2 g) (R) (n) Q := by
  refine j_zald hd hs hk hi hlen ?_
  rw [jSf_n hne]
  exact kk
theorem j_bald_a {k len : Nat} {i : Int} {g : Nat → Int} (j : Nat) (hd : decode cc pc = .ok (.baload, 1)) (hs : jsh k = .inl (.byte, len)) (hk : k < n) (hlen : len ≤ 1000) (hj : i = (j : Int)) (hl : j < len) (kk : J X own nm cc nL ret d bc bs (pc + 1) (L) (jI (g j) :: st) (jSf I k g) (R) (n) Q) : J X own nm cc nL ret d bc bs (pc) (L) (jI i :: jR k :: st) (jSf I k g) (R) (n) Q := by
  subst hj
  refine j_bald hd hs hk ⟨by omega, by omega⟩ hlen ?_
  rw [Int.toNat_natCast, jSf_s]
  exact kk
theorem j_bald_c {k len : Nat} {i : Int} {g : Nat → Int} {k2 : Nat} (j : Nat) (hd : decode cc pc = .ok (.baload, 1)) (hs : jsh k = .inl (.byte, len)) (hk : k < n) (hlen : len ≤ 1000) (hj : i = (j : Int)) (hl : j < len) (hne : k ≠ k2) (kk : J X own nm cc nL ret d bc bs (pc + 1) (L) (jI (I k j) :: st) (jSf I k2 g) (R) (n) Q) : J X own nm cc nL ret d bc bs (pc) (L) (jI i :: jR k :: st) (jSf I k2 g) (R) (n) Q := by
  subst hj
  refine j_bald hd hs hk ⟨by omega, by omega⟩ hlen ?_
  rw [Int.toNat_natCast, jSf_n hne]
  exact kk
theorem j_bald_b {k len : Nat} {i : Int} (j : Nat) (hd : decode cc pc = .ok (.baload, 1)) (hs : jsh k = .inl (.byte, len)) (hk : k < n) (hlen : len ≤ 1000) (hj : i = (j : Int)) (hl : j < len) (kk : J X own nm cc nL ret d bc bs (pc + 1) (L) (jI (I k j) :: st) (I) (R) (n) Q) : J X own nm cc nL ret d bc bs (pc) (L) (jI i :: jR k :: st) (I) (R) (n) Q := by
  subst hj
  refine j_bald hd hs hk ⟨by omega, by omega⟩ hlen ?_
  rw [Int.toNat_natCast]
  exact kk
theorem j_bald_a0 {k len : Nat} {i : Int} {g : Nat → Int} (hd : decode cc pc = .ok (.baload, 1)) (hs : jsh k = .inl (.byte, len)) (hk : k < n) (hlen : len ≤ 1000) (hi : 0 ≤ i ∧ i < (len : Int)) (kk : J X own nm cc nL ret d bc bs (pc + 1) (L) (jI (g i.toNat) :: st) (jSf I k g) (R) (n) Q) : J X own nm cc nL ret d bc bs (pc) (L) (jI i :: jR k :: st) (jSf I k g) (R) (n) Q := by
  refine j_bald hd hs hk hi hlen ?_
  rw [jSf_s]
  exact kk
theorem j_bald_c0 {k len : Nat} {i : Int} {g : Nat → Int} {k2 : Nat} (hd : decode cc pc = .ok (.baload, 1)) (hs : jsh k = .inl (.byte, len)) (hk : k < n) (hlen : len ≤ 1000) (hi : 0 ≤ i ∧ i < (len : Int)) (hne : k ≠ k2) (kk : J X own nm cc nL ret d bc bs (pc + 1) (L) (jI (I k i.toNat) :: st) (jSf I k2 g) (R) (n) Q) : J X own nm cc nL ret d bc bs (pc) (L) (jI i :: jR k :: st) (jSf I k2 g) (R) (n) Q := by
  refine j_bald hd hs hk hi hlen ?_
  rw [jSf_n hne]
  exact kk
theorem j_iast_a {k len : Nat} {i a : Int} {g : Nat → Int} (j : Nat) (hd : decode cc pc = .ok (.iastore, 1)) (hs : jsh k = .inl (.int, len)) (hk : k < n) (hlen : len ≤ 1000) (hj : i = (j : Int)) (hl : j < len) (kk : J X own nm cc nL ret d bc bs (pc + 1) (L) (st) (jSf I k (jU g j a)) (R) (n) Q) : J X own nm cc nL ret d bc bs (pc) (L) (jI a :: jI i :: jR k :: st) (jSf I k g) (R) (n) Q := by
  subst hj
  refine j_iast hd hs hk ⟨by omega, by omega⟩ hlen ?_
  rw [Int.toNat_natCast, jSt_a]
  exact kk
theorem j_iast_a0 {k len : Nat} {i a : Int} {g : Nat → Int} (hd : decode cc pc = .ok (.iastore, 1)) (hs : jsh k = .inl (.int, len)) (hk : k < n) (hlen : len ≤ 1000) (hi : 0 ≤ i ∧ i < (len : Int)) (kk : J X own nm cc nL ret d bc bs (pc + 1) (L) (st) (jSf I k (jU g i.toNat a)) (R) (n) Q) : J X own nm cc nL ret d bc bs (pc) (L) (jI a :: jI i :: jR k :: st) (jSf I k g) (R) (n) Q := by
  refine j_iast hd hs hk hi hlen ?_
  rw [jSt_a]
  exact kk
theorem j_iast_b {k len : Nat} {i a : Int} (j : Nat) (hd : decode cc pc = .ok (.iastore, 1)) (hs : jsh k = .inl (.int, len)) (hk : k < n) (hlen : len ≤ 1000) (hj : i = (j : Int)) (hl : j < len) (kk : J X own nm cc nL ret d bc bs (pc + 1) (L) (st) (jSf I k (jU (I k) j a)) (R) (n) Q) : J X own nm cc nL ret d bc bs (pc) (L) (jI a :: jI i :: jR k :: st) (I) (R) (n) Q := by
  subst hj
  refine j_iast hd hs hk ⟨by omega, by omega⟩ hlen ?_
  rw [Int.toNat_natCast, jSt_f]
  exact kk
theorem j_iast_b0 {k len : Nat} {i a : Int} (hd : decode cc pc = .ok (.iastore, 1)) (hs : jsh k = .inl (.int, len)) (hk : k < n) (hlen : len ≤ 1000) (hi : 0 ≤ i ∧ i < (len : Int)) (kk : J X own nm cc nL ret d bc bs (pc + 1) (L) (st) (jSf I k (jU (I k) i.toNat a)) (R) (n) Q) : J X own nm cc nL ret d bc bs (pc) (L) (jI a :: jI i :: jR k :: st) (I) (R) (n) Q := by
  refine j_iast hd hs hk hi hlen ?_
  rw [jSt_f]
  exact kk
theorem j_last_a {k len : Nat} {i a : Int} {g : Nat → Int} (j : Nat) (hd : decode cc pc = .ok (.lastore, 1)) (hs : jsh k = .inl (.long, len)) (hk : k < n) (hlen : len ≤ 1000) (hj : i = (j : Int)) (hl : j < len) (kk : J X own nm cc nL ret d bc bs (pc + 1) (L) (st) (jSf I k (jU g j a)) (R) (n) Q) : J X own nm cc nL ret d bc bs (pc) (L) (jL a :: jI i :: jR k :: st) (jSf I k g) (R) (n) Q := by
  subst hj
  refine j_last hd hs hk ⟨by omega, by omega⟩ hlen ?_
  rw [Int.toNat_natCast, jSt_a]
  exact kk
theorem j_last_a0 {k len : Nat} {i a : Int} {g : Nat → Int} (hd : decode cc pc = .ok (.lastore, 1)) (hs : jsh k = .inl (.long, len)) (hk : k < n) (hlen : len ≤ 1000) (hi : 0 ≤ i ∧ i < (len : Int)) (kk : J X own nm cc nL ret d bc bs (pc + 1) (L) (st) (jSf I k (jU g i.toNat a)) (R) (n) Q) : J X own nm cc nL ret d bc bs (pc) (L) (jL a :: jI i :: jR k :: st) (jSf I k g) (R) (n) Q := by
  refine j_last hd hs hk hi hlen ?_
  rw [jSt_a]
  exact kk
theorem j_last_b {k len : Nat} {i a : Int} (j : Nat) (hd : decode cc pc = .ok (.lastore, 1)) (hs : jsh k = .inl (.long, len)) (hk : k < n) (hlen : len ≤ 1000) (hj : i = (j : Int)) (hl : j < len) (kk : J X own nm cc nL ret d bc bs (pc + 1) (L) (st) (jSf I k (jU (I k) j a)) (R) (n) Q) : J X own nm cc nL ret d bc bs (pc) (L) (jL a :: jI i :: jR k :: st) (I) (R) (n) Q := by
  subst hj
  refine j_last hd hs hk ⟨by omega, by omega⟩ hlen ?_
  rw [Int.toNat_natCast, jSt_f]
  exact kk
theorem j_last_b0 {k len : Nat} {i a : Int} (hd : decode cc pc = .ok (.lastore, 1)) (hs : jsh k = .inl (.long, len)) (hk : k < n) (hlen : len ≤ 1000) (hi : 0 ≤ i ∧ i < (len : Int)) (kk : J X own nm cc nL ret d bc bs (pc + 1) (L) (st) (jSf I k (jU (I k) i.toNat a)) (R) (n) Q) : J X own nm cc nL ret d bc bs (pc) (L) (jL a :: jI i :: jR k :: st) (I) (R) (n) Q := by
  refine j_last hd hs hk hi hlen ?_
  rw [jSt_f]
  exact kk
theorem j_zast_a {k len : Nat} {i a : Int} {g : Nat → Int} (j : Nat) (hd : decode cc pc = .ok (.bastore, 1)) (hs : jsh k = .inl (.boolean, len)) (hk : k < n) (hlen : len ≤ 1000) (hv : narrow .boolean (.int (Int32.ofInt a)) = .int (Int32.ofInt a)) (hj : i = (j : Int)) (hl : j < len) (kk : J X own nm cc nL ret d bc bs (pc + 1) (L) (st) (jSf I k (jU g j a)) (R) (n) Q) : J X own nm cc nL ret d bc bs (pc) (L) (jI a :: jI i :: jR k :: st) (jSf I k g) (R) (n) Q := by
  subst hj
  refine j_zast hd hs hk ⟨by omega, by omega⟩ hv hlen ?_
  rw [Int.toNat_natCast, jSt_a]
  exact kk
theorem j_zast_a0 {k len : Nat} {i a : Int} {g : Nat → Int} (hd : decode cc pc = .ok (.bastore, 1)) (hs : jsh k = .inl (.boolean, len)) (hk : k < n) (hlen : len ≤ 1000) (hv : narrow .boolean (.int (Int32.ofInt a)) = .int (Int32.ofInt a)) (hi : 0 ≤ i ∧ i < (len : Int)) (kk : J X own nm cc nL ret d bc bs (pc + 1) (L) (st) (jSf I k (jU g i.toNat a)) (R) (n) Q) : J X own nm cc nL ret d bc bs (pc) (L) (jI a :: jI i :: jR k :: st) (jSf I k g) (R) (n) Q := by
  refine j_zast hd hs hk hi hv hlen ?_
  rw [jSt_a]
  exact kk
theorem j_zast_b {k len : Nat} {i a : Int} (j : Nat) (hd : decode cc pc = .ok (.bastore, 1)) (hs : jsh k = .inl (.boolean, len)) (hk : k < n) (hlen : len ≤ 1000) (hv : narrow .boolean (.int (Int32.ofInt a)) = .int (Int32.ofInt a)) (hj : i = (j : Int)) (hl : j < len) (kk : J X own nm cc nL ret d bc bs (pc + 1) (L) (st) (jSf I k (jU (I k) j a)) (R) (n) Q) : J X own nm cc nL ret d bc bs (pc) (L) (jI a :: jI i :: jR k :: st) (I) (R) (n) Q := by
  subst hj
  refine j_zast hd hs hk ⟨by omega, by omega⟩ hv hlen ?_
  rw [Int.toNat_natCast, jSt_f]
  exact kk
theorem j_zast_b0 {k len : Nat} {i a : Int} (hd : decode cc pc = .ok (.bastore, 1)) (hs : jsh k = .inl (.boolean, len)) (hk : k < n) (hlen : len ≤ 1000) (hv : narrow .boolean (.int (Int32.ofInt a)) = .int (Int32.ofInt a)) (hi : 0 ≤ i ∧ i < (len : Int)) (kk : J X own nm cc nL ret d bc bs (pc + 1) (L) (st) (jSf I k (jU (I k) i.toNat a)) (R) (n) Q) : J X own nm cc nL ret d bc bs (pc) (L) (jI a :: jI i :: jR k :: st) (I) (R) (n) Q := by
  refine j_zast hd hs hk hi hv hlen ?_
  rw [jSt_f]
  exact kk
theorem j_bast_a {k len : Nat} {i a : Int} {g : Nat → Int} (j : Nat) (hd : decode cc pc = .ok (.bastore, 1)) (hs : jsh k = .inl (.byte, len)) (hk : k < n) (hlen : len ≤ 1000) (hv : narrow .byte (.int (Int32.ofInt a)) = .int (Int32.ofInt a)) (hj : i = (j : Int)) (hl : j < len) (kk : J X own nm cc nL ret d bc bs (pc + 1) (L) (st) (jSf I k (jU g j a)) (R) (n) Q) : J X own nm cc nL ret d bc bs (pc) (L) (jI a :: jI i :: jR k :: st) (jSf I k g) (R) (n) Q := by
  subst hj
  refine j_bast hd hs hk ⟨by omega, by omega⟩ hv hlen ?_
  rw [Int.toNat_natCast, jSt_a]
  exact kk
theorem j_bast_a0 {k len : Nat} {i a : Int} {g : Nat → Int} (hd : decode cc pc = .ok (.bastore, 1)) (hs : jsh k = .inl (.byte, len)) (hk : k < n) (hlen : len ≤ 1000) (hv : narrow .byte (.int (Int32.ofInt a)) = .int (Int32.ofInt a)) (hi : 0 ≤ i ∧ i < (len : Int)) (kk : J X own nm cc nL ret d bc bs (pc + 1) (L) (st) (jSf I k (jU g i.toNat a)) (R) (n) Q) : J X own nm cc nL ret d bc bs (pc) (L) (jI a :: jI i :: jR k :: st) (jSf I k g) (R) (n) Q := by
  refine j_bast hd hs hk hi hv hlen ?_
  rw [jSt_a]
  exact kk
theorem j_bast_b {k len : Nat} {i a : Int} (j : Nat) (hd : decode cc pc = .ok (.bastore, 1)) (hs : jsh k = .inl (.byte, len)) (hk : k < n) (hlen : len ≤ 1000) (hv : narrow .byte (.int (Int32.ofInt a)) = .int (Int32.ofInt a)) (hj : i = (j : Int)) (hl : j < len) (kk : J X own nm cc nL ret d bc bs (pc + 1) (L) (st) (jSf I k (jU (I k) j a)) (R) (n) Q) : J X own nm cc nL ret d bc bs (pc) (L) (jI a :: jI i :: jR k :: st) (I) (R) (n) Q := by
  subst hj
  refine j_bast hd hs hk ⟨by omega, by omega⟩ hv hlen ?_
  rw [Int.toNat_natCast, jSt_f]
  exact kk
theorem j_bast_b0 {k len : Nat} {i a : Int} (hd : decode cc pc = .ok (.bastore, 1)) (hs : jsh k = .inl (.byte, len)) (hk : k < n) (hlen : len ≤ 1000) (hv : narrow .byte (.int (Int32.ofInt a)) = .int (Int32.ofInt a)) (hi : 0 ≤ i ∧ i < (len : Int)) (kk : J X own nm cc nL ret d bc bs (pc + 1) (L) (st) (jSf I k (jU (I k) i.toNat a)) (R) (n) Q) : J X own nm cc nL ret d bc bs (pc) (L) (jI a :: jI i :: jR k :: st) (I) (R) (n) Q := by
  refine j_bast hd hs hk hi hv hlen ?_
  rw [jSt_f]
  exact kk
theorem j_getI_a {k ci j idx : Nat} {g : Nat → Int} (fl : jFl own idx ci j) (hd : decode cc pc = .ok (.getfield idx, 3)) (hs : jsh k = .inr ci) (ht : jkd (jty ci j) = 0) (hk : k < n) (kk : J X own nm cc nL ret d bc bs (pc + 3) (L) (jI (g j) :: st) (jSf I k g) (R) (n) Q) : J X own nm cc nL ret d bc bs (pc) (L) (jR k :: st) (jSf I k g) (R) (n) Q := by
  refine j_getI fl hd hs ht hk ?_
  rw [jSf_s]
  exact kk
theorem j_getI_c {k ci j idx : Nat} {g : Nat → Int} {k2 : Nat} (fl : jFl own idx ci j) (hd : decode cc pc = .ok (.getfield idx, 3)) (hs : jsh k = .inr ci) (ht : jkd (jty ci j) = 0) (hk : k < n) (hne : k ≠ k2) (kk : J X own nm cc nL ret d bc bs (pc + 3) (L) (jI (I k j) :: st) (jSf I k2 g) (R) (n) Q) : J X own nm cc nL ret d bc bs (pc) (L) (jR k :: st) (jSf I k2 g) (R) (n) Q := by
  refine j_getI fl hd hs ht hk ?_
  rw [jSf_n hne]
  exact kk
theorem j_putI_a {k ci j idx : Nat} {a : Int} {g : Nat → Int} (fl : jFl own idx ci j) (hd : decode cc pc = .ok (.putfield idx, 3)) (hs : jsh k = .inr ci) (ht : jty ci j = .int) (hf : (jtT ci j).2.2.2 = false) (hk : k < n) (kk : J X own nm cc nL ret d bc bs (pc + 3) (L) (st) (jSf I k (jU g j a)) (R) (n) Q) : J X own nm cc nL ret d bc bs (pc) (L) (jI a :: jR k :: st) (jSf I k g) (R) (n) Q := by
  refine j_putI fl hd hs ht hf hk ?_
  rw [jSt_a]
  exact kk
theorem j_putI_b {k ci j idx : Nat} {a : Int} (fl : jFl own idx ci j) (hd : decode cc pc = .ok (.putfield idx, 3)) (hs : jsh k = .inr ci) (ht : jty ci j = .int) (hf : (jtT ci j).2.2.2 = false) (hk : k < n) (kk : J X own nm cc nL ret d bc bs (pc + 3) (L) (st) (jSf I k (jU (I k) j a)) (R) (n) Q) : J X own nm cc nL ret d bc bs (pc) (L) (jI a :: jR k :: st) (I) (R) (n) Q := by
  refine j_putI fl hd hs ht hf hk ?_
  rw [jSt_f]
  exact kk
theorem j_getL_a {k ci j idx : Nat} {g : Nat → Int} (fl : jFl own idx ci j) (hd : decode cc pc = .ok (.getfield idx, 3)) (hs : jsh k = .inr ci) (ht : jkd (jty ci j) = 1) (hk : k < n) (kk : J X own nm cc nL ret d bc bs (pc + 3) (L) (jL (g j) :: st) (jSf I k g) (R) (n) Q) : J X own nm cc nL ret d bc bs (pc) (L) (jR k :: st) (jSf I k g) (R) (n) Q := by
  refine j_getL fl hd hs ht hk ?_
  rw [jSf_s]
  exact kk
theorem j_getL_c {k ci j idx : Nat} {g : Nat → Int} {k2 : Nat} (fl : jFl own idx ci j) (hd : decode cc pc = .ok (.getfield idx, 3)) (hs : jsh k = .inr ci) (ht : jkd (jty ci j) = 1) (hk : k < n) (hne : k ≠ k2) (kk : J X own nm cc nL ret d bc bs (pc + 3) (L) (jL (I k j) :: st) (jSf I k2 g) (R) (n) Q) : J X own nm cc nL ret d bc bs (pc) (L) (jR k :: st) (jSf I k2 g) (R) (n) Q := by
  refine j_getL fl hd hs ht hk ?_
  rw [jSf_n hne]
  exact kk
theorem j_putL_a {k ci j idx : Nat} {a : Int} {g : Nat → Int} (fl : jFl own idx ci j) (hd : decode cc pc = .ok (.putfield idx, 3)) (hs : jsh k = .inr ci) (ht : jty ci j = .long) (hf : (jtT ci j).2.2.2 = false) (hk : k < n) (kk : J X own nm cc nL ret d bc bs (pc + 3) (L) (st) (jSf I k (jU g j a)) (R) (n) Q) : J X own nm cc nL ret d bc bs (pc) (L) (jL a :: jR k :: st) (jSf I k g) (R) (n) Q := by
  refine j_putL fl hd hs ht hf hk ?_
  rw [jSt_a]
  exact kk
theorem j_putL_b {k ci j idx : Nat} {a : Int} (fl : jFl own idx ci j) (hd : decode cc pc = .ok (.putfield idx, 3)) (hs : jsh k = .inr ci) (ht : jty ci j = .long) (hf : (jtT ci j).2.2.2 = false) (hk : k < n) (kk : J X own nm cc nL ret d bc bs (pc + 3) (L) (st) (jSf I k (jU (I k) j a)) (R) (n) Q) : J X own nm cc nL ret d bc bs (pc) (L) (jL a :: jR k :: st) (I) (R) (n) Q := by
  refine j_putL fl hd hs ht hf hk ?_
  rw [jSt_f]
  exact kk
end JS
