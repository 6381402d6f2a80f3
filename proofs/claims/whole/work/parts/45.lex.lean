/-! ===== a text, token by token ===== -/
def scn (P : Nat → Bool) (n : Nat) : Nat → Nat → Nat
  | 0, p => p
  | k + 1, p => if p < n ∧ P p = true then scn P n k (p + 1) else p
def sc (P : Nat → Bool) (n p : Nat) : Nat := scn P n (n - p) p
theorem sc_step {P : Nat → Bool} {n p : Nat} (h : p < n) (hP : P p = true) : sc P n p = sc P n (p + 1) := by
  unfold sc
  rw [show n - p = (n - (p + 1)) + 1 by omega]
  show (if p < n ∧ P p = true then scn P n (n - (p + 1)) (p + 1) else p) = _
  rw [if_pos ⟨h, hP⟩]
theorem sc_stop {P : Nat → Bool} {n p : Nat} (h : ¬ (p < n ∧ P p = true)) : sc P n p = p := by
  unfold sc
  cases hk : n - p with
  | zero => rfl
  | succ k =>
    show (if p < n ∧ P p = true then scn P n k (p + 1) else p) = _
    rw [if_neg h]
theorem scn_rng {P : Nat → Bool} {n : Nat} : ∀ k p, p ≤ n → p ≤ scn P n k p ∧ scn P n k p ≤ n := by
  intro k
  induction k with
  | zero => intro p h; exact ⟨Nat.le_refl _, h⟩
  | succ k ih =>
    intro p h
    show p ≤ (if p < n ∧ P p = true then scn P n k (p + 1) else p) ∧ (if p < n ∧ P p = true then scn P n k (p + 1) else p) ≤ n
    split
    · have := ih (p + 1) (by omega); omega
    · omega
theorem sc_rng {P : Nat → Bool} {n p : Nat} (h : p ≤ n) : p ≤ sc P n p ∧ sc P n p ≤ n := scn_rng _ _ h
theorem scn_end {P : Nat → Bool} {n : Nat} : ∀ k p, n ≤ p + k → ¬ (scn P n k p < n ∧ P (scn P n k p) = true) := by
  intro k
  induction k with
  | zero => intro p h hx; have : scn P n 0 p = p := rfl; omega
  | succ k ih =>
    intro p h
    show ¬ ((if p < n ∧ P p = true then scn P n k (p + 1) else p) < n ∧ P (if p < n ∧ P p = true then scn P n k (p + 1) else p) = true)
    split
    · exact ih (p + 1) (by omega)
    · assumption
theorem sc_end {P : Nat → Bool} {n p : Nat} : ¬ (sc P n p < n ∧ P (sc P n p) = true) := scn_end _ _ (by omega)
theorem scn_all {P : Nat → Bool} {n : Nat} : ∀ k p i, p ≤ i → i < scn P n k p → P i = true := by
  intro k
  induction k with
  | zero => intro p i h1 h2; have : scn P n 0 p = p := rfl; omega
  | succ k ih =>
    intro p i h1 h2
    have e : scn P n (k + 1) p = (if p < n ∧ P p = true then scn P n k (p + 1) else p) := rfl
    rw [e] at h2
    split at h2
    · by_cases hi : i = p
      · subst hi; rename_i hh; exact hh.2
      · exact ih (p + 1) i (by omega) h2
    · omega
theorem sc_all {P : Nat → Bool} {n p i : Nat} (h1 : p ≤ i) (h2 : i < sc P n p) : P i = true := scn_all _ _ _ h1 h2
def isSp (b : Nat → Int) (i : Nat) : Bool := decide (b i = 32)
def isLt (b : Nat → Int) (i : Nat) : Bool := decide (97 ≤ b i ∧ b i ≤ 122)
def isDg (b : Nat → Int) (i : Nat) : Bool := decide (48 ≤ b i ∧ b i ≤ 57)
def tS (b : Nat → Int) (n p : Nat) : Nat := sc (isSp b) n p
def tW (b : Nat → Int) (n s : Nat) : Nat := sc (isLt b) n s
def tD (b : Nat → Int) (n s : Nat) : Nat := sc (isDg b) n s
/-- 0 end, 1 word, 2 number, 3 stop, 4 wrong -/
def tSo (b : Nat → Int) (n s : Nat) : Nat := if n ≤ s then 0 else if b s = 59 then 3 else if s < tW b n s then 1 else if s < tD b n s ∧ tD b n s - s ≤ 2 then 2 else 4
def tE (b : Nat → Int) (n s : Nat) : Nat := if n ≤ s then s else if b s = 59 then s + 1 else if s < tW b n s then tW b n s else tD b n s
def tV (b : Nat → Int) (n s : Nat) : Int := if tD b n s - s ≤ 1 then b s - 48 else 10 * (b s - 48) + b (s + 1) - 48
theorem tS_rng {b : Nat → Int} {n p : Nat} (h : p ≤ n) : p ≤ tS b n p ∧ tS b n p ≤ n := sc_rng h
theorem tE_rng {b : Nat → Int} {n s : Nat} (h : s ≤ n) : s ≤ tE b n s ∧ tE b n s ≤ n := by
  have h1 := sc_rng (P := isLt b) h
  have h2 := sc_rng (P := isDg b) h
  unfold tE tW tD
  repeat' split
  all_goals omega
theorem tSo_lt {b : Nat → Int} {n s : Nat} (h : tSo b n s ≠ 0) : s < n := by
  unfold tSo at h
  split at h
  · omega
  · omega
theorem tE_lt {b : Nat → Int} {n s : Nat} (h : tSo b n s ≠ 0) (h4 : tSo b n s ≠ 4) : s < tE b n s := by
  have hs := tSo_lt h
  unfold tSo at h h4
  unfold tE
  rw [if_neg (by omega)] at *
  split
  · omega
  · rw [if_neg (by assumption)] at h h4
    split
    · assumption
    · rw [if_neg (by assumption)] at h h4
      split at h4
      · rename_i hh; exact hh.1
      · omega
theorem tV_rng {b : Nat → Int} {n s : Nat} (h : tSo b n s = 2) : 0 ≤ tV b n s ∧ tV b n s ≤ 99 := by
  have hs := tSo_lt (show tSo b n s ≠ 0 by omega)
  unfold tSo at h
  rw [if_neg (by omega)] at h
  split at h
  · omega
  · split at h
    · omega
    · split at h
      · rename_i hh
        have h1 := sc_all (P := isDg b) (n := n) (p := s) (i := s) (Nat.le_refl _) hh.1
        unfold isDg at h1
        rw [decide_eq_true_eq] at h1
        unfold tV
        split
        · omega
        · have h2 := sc_all (P := isDg b) (n := n) (p := s) (i := s + 1) (by omega) (by have := hh.1; unfold tD at *; omega)
          unfold isDg at h2
          rw [decide_eq_true_eq] at h2
          omega
      · omega
/-! what the tokens tell -/
def pStop (b : Nat → Int) (n p : Nat) (f : Nat → Int) : Except Nat (Nat × (Nat → Int)) := if tSo b n (tS b n p) = 3 then .ok (tE b n (tS b n p), f) else .error (tS b n p)
def pNum (b : Nat → Int) (n p : Nat) (most : Int) : Except Nat (Int × Nat) := if tSo b n (tS b n p) = 2 ∧ tV b n (tS b n p) ≤ most then .ok (tV b n (tS b n p), tE b n (tS b n p)) else .error (tS b n p)
def pStair (b : Nat → Int) (n p : Nat) (f : Nat → Int) : Except Nat (Nat × (Nat → Int)) :=
  match pNum b n p 7 with
  | .error s => .error s
  | .ok (a, p1) => match pNum b n p1 7 with
    | .error s => .error s
    | .ok (c, p2) => if a = c then .error (tS b n p1) else match pNum b n p2 9 with
      | .error s => .error s
      | .ok (v, p3) => pStop b n p3 (jU f (71 + pairN a.toNat c.toNat) v)
def pSleep (b : Nat → Int) (n s0 p : Nat) (f : Nat → Int) : Except Nat (Nat × (Nat → Int)) :=
  if 5 ≤ f 5 then .error s0 else match pNum b n p 5 with
  | .error s => .error s
  | .ok (k, p1) => match pNum b n p1 7 with
    | .error s => .error s
    | .ok (r, p2) => match pNum b n p2 9 with
      | .error s => .error s
      | .ok (e, p3) => pStop b n p3 (mAddSl f (f 5).toNat k r e)
def pOwn (b : Nat → Int) (n t : Nat) : Nat → Nat → (Nat → Int) → Except Nat (Nat × (Nat → Int))
  | 0, p, f => pStop b n p f
  | k + 1, p, f => if tSo b n (tS b n p) = 3 then .ok (tE b n (tS b n p), f) else if tSo b n (tS b n p) = 2 ∧ tV b n (tS b n p) ≤ 2 ∧ tV b n (tS b n p) ≠ lastF f t then pOwn b n t k (tE b n (tS b n p)) (mAddOw f t (3 - k) (tV b n (tS b n p))) else .error (tS b n p)
def pThing (b : Nat → Int) (n s0 p : Nat) (f : Nat → Int) : Except Nat (Nat × (Nat → Int)) :=
  if 5 ≤ f 21 then .error s0 else match pNum b n p 7 with
  | .error s => .error s
  | .ok (h, p1) => pOwn b n (f 21).toNat 4 p1 (mAddTh f (f 21).toNat h)
def cd (b : Nat → Int) (s : Nat) : Nat → Int
  | 0 => 0
  | k + 1 => 27 * cd b s k + b (s + k) - 97 + 1
/-- a word, told by its length and its letters -/
def isWd (b : Nat → Int) (n s : Nat) (w : List Int) : Prop := tSo b n s = 1 ∧ tE b n s - s = w.length ∧ ∀ i, i < w.length → b (s + i) = w[i]?.getD 0
def wHouse : List Int := [104, 111, 117, 115, 101]
def wStair : List Int := [115, 116, 97, 105, 114]
def wSleep : List Int := [115, 108, 101, 101, 112, 101, 114]
def wThing : List Int := [116, 104, 105, 110, 103]
noncomputable def pItem (b : Nat → Int) (n s : Nat) (f : Nat → Int) : Except Nat (Nat × (Nat → Int)) :=
  haveI := Classical.propDecidable
  if isWd b n s wStair then pStair b n (tE b n s) f else if isWd b n s wSleep then pSleep b n s (tE b n s) f else if isWd b n s wThing then pThing b n s (tE b n s) f else .error s
noncomputable def pRest (b : Nat → Int) (n : Nat) : Nat → Nat → Nat → (Nat → Int) → Except Nat (Nat × (Nat → Int))
  | 0, _, _, _ => .error 0
  | k + 1, it, p, f => if tSo b n (tS b n p) = 0 then .ok (it, f) else match pItem b n (tS b n p) f with
    | .error s => .error s
    | .ok (p', f') => pRest b n k (it + 1) p' f'
noncomputable def pAll (b : Nat → Int) (n : Nat) (f : Nat → Int) : Except Nat (Nat × (Nat → Int)) :=
  haveI := Classical.propDecidable
  if isWd b n (tS b n 0) wHouse then match pStop b n (tE b n (tS b n 0)) f with
    | .error s => .error s
    | .ok (p, _) => pRest b n 145 1 p f
  else .error (tS b n 0)
theorem wd_let {b : Nat → Int} {n s : Nat} (h : tSo b n s = 1) : s < tE b n s ∧ ∀ i, s + i < tE b n s → 97 ≤ b (s + i) ∧ b (s + i) ≤ 122 := by
  refine ⟨tE_lt (by omega) (by omega), fun i hi => ?_⟩
  have hs := tSo_lt (show tSo b n s ≠ 0 by omega)
  unfold tSo at h
  unfold tE at hi
  rw [if_neg (by omega)] at h hi
  split at h
  · omega
  · rw [if_neg (by assumption)] at hi
    split at h
    · rw [if_pos (by assumption)] at hi
      have := sc_all (P := isLt b) (n := n) (p := s) (i := s + i) (by omega) hi
      unfold isLt at this
      rw [decide_eq_true_eq] at this
      exact this
    · split at h <;> omega
