/-! ===== the class and the reference, side by side ===== -/
theorem cr_99 {f f' : Nat → Int} (h : ∀ k, k < 99 → f k = f' k) {a b : Nat} (ha : a < 8) (hb : b < 8) : cr f a b = cr f' a b := by
  unfold cr
  split
  · rfl
  · rename_i hab
    have := pairN_lt ha hb hab
    exact h _ (by omega)
theorem edg_99 {f f' : Nat → Int} (h : ∀ k, k < 99 → f k = f' k) : edg f = edg f' := by
  funext a b
  unfold edg
  by_cases ha : a < 8
  · by_cases hb : b < 8
    · rw [cr_99 h ha hb]
    · exact propext ⟨fun q => absurd q.2.1 hb, fun q => absurd q.2.1 hb⟩
  · exact propext ⟨fun q => absurd q.1 ha, fun q => absurd q.1 ha⟩
theorem hR_99 {f f' : Nat → Int} {I : jMI} {H : Nat} (h : hR f I H) (hok : okSt f) (hf : ∀ k, k < 99 → f k = f' k) : hR f' I H := by
  obtain ⟨a1, a2, a3, a4, a5, a6⟩ := h
  have he := edg_99 hf
  have h5 := hf 5 (by omega)
  have h21 := hf 21 (by omega)
  obtain ⟨S, hS, hS5⟩ := okSt_5 hok
  obtain ⟨T, hT, hT5⟩ := okSt_21 hok
  refine ⟨by rw [← h5]; exact a1, by rw [← h21]; exact a2, fun a b ha hb => by rw [← cr_99 hf ha hb]; exact a3 a b ha hb, by rw [← he]; exact a4, fun s hs => ?_, fun t ht => ?_⟩
  · rw [← h5] at hs
    have hs5 := a5 s hs
    rw [← hf (6 + s) (by omega), ← hf (11 + s) (by omega), ← hf (16 + s) (by omega)]
    exact hs5
  · rw [← h21] at ht
    obtain ⟨c, hc, hc4⟩ := okSt_27 hok (show t < 5 by omega)
    obtain ⟨c1, c2, c3⟩ := a6 t ht
    rw [← hf (22 + t) (by omega), ← hf (27 + t) (by omega)]
    refine ⟨c1, c2, fun k hk => ?_⟩
    rw [← hf (32 + 4 * t + k) (by omega)]
    exact c3 k hk
theorem nR_99 {f f' ah ah' : Nat → Int} {u : Nat} {I : jMI} {N : Nat} (h : nR f ah u I N) (hok : okSt f) (hf : ∀ k, k < 99 → f k = f' k) (hu : u ≤ 8) (ha : ∀ k, k < 40 → ah k = ah' k) : nR f' ah' u I N := by
  obtain ⟨n1, n2, n3, n4, n5, n6, n7, n8⟩ := h
  have h52 := hf 52 (by omega)
  obtain ⟨H, hH, hH6⟩ := okSt_52 hok
  refine ⟨hR_99 n1 hok hf, by rw [← hf 0 (by omega)]; exact n2, by rw [← hf 1 (by omega)]; exact n3, n4, by rw [← h52]; exact n5, fun p hp => by rw [← hf (2 + p) (by omega)]; exact n6 p hp, fun i hi => ?_, fun i hi => ?_⟩
  · rw [← ha (5 * i) (by omega), ← ha (5 * i + 1) (by omega), ← ha (5 * i + 2) (by omega), ← ha (5 * i + 3) (by omega), ← ha (5 * i + 4) (by omega)]
    exact n7 i hi
  · rw [← h52] at hi
    rw [← hf (53 + 3 * i) (by omega), ← hf (54 + 3 * i) (by omega), ← hf (55 + 3 * i) (by omega)]
    exact n8 i hi
theorem okSt_99 {f f' : Nat → Int} (h : okSt f) (hf : ∀ k, k < 99 → f k = f' k) : okSt f' := fun k hk => by rw [← hf k hk]; exact h k hk
/-- only such are awake as are there -/
def awB (f : Nat → Int) (a : Int) : Prop := ∀ s : Nat, a.toNat.testBit s = true → (s : Int) < f 5
def nOK (f ah : Nat → Int) (u : Nat) : Prop := okSt f ∧ u ≤ 8 ∧ okAh ah u ∧ awB f (f 1) ∧ ∀ i, i < u → awB f (ah (5 * i + 1))
theorem nOK_99 {f f' ah ah' : Nat → Int} {u : Nat} (h : nOK f ah u) (hf : ∀ k, k < 99 → f k = f' k) (ha : ∀ k, k < 40 → ah k = ah' k) : nOK f' ah' u := by
  obtain ⟨h1, h2, h3, h4, h5⟩ := h
  have e5 := hf 5 (by omega)
  refine ⟨okSt_99 h1 hf, h2, fun i hi => ?_, ?_, fun i hi => ?_⟩
  · rw [← ha (5 * i) (by omega), ← ha (5 * i + 1) (by omega), ← ha (5 * i + 2) (by omega), ← ha (5 * i + 3) (by omega), ← ha (5 * i + 4) (by omega)]
    exact h3 i hi
  · intro s hs
    rw [← hf 1 (by omega)] at hs
    rw [← e5]; exact h4 s hs
  · intro s hs
    rw [← ha (5 * i + 1) (by omega)] at hs
    rw [← e5]; exact h5 i hi s hs
def txR (I : jMI) : Prop := ∃ n : Nat, n ≤ 150 ∧ I 78 1 = (n : Nat) ∧ I 105 5 = (n : Nat) ∧ (∀ i, i < n → I 79 i = I 108 i) ∧ ∀ i, i < n → 0 ≤ I 108 i ∧ I 108 i ≤ 127
def imR (I : jMI) (i N : Nat) : Prop := I 77 i = I 120 i ∧ (I 120 i = 0 ∨ (I 120 i = 1 ∧ ∃ (f ah : Nat → Int) (u : Nat), (∀ j, j < 99 → f j = I 121 (99 * i + j)) ∧ (∀ j, j < 40 → ah j = I 122 (40 * i + j)) ∧ I 123 i = (u : Nat) ∧ nOK f ah u ∧ nR f ah u I N))
def Inv (I : jMI) : Prop := (∃ u : Nat, I 105 16 = (u : Nat) ∧ nOK (I 106) (I 111) u ∧ nR (I 106) (I 111) u I 1) ∧ txR I ∧ (I 0 8 = I 105 1 ∧ I 0 9 = I 105 2) ∧ (I 0 10 = I 107 0 ∧ I 0 11 = I 107 1 ∧ I 0 12 = I 107 2) ∧ imR I 0 27 ∧ imR I 1 52
theorem Inv.ok {I : jMI} (h : Inv I) : okSt (I 106) := by
  obtain ⟨⟨u, h1, h2, h3⟩, -⟩ := h
  exact h2.1
theorem Inv.hR {I : jMI} (h : Inv I) : hR (I 106) I 2 := by
  obtain ⟨⟨u, h1, h2, h3⟩, -⟩ := h
  exact h3.1
theorem imR_fr {I I' : jMI} {i N : Nat} (h : imR I i N) (h77 : I' 77 i = I 77 i) (h120 : I' 120 i = I 120 i) (h121 : ∀ j, j < 99 → I' 121 (99 * i + j) = I 121 (99 * i + j)) (h122 : ∀ j, j < 40 → I' 122 (40 * i + j) = I 122 (40 * i + j)) (h123 : I' 123 i = I 123 i) (hz : ∀ z, N ≤ z → z ≤ N + 24 → I' z = I z) : imR I' i N := by
  obtain ⟨h1, h2⟩ := h
  refine ⟨by rw [h77, h120]; exact h1, ?_⟩
  rcases h2 with h2 | ⟨h2, f, ah, u, a1, a2, a3, a4, a5⟩
  · exact Or.inl (h120.trans h2)
  · exact Or.inr ⟨h120.trans h2, f, ah, u, fun j hj => by rw [h121 j hj]; exact a1 j hj, fun j hj => by rw [h122 j hj]; exact a2 j hj, h123.trans a3, a4, nR_fr a5 (fun z hzz => hz z (by omega) (by omega))⟩
/-- the rest of the two, over a change of the night -/
theorem Inv_n {I I' : jMI} (h : Inv I) {u : Nat} (h16 : I' 105 16 = (u : Nat)) (hn : nOK (I' 106) (I' 111) u) (hR : nR (I' 106) (I' 111) u I' 1) (hz : ∀ z, z = 0 ∨ (27 ≤ z ∧ z ≤ 77) ∨ z = 79 ∨ z = 107 ∨ z = 108 ∨ (120 ≤ z ∧ z ≤ 123) → I' z = I z) (h78 : I' 78 1 = I 78 1) (h1 : I' 105 1 = I 105 1) (h2 : I' 105 2 = I 105 2) (h5 : I' 105 5 = I 105 5) : Inv I' := by
  obtain ⟨-, ⟨n, t1, t2, t3, t4, t5⟩, ⟨c1, c2⟩, ⟨d1, d2, d3⟩, e1, e2⟩ := h
  refine ⟨⟨u, h16, hn, hR⟩, ⟨n, t1, h78.trans t2, h5.trans t3, ?_, ?_⟩, ⟨?_, ?_⟩, ⟨?_, ?_, ?_⟩, ?_, ?_⟩
  · rw [hz 79 (by omega), hz 108 (by omega)]; exact t4
  · rw [hz 108 (by omega)]; exact t5
  · rw [hz 0 (by omega), h1]; exact c1
  · rw [hz 0 (by omega), h2]; exact c2
  · rw [hz 0 (by omega), hz 107 (by omega)]; exact d1
  · rw [hz 0 (by omega), hz 107 (by omega)]; exact d2
  · rw [hz 0 (by omega), hz 107 (by omega)]; exact d3
  · exact imR_fr e1 (by rw [hz 77 (by omega)]) (by rw [hz 120 (by omega)]) (fun j _ => by rw [hz 121 (by omega)]) (fun j _ => by rw [hz 122 (by omega)]) (by rw [hz 123 (by omega)]) (fun z a b => hz z (by omega))
  · exact imR_fr e2 (by rw [hz 77 (by omega)]) (by rw [hz 120 (by omega)]) (fun j _ => by rw [hz 121 (by omega)]) (fun j _ => by rw [hz 122 (by omega)]) (by rw [hz 123 (by omega)]) (fun z a b => hz z (by omega))
theorem Inv_fr {I I' : jMI} (h : Inv I) (hz : ∀ z, z ≠ 19 → z ≠ 78 → z ≠ 105 → (z < 80 ∨ (104 < z ∧ z < 109) ∨ z = 111 ∨ 119 < z) → I' z = I z) (h78 : I' 78 1 = I 78 1) (h1 : I' 105 1 = I 105 1) (h2 : I' 105 2 = I 105 2) (h5 : I' 105 5 = I 105 5) (h16 : I' 105 16 = I 105 16) : Inv I' := by
  obtain ⟨u, u1, u2, u3⟩ := h.1
  have e106 := hz 106 (by omega) (by omega) (by omega) (by omega)
  have e111 := hz 111 (by omega) (by omega) (by omega) (by omega)
  refine Inv_n h (u := u) (h16.trans u1) (by rw [e106, e111]; exact u2) (by rw [e106, e111]; exact nR_fr u3 (fun z hzz => hz z (by omega) (by omega) (by omega) (by omega))) (fun z hzz => hz z (by omega) (by omega) (by omega) (by omega)) h78 h1 h2 h5
/-- the class's scratch -/
theorem Inv_cs {I I' : jMI} (h : Inv I) (hz : ∀ z, z ≠ 19 → (z < 80 ∨ 104 < z) → I' z = I z) : Inv I' :=
  Inv_fr h (fun z a b c d => hz z a (by omega)) (by rw [hz 78 (by omega) (by omega)]) (by rw [hz 105 (by omega) (by omega)]) (by rw [hz 105 (by omega) (by omega)]) (by rw [hz 105 (by omega) (by omega)]) (by rw [hz 105 (by omega) (by omega)])
/-- the reference's scratch -/
theorem Inv_sc {I I' : jMI} (h : Inv I) (hz : mSc I I') : Inv I' :=
  Inv_fr h (fun z a b c d => hz z (by omega)) (by rw [hz 78 (by omega)]) (by rw [hz 105 (by omega)]) (by rw [hz 105 (by omega)]) (by rw [hz 105 (by omega)]) (by rw [hz 105 (by omega)])
/-- a refusal of the class -/
def cRef (I : jMI) (k : Nat) : jMI := jSf I 0 (jU (I 0) (10 + k) (I 0 (10 + k) + 1))
theorem Inv_ref {I : jMI} (h : Inv I) {k : Nat} (hk : k < 3) : Inv (mRef (cRef I k) k) := by
  obtain ⟨⟨u, u1, u2, u3⟩, ⟨n, t1, t2, t3, t4, t5⟩, ⟨c1, c2⟩, ⟨d1, d2, d3⟩, e1, e2⟩ := h
  have hz : ∀ z, z ≠ 0 → z ≠ 107 → mRef (cRef I k) k z = I z := by
    intro z h0 h7
    unfold mRef cRef
    rw [jSf_n h7, jSf_n h0]
  have e0 : mRef (cRef I k) k 0 = jU (I 0) (10 + k) (I 0 (10 + k) + 1) := by
    unfold mRef cRef
    rw [jSf_n (by omega), jSf_s]
  have e7 : mRef (cRef I k) k 107 = jU (I 107) k (I 107 k + 1) := by
    unfold mRef cRef
    rw [jSf_s, jSf_n (by omega)]
  refine ⟨⟨u, ?_, ?_, ?_⟩, ⟨n, t1, ?_, ?_, ?_, ?_⟩, ⟨?_, ?_⟩, ⟨?_, ?_, ?_⟩, ?_, ?_⟩
  · rw [hz 105 (by omega) (by omega)]; exact u1
  · rw [hz 106 (by omega) (by omega), hz 111 (by omega) (by omega)]; exact u2
  · rw [hz 106 (by omega) (by omega), hz 111 (by omega) (by omega)]; exact nR_fr u3 (fun z hzz => hz z (by omega) (by omega))
  · rw [hz 78 (by omega) (by omega)]; exact t2
  · rw [hz 105 (by omega) (by omega)]; exact t3
  · rw [hz 79 (by omega) (by omega), hz 108 (by omega) (by omega)]; exact t4
  · rw [hz 108 (by omega) (by omega)]; exact t5
  · rw [e0, hz 105 (by omega) (by omega), jU_n (by omega)]; exact c1
  · rw [e0, hz 105 (by omega) (by omega), jU_n (by omega)]; exact c2
  · rw [e0, e7]
    rcases (show k = 0 ∨ k = 1 ∨ k = 2 by omega) with rfl | rfl | rfl
    · rw [jU_s, jU_s, d1]
    · rw [jU_n (by omega), jU_n (by omega)]; exact d1
    · rw [jU_n (by omega), jU_n (by omega)]; exact d1
  · rw [e0, e7]
    rcases (show k = 0 ∨ k = 1 ∨ k = 2 by omega) with rfl | rfl | rfl
    · rw [jU_n (by omega), jU_n (by omega)]; exact d2
    · rw [jU_s, jU_s, d2]
    · rw [jU_n (by omega), jU_n (by omega)]; exact d2
  · rw [e0, e7]
    rcases (show k = 0 ∨ k = 1 ∨ k = 2 by omega) with rfl | rfl | rfl
    · rw [jU_n (by omega), jU_n (by omega)]; exact d3
    · rw [jU_n (by omega), jU_n (by omega)]; exact d3
    · rw [jU_s, jU_s, d3]
  · exact imR_fr e1 (by rw [hz 77 (by omega) (by omega)]) (by rw [hz 120 (by omega) (by omega)]) (fun j _ => by rw [hz 121 (by omega) (by omega)]) (fun j _ => by rw [hz 122 (by omega) (by omega)]) (by rw [hz 123 (by omega) (by omega)]) (fun z a b => hz z (by omega) (by omega))
  · exact imR_fr e2 (by rw [hz 77 (by omega) (by omega)]) (by rw [hz 120 (by omega) (by omega)]) (fun j _ => by rw [hz 121 (by omega) (by omega)]) (fun j _ => by rw [hz 122 (by omega) (by omega)]) (by rw [hz 123 (by omega) (by omega)]) (fun z a b => hz z (by omega) (by omega))
