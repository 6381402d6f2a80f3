/-! ===== the reference: the next token ===== -/
theorem c_byteAt (X : jX) (I : jMI) (i n : Nat) (hn : I 105 5 = n) (hn5 : n ≤ 150) (hi : i ≤ n) : C_X12_byteAt X [jR 105, jI i] I (fun r I' => r = (if i < n then I 108 i else -1) ∧ I' = I) := by
  refine CG.of (by decide) [some (jR 105), some (jI i)] rfl (Nat.le_of_ble_eq_true rfl) ?_
  refine j_iload_n (pc := 0) dX12_byteAt_0 rfl ?_
  refine j_aload_n (pc := 1) dX12_byteAt_1 rfl ?_
  refine j_getI (pc := 2) f_X12_130 dX12_byteAt_2 rfl rfl (by decide) ?_
  rw [hn]
  refine j_icmp_ge (pc := 5) 17 dX12_byteAt_5 (by decide) (by omega) (by omega) (fun h_5 => ?_) (fun h_5 => ?_)
  · refine j_iconst (pc := 17) dX12_byteAt_17 ?_
    exact j_reti dX12_byteAt_18 (⟨by split <;> omega, rfl⟩) rfl
  · refine j_aload_n (pc := 8) dX12_byteAt_8 rfl ?_
    refine j_getR (pc := 9) f_X12_20 dX12_byteAt_9 rfl rfl (by decide) rfl ?_
    refine j_iload_n (pc := 12) dX12_byteAt_12 rfl ?_
    refine j_iald_b (pc := 13) (i) dX12_byteAt_13 rfl (by decide) (by decide) (by omega) (by omega) ?_
    refine j_goto (pc := 14) 18 dX12_byteAt_14 (by decide) ?_
    exact j_reti dX12_byteAt_18 (⟨by split <;> omega, rfl⟩) rfl
/-- the reference's number for a sort -/
def rc (t : Nat) : Int := if t = 0 then 3 else if t = 3 then 4 else if t = 4 then 0 else (t : Int)
def nT (g g0 b : Nat → Int) (n p : Nat) : Prop := g 9 = (tS b n p : Nat) ∧ g 7 = rc (tSo b n (tS b n p)) ∧ (tSo b n (tS b n p) ≠ 4 → g 6 = (tE b n (tS b n p) : Nat)) ∧ (tSo b n (tS b n p) = 2 → g 8 = tV b n (tS b n p)) ∧ (0 ≤ g 8 ∧ g 8 ≤ 2000) ∧ ∀ j, j ≠ 6 → j ≠ 7 → j ≠ 8 → j ≠ 9 → g j = g0 j
theorem isLt_iff {b : Nat → Int} {i : Nat} : isLt b i = true ↔ 97 ≤ b i ∧ b i ≤ 122 := by unfold isLt; rw [decide_eq_true_eq]
theorem isDg_iff {b : Nat → Int} {i : Nat} : isDg b i = true ↔ 48 ≤ b i ∧ b i ≤ 57 := by unfold isDg; rw [decide_eq_true_eq]
theorem isSp_iff {b : Nat → Int} {i : Nat} : isSp b i = true ↔ b i = 32 := by unfold isSp; rw [decide_eq_true_eq]
/-- the value amid the figures -/
def vS (b : Nat → Int) (s x : Nat) (v : Int) : Prop := (0 ≤ v ∧ v ≤ 999) ∧ (x = s → v = 0) ∧ (x = s + 1 → v = b s - 48) ∧ (x = s + 2 → v = 10 * (b s - 48) + b (s + 1) - 48)
set_option maxHeartbeats 8000000 in
theorem c_nextToken (X : jX) (I : jMI) (p n : Nat) (hp : I 105 6 = p) (hn : I 105 5 = n) (hn5 : n ≤ 150) (hpn : p ≤ n) (hb : ∀ i, i < n → 0 ≤ I 108 i ∧ I 108 i ≤ 127) : C_X12_nextToken X [jR 105] I (fun I' => ∃ g, I' = jSf I 105 g ∧ nT g (I 105) (I 108) n p) := by
  refine CG.of (by decide) [some (jR 105)] rfl (Nat.le_of_ble_eq_true rfl) ?_
  generalize hbb : I 108 = b at *
  have hs := tS_rng (b := b) hpn
  have hse : ¬ (tS b n p < n ∧ isSp b (tS b n p) = true) := sc_end
  generalize hS : tS b n p = s at *
  have hW := sc_rng (P := isLt b) hs.2
  have hD := sc_rng (P := isDg b) hs.2
  -- the figures are over
  have k193 : s ≤ n → ∀ (x : Nat) (g : Nat → Int) (v : Int), ((x = tW b n s ∧ s < x ∧ v = 1) ∨ (tW b n s = s ∧ x = tD b n s ∧ ((s < x ∧ v = 2) ∨ (x = s ∧ s = n ∧ v = 3) ∨ (x = s ∧ s < n ∧ v = 0)))) → g 6 = (x : Int) → g 7 = v → g 9 = (s : Int) → (0 ≤ g 8 ∧ g 8 ≤ 999) → (s < x → v = 2 → x ≤ s + 2 → g 8 = tV b n s) → (∀ j, j ≠ 6 → j ≠ 7 → j ≠ 8 → j ≠ 9 → g j = I 105 j) → S_X12_nextToken X 193 [some (jR 105)] [] (jSf I 105 g) (fun I' => ∃ g, I' = jSf I 105 g ∧ nT g (I 105) b n p) := by
    intro _ x g v hx h6 h7 h9 h8 hv hr
    have h5 : g 5 = (n : Int) := (hr 5 (by omega) (by omega) (by omega) (by omega)).trans hn
    have hdef : tSo b n s = if n ≤ s then 0 else if b s = 59 then 3 else if s < tW b n s then 1 else if s < tD b n s ∧ tD b n s - s ≤ 2 then 2 else 4 := rfl
    have hdeE : tE b n s = if n ≤ s then s else if b s = 59 then s + 1 else if s < tW b n s then tW b n s else tD b n s := rfl
    have hwl : s < tW b n s → 97 ≤ b s := fun h => (isLt_iff.mp (sc_all (Nat.le_refl _) h)).1
    have hdl : s < tD b n s → b s ≤ 57 := fun h => (isDg_iff.mp (sc_all (Nat.le_refl _) h)).2
    have hxn : x ≤ n := by unfold tW tD at *; omega
    have fin : ∀ g' : Nat → Int, g' 9 = (s : Int) → g' 7 = rc (tSo b n s) → (tSo b n s ≠ 4 → g' 6 = (tE b n s : Nat)) → (tSo b n s = 2 → g' 8 = tV b n s) → (0 ≤ g' 8 ∧ g' 8 ≤ 2000) → (∀ j, j ≠ 6 → j ≠ 7 → j ≠ 8 → j ≠ 9 → g' j = I 105 j) → ∃ g, jSf I 105 g' = jSf I 105 g ∧ nT g (I 105) b n p := by
      intro g' a1 a2 a3 a4 a5 a6
      refine ⟨g', rfl, ?_⟩
      unfold nT
      rw [hS]
      exact ⟨a1, a2, a3, a4, a5, a6⟩
    refine j_aload_n (pc := 193) dX12_nextToken_193 rfl ?_
    refine j_getI_a (pc := 194) f_X12_145 dX12_nextToken_194 rfl rfl (by decide) ?_
    rw [h7]
    refine j_iconst (pc := 197) dX12_nextToken_197 ?_
    refine j_icmp_ne (pc := 198) 222 dX12_nextToken_198 (by decide) (by omega) (by omega) (fun h_198 => ?_) (fun h_198 => ?_)
    · refine j_aload_n (pc := 222) dX12_nextToken_222 rfl ?_
      refine j_getI_a (pc := 223) f_X12_145 dX12_nextToken_223 rfl rfl (by decide) ?_
      rw [h7]
      refine j_if_ne (pc := 226) 261 dX12_nextToken_226 (by decide) (by omega) (fun h_226 => ?_) (fun h_226 => ?_)
      · refine j_retv dX12_nextToken_261 (?_) rfl
        rcases hx with ⟨x1, x2, x3⟩ | ⟨x1, x2, ⟨x3, x4⟩ | ⟨x3, x4, x5⟩ | ⟨x3, x4, x5⟩⟩
        all_goals first
          | (exfalso; omega)
          | (have e4 : tSo b n s = 4 := by rw [hdef, if_neg (by omega), if_neg (by first | omega | (rw [show s = x by omega]; omega)), if_neg (by omega), if_neg (by omega)]
             refine fin _ ?_ ?_ (fun h => absurd e4 h) (fun h => by omega) ?_ (fun j j1 j2 j3 j4 => ?_)
             · first | (rw [jU_n (by omega)]; exact h9) | (rw [jU_n (by omega), jU_n (by omega)]; exact h9)
             · rw [e4]; first | (rw [jU_s]; rfl) | (rw [jU_n (by omega), jU_s]; rfl)
             · first | (rw [jU_n (by omega)]; omega) | (rw [jU_n (by omega), jU_n (by omega)]; omega)
             · first | (rw [jU_n (by omega)]; exact hr j j1 j2 j3 j4) | (rw [jU_n (by omega), jU_n (by omega)]; exact hr j j1 j2 j3 j4))
          | (have e3 : tSo b n s = 3 := by rw [hdef, if_neg (by omega), if_pos (by rw [show s = x by omega]; omega)]
             have eE : tE b n s = s + 1 := by rw [hdeE, if_neg (by omega), if_pos (by rw [show s = x by omega]; omega)]
             refine fin _ ?_ ?_ (fun _ => ?_) (fun h => by omega) ?_ (fun j j1 j2 j3 j4 => ?_)
             · rw [jU_n (by omega), jU_n (by omega)]; exact h9
             · rw [e3, jU_n (by omega), jU_s]; rfl
             · rw [jU_s, jU_n (by omega), eE]; omega
             · rw [jU_n (by omega), jU_n (by omega)]; omega
             · rw [jU_n (by omega), jU_n (by omega)]; exact hr j j1 j2 j3 j4)
          | (have e1 : tSo b n s = 1 := by rw [hdef, if_neg (by omega), if_neg (by omega), if_pos (by omega)]
             have eE : tE b n s = x := by rw [hdeE, if_neg (by omega), if_neg (by omega), if_pos (by omega)]; omega
             exact fin _ h9 (by rw [e1]; show g 7 = 1; omega) (fun _ => by rw [eE]; exact h6) (fun h => by omega) (by omega) hr)
          | (have e2 : tSo b n s = 2 := by rw [hdef, if_neg (by omega), if_neg (by omega), if_neg (by omega), if_pos (by omega)]
             have eE : tE b n s = x := by rw [hdeE, if_neg (by omega), if_neg (by omega), if_neg (by omega)]; omega
             exact fin _ h9 (by rw [e2]; show g 7 = 2; omega) (fun _ => by rw [eE]; exact h6) (fun h => hv (by omega) (by omega) (by omega)) (by omega) hr)
          | (have e0 : tSo b n s = 0 := by rw [hdef, if_pos (by omega)]
             have eE : tE b n s = x := by rw [hdeE, if_pos (by omega)]; omega
             exact fin _ h9 (by rw [e0]; show g 7 = 3; omega) (fun _ => by rw [eE]; exact h6) (fun h => by omega) (by omega) hr)
      · refine j_aload_n (pc := 229) dX12_nextToken_229 rfl ?_
        refine j_aload_n (pc := 230) dX12_nextToken_230 rfl ?_
        refine j_aload_n (pc := 231) dX12_nextToken_231 rfl ?_
        refine j_getI_a (pc := 232) f_X12_133 dX12_nextToken_232 rfl rfl (by decide) ?_
        rw [h6]
        refine j_goI (pc := 235) (j_runV k_X12_136 m_X12_byteAt (c_byteAt X (jSf I 105 g) x n (by rw [jSf_s]; exact h5) hn5 hxn) dX12_nextToken_235 rfl (by decide) rfl (by decide) (by decide) rfl rfl (Nat.le_of_ble_eq_true rfl)) (fun r1 I1 h1 => ?_)
        obtain ⟨rfl, rfl⟩ := h1
        rw [jSf_n (by decide), hbb, if_pos (by omega)]
        have hbx := hb x (by omega)
        refine j_bipush (pc := 238) dX12_nextToken_238 (by decide) ?_
        refine j_icmp_ne (pc := 240) 247 dX12_nextToken_240 (by decide) (by omega) (by omega) (fun h_240 => ?_) (fun h_240 => ?_)
        · refine j_iconst (pc := 247) dX12_nextToken_247 ?_
          refine j_putI_a (pc := 248) f_X12_145 dX12_nextToken_248 rfl rfl rfl (by decide) ?_
          refine j_aload_n (pc := 251) dX12_nextToken_251 rfl ?_
          refine j_dupR (pc := 252) dX12_nextToken_252 ?_
          refine j_getI_a (pc := 253) f_X12_133 dX12_nextToken_253 rfl rfl (by decide) ?_
          refine j_iconst (pc := 256) dX12_nextToken_256 ?_
          refine j_iadd (pc := 257) dX12_nextToken_257 ?_
          refine j_putI_a (pc := 258) f_X12_133 dX12_nextToken_258 rfl rfl rfl (by decide) ?_
          refine j_retv dX12_nextToken_261 (?_) rfl
          rcases hx with ⟨x1, x2, x3⟩ | ⟨x1, x2, ⟨x3, x4⟩ | ⟨x3, x4, x5⟩ | ⟨x3, x4, x5⟩⟩
          all_goals first
            | (exfalso; omega)
            | (have e4 : tSo b n s = 4 := by rw [hdef, if_neg (by omega), if_neg (by first | omega | (rw [show s = x by omega]; omega)), if_neg (by omega), if_neg (by omega)]
               refine fin _ ?_ ?_ (fun h => absurd e4 h) (fun h => by omega) ?_ (fun j j1 j2 j3 j4 => ?_)
               · first | (rw [jU_n (by omega)]; exact h9) | (rw [jU_n (by omega), jU_n (by omega)]; exact h9)
               · rw [e4]; first | (rw [jU_s]; rfl) | (rw [jU_n (by omega), jU_s]; rfl)
               · first | (rw [jU_n (by omega)]; omega) | (rw [jU_n (by omega), jU_n (by omega)]; omega)
               · first | (rw [jU_n (by omega)]; exact hr j j1 j2 j3 j4) | (rw [jU_n (by omega), jU_n (by omega)]; exact hr j j1 j2 j3 j4))
            | (have e3 : tSo b n s = 3 := by rw [hdef, if_neg (by omega), if_pos (by rw [show s = x by omega]; omega)]
               have eE : tE b n s = s + 1 := by rw [hdeE, if_neg (by omega), if_pos (by rw [show s = x by omega]; omega)]
               refine fin _ ?_ ?_ (fun _ => ?_) (fun h => by omega) ?_ (fun j j1 j2 j3 j4 => ?_)
               · rw [jU_n (by omega), jU_n (by omega)]; exact h9
               · rw [e3, jU_n (by omega), jU_s]; rfl
               · rw [jU_s, jU_n (by omega), eE]; omega
               · rw [jU_n (by omega), jU_n (by omega)]; omega
               · rw [jU_n (by omega), jU_n (by omega)]; exact hr j j1 j2 j3 j4)
            | (have e1 : tSo b n s = 1 := by rw [hdef, if_neg (by omega), if_neg (by omega), if_pos (by omega)]
               have eE : tE b n s = x := by rw [hdeE, if_neg (by omega), if_neg (by omega), if_pos (by omega)]; omega
               exact fin _ h9 (by rw [e1]; show g 7 = 1; omega) (fun _ => by rw [eE]; exact h6) (fun h => by omega) (by omega) hr)
            | (have e2 : tSo b n s = 2 := by rw [hdef, if_neg (by omega), if_neg (by omega), if_neg (by omega), if_pos (by omega)]
               have eE : tE b n s = x := by rw [hdeE, if_neg (by omega), if_neg (by omega), if_neg (by omega)]; omega
               exact fin _ h9 (by rw [e2]; show g 7 = 2; omega) (fun _ => by rw [eE]; exact h6) (fun h => hv (by omega) (by omega) (by omega)) (by omega) hr)
            | (have e0 : tSo b n s = 0 := by rw [hdef, if_pos (by omega)]
               have eE : tE b n s = x := by rw [hdeE, if_pos (by omega)]; omega
               exact fin _ h9 (by rw [e0]; show g 7 = 3; omega) (fun _ => by rw [eE]; exact h6) (fun h => by omega) (by omega) hr)
        · refine j_iconst (pc := 243) dX12_nextToken_243 ?_
          refine j_goto (pc := 244) 248 dX12_nextToken_244 (by decide) ?_
          refine j_putI_a (pc := 248) f_X12_145 dX12_nextToken_248 rfl rfl rfl (by decide) ?_
          refine j_aload_n (pc := 251) dX12_nextToken_251 rfl ?_
          refine j_dupR (pc := 252) dX12_nextToken_252 ?_
          refine j_getI_a (pc := 253) f_X12_133 dX12_nextToken_253 rfl rfl (by decide) ?_
          refine j_iconst (pc := 256) dX12_nextToken_256 ?_
          refine j_iadd (pc := 257) dX12_nextToken_257 ?_
          refine j_putI_a (pc := 258) f_X12_133 dX12_nextToken_258 rfl rfl rfl (by decide) ?_
          refine j_retv dX12_nextToken_261 (?_) rfl
          rcases hx with ⟨x1, x2, x3⟩ | ⟨x1, x2, ⟨x3, x4⟩ | ⟨x3, x4, x5⟩ | ⟨x3, x4, x5⟩⟩
          all_goals first
            | (exfalso; omega)
            | (have e4 : tSo b n s = 4 := by rw [hdef, if_neg (by omega), if_neg (by first | omega | (rw [show s = x by omega]; omega)), if_neg (by omega), if_neg (by omega)]
               refine fin _ ?_ ?_ (fun h => absurd e4 h) (fun h => by omega) ?_ (fun j j1 j2 j3 j4 => ?_)
               · first | (rw [jU_n (by omega)]; exact h9) | (rw [jU_n (by omega), jU_n (by omega)]; exact h9)
               · rw [e4]; first | (rw [jU_s]; rfl) | (rw [jU_n (by omega), jU_s]; rfl)
               · first | (rw [jU_n (by omega)]; omega) | (rw [jU_n (by omega), jU_n (by omega)]; omega)
               · first | (rw [jU_n (by omega)]; exact hr j j1 j2 j3 j4) | (rw [jU_n (by omega), jU_n (by omega)]; exact hr j j1 j2 j3 j4))
            | (have e3 : tSo b n s = 3 := by rw [hdef, if_neg (by omega), if_pos (by rw [show s = x by omega]; omega)]
               have eE : tE b n s = s + 1 := by rw [hdeE, if_neg (by omega), if_pos (by rw [show s = x by omega]; omega)]
               refine fin _ ?_ ?_ (fun _ => ?_) (fun h => by omega) ?_ (fun j j1 j2 j3 j4 => ?_)
               · rw [jU_n (by omega), jU_n (by omega)]; exact h9
               · rw [e3, jU_n (by omega), jU_s]; rfl
               · rw [jU_s, jU_n (by omega), eE]; omega
               · rw [jU_n (by omega), jU_n (by omega)]; omega
               · rw [jU_n (by omega), jU_n (by omega)]; exact hr j j1 j2 j3 j4)
            | (have e1 : tSo b n s = 1 := by rw [hdef, if_neg (by omega), if_neg (by omega), if_pos (by omega)]
               have eE : tE b n s = x := by rw [hdeE, if_neg (by omega), if_neg (by omega), if_pos (by omega)]; omega
               exact fin _ h9 (by rw [e1]; show g 7 = 1; omega) (fun _ => by rw [eE]; exact h6) (fun h => by omega) (by omega) hr)
            | (have e2 : tSo b n s = 2 := by rw [hdef, if_neg (by omega), if_neg (by omega), if_neg (by omega), if_pos (by omega)]
               have eE : tE b n s = x := by rw [hdeE, if_neg (by omega), if_neg (by omega), if_neg (by omega)]; omega
               exact fin _ h9 (by rw [e2]; show g 7 = 2; omega) (fun _ => by rw [eE]; exact h6) (fun h => hv (by omega) (by omega) (by omega)) (by omega) hr)
            | (have e0 : tSo b n s = 0 := by rw [hdef, if_pos (by omega)]
               have eE : tE b n s = x := by rw [hdeE, if_pos (by omega)]; omega
               exact fin _ h9 (by rw [e0]; show g 7 = 3; omega) (fun _ => by rw [eE]; exact h6) (fun h => by omega) (by omega) hr)
    · refine j_aload_n (pc := 201) dX12_nextToken_201 rfl ?_
      refine j_getI_a (pc := 202) f_X12_133 dX12_nextToken_202 rfl rfl (by decide) ?_
      refine j_aload_n (pc := 205) dX12_nextToken_205 rfl ?_
      refine j_getI_a (pc := 206) f_X12_139 dX12_nextToken_206 rfl rfl (by decide) ?_
      rw [h6, h9]
      refine j_isub (pc := 209) dX12_nextToken_209 ?_
      refine j_iconst (pc := 210) dX12_nextToken_210 ?_
      refine j_icmp_le (pc := 211) 222 dX12_nextToken_211 (by decide) (by omega) (by omega) (fun h_211 => ?_) (fun h_211 => ?_)
      · refine j_aload_n (pc := 222) dX12_nextToken_222 rfl ?_
        refine j_getI_a (pc := 223) f_X12_145 dX12_nextToken_223 rfl rfl (by decide) ?_
        rw [h7]
        refine j_if_ne (pc := 226) 261 dX12_nextToken_226 (by decide) (by omega) (fun h_226 => ?_) (fun h_226 => ?_)
        · refine j_retv dX12_nextToken_261 (?_) rfl
          rcases hx with ⟨x1, x2, x3⟩ | ⟨x1, x2, ⟨x3, x4⟩ | ⟨x3, x4, x5⟩ | ⟨x3, x4, x5⟩⟩
          all_goals first
            | (exfalso; omega)
            | (have e4 : tSo b n s = 4 := by rw [hdef, if_neg (by omega), if_neg (by first | omega | (rw [show s = x by omega]; omega)), if_neg (by omega), if_neg (by omega)]
               refine fin _ ?_ ?_ (fun h => absurd e4 h) (fun h => by omega) ?_ (fun j j1 j2 j3 j4 => ?_)
               · first | (rw [jU_n (by omega)]; exact h9) | (rw [jU_n (by omega), jU_n (by omega)]; exact h9)
               · rw [e4]; first | (rw [jU_s]; rfl) | (rw [jU_n (by omega), jU_s]; rfl)
               · first | (rw [jU_n (by omega)]; omega) | (rw [jU_n (by omega), jU_n (by omega)]; omega)
               · first | (rw [jU_n (by omega)]; exact hr j j1 j2 j3 j4) | (rw [jU_n (by omega), jU_n (by omega)]; exact hr j j1 j2 j3 j4))
            | (have e3 : tSo b n s = 3 := by rw [hdef, if_neg (by omega), if_pos (by rw [show s = x by omega]; omega)]
               have eE : tE b n s = s + 1 := by rw [hdeE, if_neg (by omega), if_pos (by rw [show s = x by omega]; omega)]
               refine fin _ ?_ ?_ (fun _ => ?_) (fun h => by omega) ?_ (fun j j1 j2 j3 j4 => ?_)
               · rw [jU_n (by omega), jU_n (by omega)]; exact h9
               · rw [e3, jU_n (by omega), jU_s]; rfl
               · rw [jU_s, jU_n (by omega), eE]; omega
               · rw [jU_n (by omega), jU_n (by omega)]; omega
               · rw [jU_n (by omega), jU_n (by omega)]; exact hr j j1 j2 j3 j4)
            | (have e1 : tSo b n s = 1 := by rw [hdef, if_neg (by omega), if_neg (by omega), if_pos (by omega)]
               have eE : tE b n s = x := by rw [hdeE, if_neg (by omega), if_neg (by omega), if_pos (by omega)]; omega
               exact fin _ h9 (by rw [e1]; show g 7 = 1; omega) (fun _ => by rw [eE]; exact h6) (fun h => by omega) (by omega) hr)
            | (have e2 : tSo b n s = 2 := by rw [hdef, if_neg (by omega), if_neg (by omega), if_neg (by omega), if_pos (by omega)]
               have eE : tE b n s = x := by rw [hdeE, if_neg (by omega), if_neg (by omega), if_neg (by omega)]; omega
               exact fin _ h9 (by rw [e2]; show g 7 = 2; omega) (fun _ => by rw [eE]; exact h6) (fun h => hv (by omega) (by omega) (by omega)) (by omega) hr)
            | (have e0 : tSo b n s = 0 := by rw [hdef, if_pos (by omega)]
               have eE : tE b n s = x := by rw [hdeE, if_pos (by omega)]; omega
               exact fin _ h9 (by rw [e0]; show g 7 = 3; omega) (fun _ => by rw [eE]; exact h6) (fun h => by omega) (by omega) hr)
        · refine j_aload_n (pc := 229) dX12_nextToken_229 rfl ?_
          refine j_aload_n (pc := 230) dX12_nextToken_230 rfl ?_
          refine j_aload_n (pc := 231) dX12_nextToken_231 rfl ?_
          refine j_getI_a (pc := 232) f_X12_133 dX12_nextToken_232 rfl rfl (by decide) ?_
          rw [h6]
          refine j_goI (pc := 235) (j_runV k_X12_136 m_X12_byteAt (c_byteAt X (jSf I 105 g) x n (by rw [jSf_s]; exact h5) hn5 hxn) dX12_nextToken_235 rfl (by decide) rfl (by decide) (by decide) rfl rfl (Nat.le_of_ble_eq_true rfl)) (fun r1 I1 h1 => ?_)
          obtain ⟨rfl, rfl⟩ := h1
          rw [jSf_n (by decide), hbb, if_pos (by omega)]
          have hbx := hb x (by omega)
          refine j_bipush (pc := 238) dX12_nextToken_238 (by decide) ?_
          refine j_icmp_ne (pc := 240) 247 dX12_nextToken_240 (by decide) (by omega) (by omega) (fun h_240 => ?_) (fun h_240 => ?_)
          · refine j_iconst (pc := 247) dX12_nextToken_247 ?_
            refine j_putI_a (pc := 248) f_X12_145 dX12_nextToken_248 rfl rfl rfl (by decide) ?_
            refine j_aload_n (pc := 251) dX12_nextToken_251 rfl ?_
            refine j_dupR (pc := 252) dX12_nextToken_252 ?_
            refine j_getI_a (pc := 253) f_X12_133 dX12_nextToken_253 rfl rfl (by decide) ?_
            refine j_iconst (pc := 256) dX12_nextToken_256 ?_
            refine j_iadd (pc := 257) dX12_nextToken_257 ?_
            refine j_putI_a (pc := 258) f_X12_133 dX12_nextToken_258 rfl rfl rfl (by decide) ?_
            refine j_retv dX12_nextToken_261 (?_) rfl
            rcases hx with ⟨x1, x2, x3⟩ | ⟨x1, x2, ⟨x3, x4⟩ | ⟨x3, x4, x5⟩ | ⟨x3, x4, x5⟩⟩
            all_goals first
              | (exfalso; omega)
              | (have e4 : tSo b n s = 4 := by rw [hdef, if_neg (by omega), if_neg (by first | omega | (rw [show s = x by omega]; omega)), if_neg (by omega), if_neg (by omega)]
                 refine fin _ ?_ ?_ (fun h => absurd e4 h) (fun h => by omega) ?_ (fun j j1 j2 j3 j4 => ?_)
                 · first | (rw [jU_n (by omega)]; exact h9) | (rw [jU_n (by omega), jU_n (by omega)]; exact h9)
                 · rw [e4]; first | (rw [jU_s]; rfl) | (rw [jU_n (by omega), jU_s]; rfl)
                 · first | (rw [jU_n (by omega)]; omega) | (rw [jU_n (by omega), jU_n (by omega)]; omega)
                 · first | (rw [jU_n (by omega)]; exact hr j j1 j2 j3 j4) | (rw [jU_n (by omega), jU_n (by omega)]; exact hr j j1 j2 j3 j4))
              | (have e3 : tSo b n s = 3 := by rw [hdef, if_neg (by omega), if_pos (by rw [show s = x by omega]; omega)]
                 have eE : tE b n s = s + 1 := by rw [hdeE, if_neg (by omega), if_pos (by rw [show s = x by omega]; omega)]
                 refine fin _ ?_ ?_ (fun _ => ?_) (fun h => by omega) ?_ (fun j j1 j2 j3 j4 => ?_)
                 · rw [jU_n (by omega), jU_n (by omega)]; exact h9
                 · rw [e3, jU_n (by omega), jU_s]; rfl
                 · rw [jU_s, jU_n (by omega), eE]; omega
                 · rw [jU_n (by omega), jU_n (by omega)]; omega
                 · rw [jU_n (by omega), jU_n (by omega)]; exact hr j j1 j2 j3 j4)
              | (have e1 : tSo b n s = 1 := by rw [hdef, if_neg (by omega), if_neg (by omega), if_pos (by omega)]
                 have eE : tE b n s = x := by rw [hdeE, if_neg (by omega), if_neg (by omega), if_pos (by omega)]; omega
                 exact fin _ h9 (by rw [e1]; show g 7 = 1; omega) (fun _ => by rw [eE]; exact h6) (fun h => by omega) (by omega) hr)
              | (have e2 : tSo b n s = 2 := by rw [hdef, if_neg (by omega), if_neg (by omega), if_neg (by omega), if_pos (by omega)]
                 have eE : tE b n s = x := by rw [hdeE, if_neg (by omega), if_neg (by omega), if_neg (by omega)]; omega
                 exact fin _ h9 (by rw [e2]; show g 7 = 2; omega) (fun _ => by rw [eE]; exact h6) (fun h => hv (by omega) (by omega) (by omega)) (by omega) hr)
              | (have e0 : tSo b n s = 0 := by rw [hdef, if_pos (by omega)]
                 have eE : tE b n s = x := by rw [hdeE, if_pos (by omega)]; omega
                 exact fin _ h9 (by rw [e0]; show g 7 = 3; omega) (fun _ => by rw [eE]; exact h6) (fun h => by omega) (by omega) hr)
          · refine j_iconst (pc := 243) dX12_nextToken_243 ?_
            refine j_goto (pc := 244) 248 dX12_nextToken_244 (by decide) ?_
            refine j_putI_a (pc := 248) f_X12_145 dX12_nextToken_248 rfl rfl rfl (by decide) ?_
            refine j_aload_n (pc := 251) dX12_nextToken_251 rfl ?_
            refine j_dupR (pc := 252) dX12_nextToken_252 ?_
            refine j_getI_a (pc := 253) f_X12_133 dX12_nextToken_253 rfl rfl (by decide) ?_
            refine j_iconst (pc := 256) dX12_nextToken_256 ?_
            refine j_iadd (pc := 257) dX12_nextToken_257 ?_
            refine j_putI_a (pc := 258) f_X12_133 dX12_nextToken_258 rfl rfl rfl (by decide) ?_
            refine j_retv dX12_nextToken_261 (?_) rfl
            rcases hx with ⟨x1, x2, x3⟩ | ⟨x1, x2, ⟨x3, x4⟩ | ⟨x3, x4, x5⟩ | ⟨x3, x4, x5⟩⟩
            all_goals first
              | (exfalso; omega)
              | (have e4 : tSo b n s = 4 := by rw [hdef, if_neg (by omega), if_neg (by first | omega | (rw [show s = x by omega]; omega)), if_neg (by omega), if_neg (by omega)]
                 refine fin _ ?_ ?_ (fun h => absurd e4 h) (fun h => by omega) ?_ (fun j j1 j2 j3 j4 => ?_)
                 · first | (rw [jU_n (by omega)]; exact h9) | (rw [jU_n (by omega), jU_n (by omega)]; exact h9)
                 · rw [e4]; first | (rw [jU_s]; rfl) | (rw [jU_n (by omega), jU_s]; rfl)
                 · first | (rw [jU_n (by omega)]; omega) | (rw [jU_n (by omega), jU_n (by omega)]; omega)
                 · first | (rw [jU_n (by omega)]; exact hr j j1 j2 j3 j4) | (rw [jU_n (by omega), jU_n (by omega)]; exact hr j j1 j2 j3 j4))
              | (have e3 : tSo b n s = 3 := by rw [hdef, if_neg (by omega), if_pos (by rw [show s = x by omega]; omega)]
                 have eE : tE b n s = s + 1 := by rw [hdeE, if_neg (by omega), if_pos (by rw [show s = x by omega]; omega)]
                 refine fin _ ?_ ?_ (fun _ => ?_) (fun h => by omega) ?_ (fun j j1 j2 j3 j4 => ?_)
                 · rw [jU_n (by omega), jU_n (by omega)]; exact h9
                 · rw [e3, jU_n (by omega), jU_s]; rfl
                 · rw [jU_s, jU_n (by omega), eE]; omega
                 · rw [jU_n (by omega), jU_n (by omega)]; omega
                 · rw [jU_n (by omega), jU_n (by omega)]; exact hr j j1 j2 j3 j4)
              | (have e1 : tSo b n s = 1 := by rw [hdef, if_neg (by omega), if_neg (by omega), if_pos (by omega)]
                 have eE : tE b n s = x := by rw [hdeE, if_neg (by omega), if_neg (by omega), if_pos (by omega)]; omega
                 exact fin _ h9 (by rw [e1]; show g 7 = 1; omega) (fun _ => by rw [eE]; exact h6) (fun h => by omega) (by omega) hr)
              | (have e2 : tSo b n s = 2 := by rw [hdef, if_neg (by omega), if_neg (by omega), if_neg (by omega), if_pos (by omega)]
                 have eE : tE b n s = x := by rw [hdeE, if_neg (by omega), if_neg (by omega), if_neg (by omega)]; omega
                 exact fin _ h9 (by rw [e2]; show g 7 = 2; omega) (fun _ => by rw [eE]; exact h6) (fun h => hv (by omega) (by omega) (by omega)) (by omega) hr)
              | (have e0 : tSo b n s = 0 := by rw [hdef, if_pos (by omega)]
                 have eE : tE b n s = x := by rw [hdeE, if_pos (by omega)]; omega
                 exact fin _ h9 (by rw [e0]; show g 7 = 3; omega) (fun _ => by rw [eE]; exact h6) (fun h => by omega) (by omega) hr)
      · refine j_aload_n (pc := 214) dX12_nextToken_214 rfl ?_
        refine j_iconst (pc := 215) dX12_nextToken_215 ?_
        refine j_putI_a (pc := 216) f_X12_145 dX12_nextToken_216 rfl rfl rfl (by decide) ?_
        refine j_goto (pc := 219) 261 dX12_nextToken_219 (by decide) ?_
        refine j_retv dX12_nextToken_261 (?_) rfl
        rcases hx with ⟨x1, x2, x3⟩ | ⟨x1, x2, ⟨x3, x4⟩ | ⟨x3, x4, x5⟩ | ⟨x3, x4, x5⟩⟩
        all_goals first
          | (exfalso; omega)
          | (have e4 : tSo b n s = 4 := by rw [hdef, if_neg (by omega), if_neg (by first | omega | (rw [show s = x by omega]; omega)), if_neg (by omega), if_neg (by omega)]
             refine fin _ ?_ ?_ (fun h => absurd e4 h) (fun h => by omega) ?_ (fun j j1 j2 j3 j4 => ?_)
             · first | (rw [jU_n (by omega)]; exact h9) | (rw [jU_n (by omega), jU_n (by omega)]; exact h9)
             · rw [e4]; first | (rw [jU_s]; rfl) | (rw [jU_n (by omega), jU_s]; rfl)
             · first | (rw [jU_n (by omega)]; omega) | (rw [jU_n (by omega), jU_n (by omega)]; omega)
             · first | (rw [jU_n (by omega)]; exact hr j j1 j2 j3 j4) | (rw [jU_n (by omega), jU_n (by omega)]; exact hr j j1 j2 j3 j4))
          | (have e3 : tSo b n s = 3 := by rw [hdef, if_neg (by omega), if_pos (by rw [show s = x by omega]; omega)]
             have eE : tE b n s = s + 1 := by rw [hdeE, if_neg (by omega), if_pos (by rw [show s = x by omega]; omega)]
             refine fin _ ?_ ?_ (fun _ => ?_) (fun h => by omega) ?_ (fun j j1 j2 j3 j4 => ?_)
             · rw [jU_n (by omega), jU_n (by omega)]; exact h9
             · rw [e3, jU_n (by omega), jU_s]; rfl
             · rw [jU_s, jU_n (by omega), eE]; omega
             · rw [jU_n (by omega), jU_n (by omega)]; omega
             · rw [jU_n (by omega), jU_n (by omega)]; exact hr j j1 j2 j3 j4)
          | (have e1 : tSo b n s = 1 := by rw [hdef, if_neg (by omega), if_neg (by omega), if_pos (by omega)]
             have eE : tE b n s = x := by rw [hdeE, if_neg (by omega), if_neg (by omega), if_pos (by omega)]; omega
             exact fin _ h9 (by rw [e1]; show g 7 = 1; omega) (fun _ => by rw [eE]; exact h6) (fun h => by omega) (by omega) hr)
          | (have e2 : tSo b n s = 2 := by rw [hdef, if_neg (by omega), if_neg (by omega), if_neg (by omega), if_pos (by omega)]
             have eE : tE b n s = x := by rw [hdeE, if_neg (by omega), if_neg (by omega), if_neg (by omega)]; omega
             exact fin _ h9 (by rw [e2]; show g 7 = 2; omega) (fun _ => by rw [eE]; exact h6) (fun h => hv (by omega) (by omega) (by omega)) (by omega) hr)
          | (have e0 : tSo b n s = 0 := by rw [hdef, if_pos (by omega)]
             have eE : tE b n s = x := by rw [hdeE, if_pos (by omega)]; omega
             exact fin _ h9 (by rw [e0]; show g 7 = 3; omega) (fun _ => by rw [eE]; exact h6) (fun h => by omega) (by omega) hr)
  -- figures
  have k106 : ∀ (x : Nat) (g : Nat → Int), s ≤ x → x ≤ n → ((x = tW b n s ∧ s < x ∧ g 7 = 1) ∨ (tW b n s = s ∧ sc (isDg b) n x = tD b n s ∧ vS b s x (g 8) ∧ ((s < x ∧ g 7 = 2) ∨ (x = s ∧ s = n ∧ g 7 = 3) ∨ (x = s ∧ s < n ∧ g 7 = 0)))) → g 6 = (x : Int) → g 9 = (s : Int) → (0 ≤ g 8 ∧ g 8 ≤ 999) → (∀ j, j ≠ 6 → j ≠ 7 → j ≠ 8 → j ≠ 9 → g j = I 105 j) → S_X12_nextToken X 106 [some (jR 105)] [] (jSf I 105 g) (fun I' => ∃ g, I' = jSf I 105 g ∧ nT g (I 105) b n p) := by
    refine mu2 (fun x _ => 151 - x) _ (fun x g ih hsx hxn hx h6 h9 h8 hr => ?_)
    have h5 : g 5 = (n : Int) := (hr 5 (by omega) (by omega) (by omega) (by omega)).trans hn
    have hbx : x < n → 0 ≤ b x ∧ b x ≤ 127 := hb x
    have k193' : ((x < n → ¬ (48 ≤ b x ∧ b x ≤ 57)) ∨ g 7 = 1) → S_X12_nextToken X 193 [some (jR 105)] [] (jSf I 105 g) (fun I' => ∃ g, I' = jSf I 105 g ∧ nT g (I 105) b n p) := by
      intro hstop
      refine k193 hs.2 x g (g 7) ?_ h6 rfl h9 h8 ?_ hr
      · rcases hx with hx | ⟨h1, h2, h3, h4⟩
        · exact Or.inl hx
        · refine Or.inr ⟨h1, ?_, h4⟩
          rw [← h2]
          refine (sc_stop (fun hh => ?_)).symm
          rcases hstop with hst | hst
          · exact hst hh.1 (isDg_iff.mp hh.2)
          · omega
      · intro hsx2 h72 hx2
        rcases hx with hx | ⟨h1, h2, h3, h4⟩
        · omega
        · have e : sc (isDg b) n x = x := by
            refine sc_stop (fun hh => ?_)
            rcases hstop with hst | hst
            · exact hst hh.1 (isDg_iff.mp hh.2)
            · omega
          unfold vS at h3
          unfold tV
          rw [← h2, e]
          split <;> omega
    refine j_aload_n (pc := 106) dX12_nextToken_106 rfl ?_
    refine j_aload_n (pc := 107) dX12_nextToken_107 rfl ?_
    refine j_getI_a (pc := 108) f_X12_133 dX12_nextToken_108 rfl rfl (by decide) ?_
    rw [h6]
    refine j_goI (pc := 111) (j_runV k_X12_136 m_X12_byteAt (c_byteAt X (jSf I 105 g) x n (by rw [jSf_s]; exact h5) hn5 hxn) dX12_nextToken_111 rfl (by decide) rfl (by decide) (by decide) rfl rfl (Nat.le_of_ble_eq_true rfl)) (fun r1 I1 h1 => ?_)
    obtain ⟨rfl, rfl⟩ := h1
    rw [jSf_n (by decide), hbb]
    have hby : -1 ≤ (if x < n then b x else -1) ∧ (if x < n then b x else -1) ≤ 127 := by split <;> omega
    refine j_i2l (pc := 114) dX12_nextToken_114 (by omega) ?_
    refine j_ldc2 (pc := 115) cl_X12_152 dX12_nextToken_115 ?_
    refine j_ldc2 (pc := 118) cl_X12_154 dX12_nextToken_118 ?_
    refine j_goI (pc := 121) (j_runS k_X12_75 m_X12_in (c_in X (jSf I 105 g) (if x < n then b x else -1) 48 57 (by omega) (by omega) (by omega)) dX12_nextToken_121 (by decide) rfl rfl (Nat.le_of_ble_eq_true rfl)) (fun r2 I2 h2 => ?_)
    obtain ⟨rfl, rfl⟩ := h2
    refine j_if_eq (pc := 124) 193 dX12_nextToken_124 (by decide) (by omega) (fun h_124 => ?_) (fun h_124 => ?_)
    · refine k193' ?_
      first
        | (left; intro hxn2 hh; rw [if_pos hxn2, if_pos hh] at h_124; omega)
        | (right; omega)
    · have hxn2 : x < n := Nat.not_le.mp fun hh => by rw [if_neg (show ¬ x < n by omega)] at h_124; exact h_124 (by rw [if_neg (by omega)])
      have hd : 48 ≤ b x ∧ b x ≤ 57 := by
        refine Decidable.byContradiction fun hh => ?_
        rw [if_pos hxn2, if_neg hh] at h_124
        exact h_124 rfl
      have hdx : isDg b x = true := isDg_iff.mpr hd
      have h71 : 0 ≤ g 7 ∧ g 7 ≤ 3 := by omega
      clear h_124 hby
      refine j_aload_n (pc := 127) dX12_nextToken_127 rfl ?_
      refine j_getI_a (pc := 128) f_X12_145 dX12_nextToken_128 rfl rfl (by decide) ?_
      refine j_iconst (pc := 131) dX12_nextToken_131 ?_
      refine j_icmp_eq (pc := 132) 193 dX12_nextToken_132 (by decide) (by omega) (by omega) (fun h_132 => ?_) (fun h_132 => ?_)
      · refine k193' ?_
        first
          | (left; intro hxn2 hh; rw [if_pos hxn2, if_pos hh] at h_124; omega)
          | (right; omega)
      · refine j_aload_n (pc := 135) dX12_nextToken_135 rfl ?_
        refine j_iconst (pc := 136) dX12_nextToken_136 ?_
        refine j_putI_a (pc := 137) f_X12_145 dX12_nextToken_137 rfl rfl rfl (by decide) ?_
        refine j_aload_n (pc := 140) dX12_nextToken_140 rfl ?_
        refine j_aload_n (pc := 141) dX12_nextToken_141 rfl ?_
        refine j_getI_a (pc := 142) f_X12_142 dX12_nextToken_142 rfl rfl (by decide) ?_
        rw [jU_n (show (8 : Nat) ≠ 7 by omega)]
        refine j_bipush (pc := 145) dX12_nextToken_145 (by decide) ?_
        refine j_icmp_le (pc := 147) 157 dX12_nextToken_147 (by decide) (by omega) (by omega) (fun h_147 => ?_) (fun h_147 => ?_)
        · refine j_bipush (pc := 157) dX12_nextToken_157 (by decide) ?_
          refine j_aload_n (pc := 159) dX12_nextToken_159 rfl ?_
          refine j_getI_a (pc := 160) f_X12_142 dX12_nextToken_160 rfl rfl (by decide) ?_
          rw [jU_n (show (8 : Nat) ≠ 7 by omega)]
          refine j_imul (pc := 163) dX12_nextToken_163 ?_
          refine j_aload_n (pc := 164) dX12_nextToken_164 rfl ?_
          refine j_getR (pc := 165) f_X12_20 dX12_nextToken_165 rfl rfl (by decide) rfl ?_
          refine j_aload_n (pc := 168) dX12_nextToken_168 rfl ?_
          refine j_getI_a (pc := 169) f_X12_133 dX12_nextToken_169 rfl rfl (by decide) ?_
          rw [jU_n (by omega), h6]
          refine j_iald_c (pc := 172) (x) dX12_nextToken_172 rfl (by decide) (by decide) (by omega) (by omega) (by decide) ?_
          rw [hbb]
          refine j_iadd (pc := 173) dX12_nextToken_173 ?_
          refine j_bipush (pc := 174) dX12_nextToken_174 (by decide) ?_
          refine j_isub (pc := 176) dX12_nextToken_176 ?_
          refine j_putI_a (pc := 177) f_X12_142 dX12_nextToken_177 rfl rfl rfl (by decide) ?_
          refine j_aload_n (pc := 180) dX12_nextToken_180 rfl ?_
          refine j_dupR (pc := 181) dX12_nextToken_181 ?_
          refine j_getI_a (pc := 182) f_X12_133 dX12_nextToken_182 rfl rfl (by decide) ?_
          refine j_iconst (pc := 185) dX12_nextToken_185 ?_
          refine j_iadd (pc := 186) dX12_nextToken_186 ?_
          refine j_putI_a (pc := 187) f_X12_133 dX12_nextToken_187 rfl rfl rfl (by decide) ?_
          refine j_goto (pc := 190) 106 dX12_nextToken_190 (by decide) ?_
          have hx' : tW b n s = s ∧ sc (isDg b) n x = tD b n s ∧ vS b s x (g 8) := by
            rcases hx with hx | ⟨h1, h2, h3, h4⟩
            · omega
            · exact ⟨h1, h2, h3⟩
          obtain ⟨h1, h2, h3⟩ := hx'
          have h38 : (0 ≤ g 8 ∧ g 8 ≤ 999) ∧ (x = s → g 8 = 0) ∧ (x = s + 1 → g 8 = b s - 48) ∧ (x = s + 2 → g 8 = 10 * (b s - 48) + b (s + 1) - 48) := h3
          have hbs : s < x → s < n ∧ 48 ≤ b s ∧ b s ≤ 57 := by
            intro hsx2
            exact ⟨by omega, isDg_iff.mp (sc_all (P := isDg b) (n := n) (p := s) (Nat.le_refl _) (by have := sc_rng (P := isDg b) (n := n) (p := x) hxn; unfold tD at h2; omega))⟩
          refine ih (x + 1) _ (by omega) (by omega) (by omega) (Or.inr ⟨h1, ?_, ?_, Or.inl ⟨by omega, ?_⟩⟩) ?_ ?_ ?_ (fun j j1 j2 j3 j4 => ?_)
          · rw [← h2]; exact (sc_step hxn2 hdx).symm
          · rw [jU_n (by omega), jU_s]
            by_cases hxs : x = s
            · subst hxs
              have e8 := h38.2.1 rfl
              unfold vS
              refine ⟨by omega, by omega, fun _ => ?_, by omega⟩
              omega
            · by_cases hxs2 : x = s + 1
              · have e8 := h38.2.2.1 hxs2
                have := hbs (by omega)
                unfold vS
                refine ⟨by omega, by omega, by omega, fun _ => ?_⟩
                rw [← hxs2]
                omega
              · unfold vS
                exact ⟨by omega, by omega, by omega, by omega⟩
          · rw [jU_n (by omega), jU_n (by omega), jU_s]
          · rw [jU_s, jU_n (by omega), jU_n (by omega), h6]; omega
          · rw [jU_n (by omega), jU_n (by omega), jU_n (by omega)]; exact h9
          · rw [jU_n (by omega), jU_s]; omega
          · rw [jU_n j1, jU_n j3, jU_n j2]; exact hr j j1 j2 j3 j4
        · refine j_aload_n (pc := 150) dX12_nextToken_150 rfl ?_
          refine j_getI_a (pc := 151) f_X12_142 dX12_nextToken_151 rfl rfl (by decide) ?_
          rw [jU_n (show (8 : Nat) ≠ 7 by omega)]
          refine j_goto (pc := 154) 177 dX12_nextToken_154 (by decide) ?_
          refine j_putI_a (pc := 177) f_X12_142 dX12_nextToken_177 rfl rfl rfl (by decide) ?_
          refine j_aload_n (pc := 180) dX12_nextToken_180 rfl ?_
          refine j_dupR (pc := 181) dX12_nextToken_181 ?_
          refine j_getI_a (pc := 182) f_X12_133 dX12_nextToken_182 rfl rfl (by decide) ?_
          refine j_iconst (pc := 185) dX12_nextToken_185 ?_
          refine j_iadd (pc := 186) dX12_nextToken_186 ?_
          refine j_putI_a (pc := 187) f_X12_133 dX12_nextToken_187 rfl rfl rfl (by decide) ?_
          refine j_goto (pc := 190) 106 dX12_nextToken_190 (by decide) ?_
          have hx' : tW b n s = s ∧ sc (isDg b) n x = tD b n s ∧ vS b s x (g 8) := by
            rcases hx with hx | ⟨h1, h2, h3, h4⟩
            · omega
            · exact ⟨h1, h2, h3⟩
          obtain ⟨h1, h2, h3⟩ := hx'
          have h38 : (0 ≤ g 8 ∧ g 8 ≤ 999) ∧ (x = s → g 8 = 0) ∧ (x = s + 1 → g 8 = b s - 48) ∧ (x = s + 2 → g 8 = 10 * (b s - 48) + b (s + 1) - 48) := h3
          have hbs : s < x → s < n ∧ 48 ≤ b s ∧ b s ≤ 57 := by
            intro hsx2
            exact ⟨by omega, isDg_iff.mp (sc_all (P := isDg b) (n := n) (p := s) (Nat.le_refl _) (by have := sc_rng (P := isDg b) (n := n) (p := x) hxn; unfold tD at h2; omega))⟩
          refine ih (x + 1) _ (by omega) (by omega) (by omega) (Or.inr ⟨h1, ?_, ?_, Or.inl ⟨by omega, ?_⟩⟩) ?_ ?_ ?_ (fun j j1 j2 j3 j4 => ?_)
          · rw [← h2]; exact (sc_step hxn2 hdx).symm
          · rw [jU_n (by omega), jU_s]
            by_cases hxs : x = s
            · subst hxs
              have e8 := h38.2.1 rfl
              unfold vS
              refine ⟨by omega, by omega, fun _ => ?_, by omega⟩
              omega
            · by_cases hxs2 : x = s + 1
              · have e8 := h38.2.2.1 hxs2
                have := hbs (by omega)
                unfold vS
                refine ⟨by omega, by omega, by omega, fun _ => ?_⟩
                rw [← hxs2]
                omega
              · unfold vS
                exact ⟨by omega, by omega, by omega, by omega⟩
          · rw [jU_n (by omega), jU_n (by omega), jU_s]
          · rw [jU_s, jU_n (by omega), jU_n (by omega), h6]; omega
          · rw [jU_n (by omega), jU_n (by omega), jU_n (by omega)]; exact h9
          · rw [jU_n (by omega), jU_s]; omega
          · rw [jU_n j1, jU_n j3, jU_n j2]; exact hr j j1 j2 j3 j4
  -- letters
  have k59 : ∀ (x : Nat) (g : Nat → Int), s ≤ x → x ≤ n → sc (isLt b) n x = tW b n s → ((s < x ∧ g 7 = 1) ∨ (x = s ∧ s = n ∧ g 7 = 3) ∨ (x = s ∧ s < n ∧ g 7 = 0)) → g 6 = (x : Int) → g 9 = (s : Int) → g 8 = 0 → (∀ j, j ≠ 6 → j ≠ 7 → j ≠ 8 → j ≠ 9 → g j = I 105 j) → S_X12_nextToken X 59 [some (jR 105)] [] (jSf I 105 g) (fun I' => ∃ g, I' = jSf I 105 g ∧ nT g (I 105) b n p) := by
    refine mu2 (fun x _ => 151 - x) _ (fun x g ih hsx hxn hx h7 h6 h9 h8 hr => ?_)
    have h5 : g 5 = (n : Int) := (hr 5 (by omega) (by omega) (by omega) (by omega)).trans hn
    have hbx : x < n → 0 ≤ b x ∧ b x ≤ 127 := hb x
    have k106' : (x < n → ¬ (97 ≤ b x ∧ b x ≤ 122)) → S_X12_nextToken X 106 [some (jR 105)] [] (jSf I 105 g) (fun I' => ∃ g, I' = jSf I 105 g ∧ nT g (I 105) b n p) := by
      intro hst
      have e : sc (isLt b) n x = x := sc_stop (fun hh => hst hh.1 (isLt_iff.mp hh.2))
      refine k106 x g hsx hxn ?_ h6 h9 (by omega) hr
      rcases h7 with ⟨h1, h2⟩ | h7
      · exact Or.inl ⟨by omega, h1, h2⟩
      · have hxs : x = s := by omega
        refine Or.inr ⟨by omega, by rw [hxs]; rfl, ?_, by omega⟩
        rw [h8]
        exact ⟨by omega, fun _ => rfl, by omega, by omega⟩
    refine j_aload_n (pc := 59) dX12_nextToken_59 rfl ?_
    refine j_aload_n (pc := 60) dX12_nextToken_60 rfl ?_
    refine j_getI_a (pc := 61) f_X12_133 dX12_nextToken_61 rfl rfl (by decide) ?_
    rw [h6]
    refine j_goI (pc := 64) (j_runV k_X12_136 m_X12_byteAt (c_byteAt X (jSf I 105 g) x n (by rw [jSf_s]; exact h5) hn5 hxn) dX12_nextToken_64 rfl (by decide) rfl (by decide) (by decide) rfl rfl (Nat.le_of_ble_eq_true rfl)) (fun r1 I1 h1 => ?_)
    obtain ⟨rfl, rfl⟩ := h1
    rw [jSf_n (by decide), hbb]
    have hby : -1 ≤ (if x < n then b x else -1) ∧ (if x < n then b x else -1) ≤ 127 := by split <;> omega
    refine j_i2l (pc := 67) dX12_nextToken_67 (by omega) ?_
    refine j_ldc2 (pc := 68) cl_X12_148 dX12_nextToken_68 ?_
    refine j_ldc2 (pc := 71) cl_X12_150 dX12_nextToken_71 ?_
    refine j_goI (pc := 74) (j_runS k_X12_75 m_X12_in (c_in X (jSf I 105 g) (if x < n then b x else -1) 97 122 (by omega) (by omega) (by omega)) dX12_nextToken_74 (by decide) rfl rfl (Nat.le_of_ble_eq_true rfl)) (fun r2 I2 h2 => ?_)
    obtain ⟨rfl, rfl⟩ := h2
    refine j_if_eq (pc := 77) 106 dX12_nextToken_77 (by decide) (by omega) (fun h_77 => ?_) (fun h_77 => ?_)
    · refine k106' ?_
      intro hxn2 hh
      first
        | omega
        | (rw [if_pos hxn2, if_pos hh] at h_77; omega)
    · have hxn2 : x < n := Nat.not_le.mp fun hh => by rw [if_neg (show ¬ x < n by omega)] at h_77; exact h_77 (by rw [if_neg (by omega)])
      have hd : 97 ≤ b x ∧ b x ≤ 122 := by
        refine Decidable.byContradiction fun hh => ?_
        rw [if_pos hxn2, if_neg hh] at h_77
        exact h_77 rfl
      have hdx : isLt b x = true := isLt_iff.mpr hd
      clear h_77 hby
      refine j_aload_n (pc := 80) dX12_nextToken_80 rfl ?_
      refine j_getI_a (pc := 81) f_X12_145 dX12_nextToken_81 rfl rfl (by decide) ?_
      refine j_iconst (pc := 84) dX12_nextToken_84 ?_
      refine j_icmp_ge (pc := 85) 106 dX12_nextToken_85 (by decide) (by omega) (by omega) (fun h_85 => ?_) (fun h_85 => ?_)
      · refine k106' ?_
        intro hxn2 hh
        first
          | omega
          | (rw [if_pos hxn2, if_pos hh] at h_77; omega)
      · refine j_aload_n (pc := 88) dX12_nextToken_88 rfl ?_
        refine j_iconst (pc := 89) dX12_nextToken_89 ?_
        refine j_putI_a (pc := 90) f_X12_145 dX12_nextToken_90 rfl rfl rfl (by decide) ?_
        refine j_aload_n (pc := 93) dX12_nextToken_93 rfl ?_
        refine j_dupR (pc := 94) dX12_nextToken_94 ?_
        refine j_getI_a (pc := 95) f_X12_133 dX12_nextToken_95 rfl rfl (by decide) ?_
        refine j_iconst (pc := 98) dX12_nextToken_98 ?_
        refine j_iadd (pc := 99) dX12_nextToken_99 ?_
        refine j_putI_a (pc := 100) f_X12_133 dX12_nextToken_100 rfl rfl rfl (by decide) ?_
        refine j_goto (pc := 103) 59 dX12_nextToken_103 (by decide) ?_
        refine ih (x + 1) _ (by omega) (by omega) (by omega) ?_ (Or.inl ⟨by omega, ?_⟩) ?_ ?_ ?_ (fun j j1 j2 j3 j4 => ?_)
        · rw [← hx]; exact (sc_step hxn2 hdx).symm
        · rw [jU_n (by omega), jU_s]
        · rw [jU_s, jU_n (by omega), h6]; omega
        · rw [jU_n (by omega), jU_n (by omega)]; exact h9
        · rw [jU_n (by omega), jU_n (by omega)]; exact h8
        · rw [jU_n j1, jU_n j2]; exact hr j j1 j2 j3 j4
  have k0 : ∀ (x : Nat) (g : Nat → Int), x ≤ n → sc (isSp b) n x = s → g 6 = (x : Int) → (∀ j, j ≠ 6 → j ≠ 7 → j ≠ 8 → j ≠ 9 → g j = I 105 j) → S_X12_nextToken X 0 [some (jR 105)] [] (jSf I 105 g) (fun I' => ∃ g, I' = jSf I 105 g ∧ nT g (I 105) b n p) := by
    refine mu2 (fun x _ => 151 - x) _ (fun x g ih hxn hx h6 hr => ?_)
    have h5 : g 5 = (n : Int) := (hr 5 (by omega) (by omega) (by omega) (by omega)).trans hn
    have hbx : x < n → 0 ≤ b x ∧ b x ≤ 127 := hb x
    refine j_aload_n (pc := 0) dX12_nextToken_0 rfl ?_
    refine j_aload_n (pc := 1) dX12_nextToken_1 rfl ?_
    refine j_getI_a (pc := 2) f_X12_133 dX12_nextToken_2 rfl rfl (by decide) ?_
    rw [h6]
    refine j_goI (pc := 5) (j_runV k_X12_136 m_X12_byteAt (c_byteAt X (jSf I 105 g) x n (by rw [jSf_s]; exact h5) hn5 hxn) dX12_nextToken_5 rfl (by decide) rfl (by decide) (by decide) rfl rfl (Nat.le_of_ble_eq_true rfl)) (fun r1 I1 h1 => ?_)
    obtain ⟨rfl, rfl⟩ := h1
    rw [jSf_n (by decide), hbb]
    have hby : -1 ≤ (if x < n then b x else -1) ∧ (if x < n then b x else -1) ≤ 127 := by split <;> omega
    refine j_bipush (pc := 8) dX12_nextToken_8 (by decide) ?_
    refine j_icmp_ne (pc := 10) 26 dX12_nextToken_10 (by decide) (by omega) (by omega) (fun h_10 => ?_) (fun h_10 => ?_)
    · have hxs : x = s := by
        rw [← hx]
        refine (sc_stop (fun hh => ?_)).symm
        rw [if_pos hh.1] at h_10
        exact h_10 (isSp_iff.mp hh.2)
      clear h_10 hby
      refine j_aload_n (pc := 26) dX12_nextToken_26 rfl ?_
      refine j_aload_n (pc := 27) dX12_nextToken_27 rfl ?_
      refine j_getI_a (pc := 28) f_X12_133 dX12_nextToken_28 rfl rfl (by decide) ?_
      refine j_putI_a (pc := 31) f_X12_139 dX12_nextToken_31 rfl rfl rfl (by decide) ?_
      refine j_aload_n (pc := 34) dX12_nextToken_34 rfl ?_
      refine j_iconst (pc := 35) dX12_nextToken_35 ?_
      refine j_putI_a (pc := 36) f_X12_142 dX12_nextToken_36 rfl rfl rfl (by decide) ?_
      refine j_aload_n (pc := 39) dX12_nextToken_39 rfl ?_
      refine j_aload_n (pc := 40) dX12_nextToken_40 rfl ?_
      refine j_getI_a (pc := 41) f_X12_133 dX12_nextToken_41 rfl rfl (by decide) ?_
      refine j_aload_n (pc := 44) dX12_nextToken_44 rfl ?_
      refine j_getI_a (pc := 45) f_X12_130 dX12_nextToken_45 rfl rfl (by decide) ?_
      rw [jU_n (by omega), jU_n (by omega), jU_n (by omega), jU_n (by omega), h6, h5]
      refine j_icmp_ne (pc := 48) 55 dX12_nextToken_48 (by decide) (by omega) (by omega) (fun h_48 => ?_) (fun h_48 => ?_)
      · refine j_iconst (pc := 55) dX12_nextToken_55 ?_
        refine j_putI_a (pc := 56) f_X12_145 dX12_nextToken_56 rfl rfl rfl (by decide) ?_
        refine k59 s _ (Nat.le_refl _) hs.2 rfl ?_ ?_ ?_ ?_ (fun j j1 j2 j3 j4 => ?_)
        · rw [jU_s]; right; omega
        · rw [jU_n (by omega), jU_n (by omega), jU_n (by omega), h6]; omega
        · rw [jU_n (by omega), jU_n (by omega), jU_s]; omega
        · rw [jU_n (by omega), jU_s]
        · rw [jU_n j2, jU_n j3, jU_n j4]; exact hr j j1 j2 j3 j4
      · refine j_iconst (pc := 51) dX12_nextToken_51 ?_
        refine j_goto (pc := 52) 56 dX12_nextToken_52 (by decide) ?_
        refine j_putI_a (pc := 56) f_X12_145 dX12_nextToken_56 rfl rfl rfl (by decide) ?_
        refine k59 s _ (Nat.le_refl _) hs.2 rfl ?_ ?_ ?_ ?_ (fun j j1 j2 j3 j4 => ?_)
        · rw [jU_s]; right; omega
        · rw [jU_n (by omega), jU_n (by omega), jU_n (by omega), h6]; omega
        · rw [jU_n (by omega), jU_n (by omega), jU_s]; omega
        · rw [jU_n (by omega), jU_s]
        · rw [jU_n j2, jU_n j3, jU_n j4]; exact hr j j1 j2 j3 j4
    · refine j_aload_n (pc := 13) dX12_nextToken_13 rfl ?_
      refine j_dupR (pc := 14) dX12_nextToken_14 ?_
      refine j_getI_a (pc := 15) f_X12_133 dX12_nextToken_15 rfl rfl (by decide) ?_
      refine j_iconst (pc := 18) dX12_nextToken_18 ?_
      refine j_iadd (pc := 19) dX12_nextToken_19 ?_
      refine j_putI_a (pc := 20) f_X12_133 dX12_nextToken_20 rfl rfl rfl (by decide) ?_
      refine j_goto (pc := 23) 0 dX12_nextToken_23 (by decide) ?_
      have hxn2 : x < n := Nat.not_le.mp fun hh => by rw [if_neg (show ¬ x < n by omega)] at h_10; omega
      rw [if_pos hxn2] at h_10
      refine ih (x + 1) _ (by omega) (by omega) ?_ ?_ (fun j j1 j2 j3 j4 => ?_)
      · rw [← hx]; exact (sc_step hxn2 (isSp_iff.mpr h_10)).symm
      · rw [jU_s, h6]; omega
      · rw [jU_n j1]; exact hr j j1 j2 j3 j4
  have hy := k0 p (I 105) hpn (by rw [← hS]; rfl) hp (fun j _ _ _ _ => rfl)
  rw [jSf_i] at hy
  exact hy
