/-! ===== the reference: findHeard ===== -/
def isOp (f : Nat → Int) (g : Nat → Int) (M : Nat) : Prop := ∀ m a b, m < M → a < 8 → b < 8 → (g (64 * m + (8 * a + b)) = 1 ∧ ldP f m a b) ∨ (g (64 * m + (8 * a + b)) = 0 ∧ ¬ ldP f m a b)
def hdK (I J : jMI) : Prop := ∀ c, c ≠ 110 → c ≠ 116 → c ≠ 117 → c ≠ 118 → J c = I c
theorem isOp_at {f g : Nat → Int} {M m k : Nat} (h : isOp f g M) (hm : m < M) (hk : k < 64) : (g (64 * m + k) = 1 ∧ ldP f m (k / 8) (k % 8)) ∨ (g (64 * m + k) = 0 ∧ ¬ ldP f m (k / 8) (k % 8)) := by
  have := h m (k / 8) (k % 8) hm (by omega) (by omega)
  rw [show 8 * (k / 8) + k % 8 = k by omega] at this
  exact this
set_option maxHeartbeats 8000000 in
theorem c_findHeard (X : jX) (I : jMI) (hok : okSt (I 106)) : C_X12_findHeard X [jR 105] I (fun I' => isOp (I 106) (I' 118) 12 ∧ (∀ m a, m ≤ 12 → a < 8 → I' 116 (8 * m + a) = cm (I 106) m a) ∧ (∀ m a, m ≤ 12 → a < 8 → I' 117 (8 * m + a) = onF (I 106) (12 - m) a) ∧ hdK I I') := by
  refine CG.of (by decide) [some (jR 105), none, none] rfl (Nat.le_of_ble_eq_true rfl) ?_
  generalize hq : (fun (I' : jMI) => isOp (I 106) (I' 118) 12 ∧ (∀ m a, m ≤ 12 → a < 8 → I' 116 (8 * m + a) = cm (I 106) m a) ∧ (∀ m a, m ≤ 12 → a < 8 → I' 117 (8 * m + a) = onF (I 106) (12 - m) a) ∧ hdK I I') = q
  generalize hf : I 106 = f at *
  -- the way back
  have k186 : ∀ (m : Nat), m < 12 → (∀ (J1 : jMI) x2, hdK I J1 → isOp f (J1 118) 12 → (∀ m a, m ≤ 12 → a < 8 → J1 116 (8 * m + a) = cm f m a) → (∀ m' a, m ≤ m' → m' ≤ 12 → a < 8 → J1 117 (8 * m' + a) = onF f (12 - m') a) → (∀ i, i < 8 * m → J1 117 i = 0) → S_X12_findHeard X 249 [some (jR 105), some (jI m), x2] [] J1 q) →
      ∀ (k : Nat) (J0 : jMI), k ≤ 64 → hdK I J0 → isOp f (J0 118) 12 → (∀ m a, m ≤ 12 → a < 8 → J0 116 (8 * m + a) = cm f m a) → (∀ m' a, m < m' → m' ≤ 12 → a < 8 → J0 117 (8 * m' + a) = onF f (12 - m') a) → (∀ i, i < 8 * m → J0 117 i = 0) → (∀ a, a < 8 → J0 117 (8 * m + a) = sumTo (if 8 * a + 8 ≤ k then 8 else k - 8 * a) (fun b => ind (ldP f m a b) * onF f (11 - m) b)) → S_X12_findHeard X 186 [some (jR 105), some (jI m), some (jI k)] [] J0 q := by
    intro m hm hx
    refine mu2 (fun k _ => 64 - k) _ (fun k J0 ih hk hE hO hC hN1 hN0 hN => ?_)
    have hnew : k < 64 → ∀ v : Int, v = ind (ldP f m (k / 8) (k % 8)) * onF f (11 - m) (k % 8) → S_X12_findHeard X 241 [some (jR 105), some (jI m), some (jI k)] [jL v, jL (J0 117 (8 * m + k / 8)), jI ((8 * m + k / 8 : Nat) : Int), jR 117] J0 q := by
      intro hk64 v hv
      refine j_ladd (pc := 241) dX12_findHeard_241 ?_
      refine j_last_b (pc := 242) (8 * m + k / 8) dX12_findHeard_242 rfl (by decide) (by decide) (by omega) (by omega) ?_
      refine j_iinc2 (pc := 243) dX12_findHeard_243 (by decide) rfl ?_
      refine j_goto (pc := 246) 186 dX12_findHeard_246 (by decide) ?_
      refine ih (k + 1) _ (by omega) (by omega) (fun c h1 h2 h3 h4 => ?_) ?_ ?_ (fun m' a h1 h2 h3 => ?_) (fun i hi => ?_) (fun a ha => ?_)
      · rw [jSf_n h3]; exact hE c h1 h2 h3 h4
      · rw [jSf_n (by decide)]; exact hO
      · rw [jSf_n (by decide)]; exact hC
      · rw [jSf_s, jU_n (by omega)]; exact hN1 m' a h1 h2 h3
      · rw [jSf_s, jU_n (by omega)]; exact hN0 i hi
      · rw [jSf_s]
        by_cases hak : a = k / 8
        · subst hak
          rw [jU_s, hN (k / 8) ha, hv]
          rw [show (if 8 * (k / 8) + 8 ≤ k then 8 else k - 8 * (k / 8)) = k % 8 by split <;> omega, show (if 8 * (k / 8) + 8 ≤ k + 1 then 8 else k + 1 - 8 * (k / 8)) = k % 8 + 1 by split <;> omega]
          rfl
        · rw [jU_n (by omega), hN a ha]
          congr 1
          split <;> split <;> omega
    refine j_iload_n (pc := 186) dX12_findHeard_186 rfl ?_
    refine j_bipush (pc := 187) dX12_findHeard_187 (by decide) ?_
    refine j_icmp_ge (pc := 189) 249 dX12_findHeard_189 (by decide) (by omega) (by omega) (fun h_189 => ?_) (fun h_189 => ?_)
    · obtain rfl : k = 64 := by omega
      refine hx J0 _ hE hO hC (fun m' a h1 h2 h3 => ?_) hN0
      by_cases hmm : m' = m
      · subst hmm
        rw [hN a h3, if_pos (by omega), show 12 - m' = (11 - m') + 1 by omega]
        simp only [onF]
        rw [show 11 - (11 - m') = m' by omega]
      · exact hN1 m' a (by omega) h2 h3
    · refine j_aload_n (pc := 192) dX12_findHeard_192 rfl ?_
      refine j_getR (pc := 193) f_X12_49 dX12_findHeard_193 rfl rfl (by decide) rfl ?_
      refine j_bipush (pc := 196) dX12_findHeard_196 (by decide) ?_
      refine j_iload_n (pc := 198) dX12_findHeard_198 rfl ?_
      refine j_imul (pc := 199) dX12_findHeard_199 ?_
      refine j_iload_n (pc := 200) dX12_findHeard_200 rfl ?_
      refine j_bipush (pc := 201) dX12_findHeard_201 (by decide) ?_
      refine j_idiv (pc := 203) dX12_findHeard_203 (by omega) (by omega) ?_
      refine j_iadd (pc := 204) dX12_findHeard_204 ?_
      refine j_dup2 (pc := 205) dX12_findHeard_205 ?_
      rw [show (8 : Int) * (m : Int) + (k : Int) / 8 = ((8 * m + k / 8 : Nat) : Int) by omega]
      refine j_lald_b (pc := 206) (8 * m + k / 8) dX12_findHeard_206 rfl (by decide) (by decide) (by omega) (by omega) ?_
      refine j_aload_n (pc := 207) dX12_findHeard_207 rfl ?_
      refine j_getR (pc := 208) f_X12_52 dX12_findHeard_208 rfl rfl (by decide) rfl ?_
      refine j_bipush (pc := 211) dX12_findHeard_211 (by decide) ?_
      refine j_iload_n (pc := 213) dX12_findHeard_213 rfl ?_
      refine j_imul (pc := 214) dX12_findHeard_214 ?_
      refine j_iload_n (pc := 215) dX12_findHeard_215 rfl ?_
      refine j_iadd (pc := 216) dX12_findHeard_216 ?_
      have hop := isOp_at hO hm (show k < 64 by omega)
      refine j_zald_b (pc := 217) (64 * m + k) dX12_findHeard_217 rfl (by decide) (by decide) (by omega) (by omega) ?_
      refine j_if_eq (pc := 218) 240 dX12_findHeard_218 (by decide) (by omega) (fun h_218 => ?_) (fun h_218 => ?_)
      · refine j_lconst0 (pc := 240) dX12_findHeard_240 ?_
        refine hnew (by omega) _ ?_
        rcases hop with ⟨e1, e2⟩ | ⟨e1, e2⟩
        · first
            | omega
            | (rw [ind_t e2, Int.one_mul, hN1 (m + 1) (k % 8) (by omega) (by omega) (by omega), show 12 - (m + 1) = 11 - m by omega])
        · first
            | omega
            | (rw [ind_f e2, Int.zero_mul])
      · refine j_aload_n (pc := 221) dX12_findHeard_221 rfl ?_
        refine j_getR (pc := 222) f_X12_49 dX12_findHeard_222 rfl rfl (by decide) rfl ?_
        refine j_bipush (pc := 225) dX12_findHeard_225 (by decide) ?_
        refine j_iload_n (pc := 227) dX12_findHeard_227 rfl ?_
        refine j_iconst (pc := 228) dX12_findHeard_228 ?_
        refine j_iadd (pc := 229) dX12_findHeard_229 ?_
        refine j_imul (pc := 230) dX12_findHeard_230 ?_
        refine j_iload_n (pc := 231) dX12_findHeard_231 rfl ?_
        refine j_bipush (pc := 232) dX12_findHeard_232 (by decide) ?_
        refine j_irem (pc := 234) dX12_findHeard_234 (by omega) (by omega) ?_
        refine j_iadd (pc := 235) dX12_findHeard_235 ?_
        refine j_lald_b (pc := 236) (8 * (m + 1) + k % 8) dX12_findHeard_236 rfl (by decide) (by decide) (by omega) (by omega) ?_
        refine j_goto (pc := 237) 241 dX12_findHeard_237 (by decide) ?_
        refine hnew (by omega) _ ?_
        rcases hop with ⟨e1, e2⟩ | ⟨e1, e2⟩
        · first
            | omega
            | (rw [ind_t e2, Int.one_mul, hN1 (m + 1) (k % 8) (by omega) (by omega) (by omega), show 12 - (m + 1) = 11 - m by omega])
        · first
            | omega
            | (rw [ind_f e2, Int.zero_mul])
  have k180 : ∀ (m1 : Nat) (J0 : jMI), m1 ≤ 12 → hdK I J0 → isOp f (J0 118) 12 → (∀ m a, m ≤ 12 → a < 8 → J0 116 (8 * m + a) = cm f m a) → (∀ m' a, m1 ≤ m' → m' ≤ 12 → a < 8 → J0 117 (8 * m' + a) = onF f (12 - m') a) → (∀ i, i < 8 * m1 → J0 117 i = 0) → ∀ x2, S_X12_findHeard X 180 [some (jR 105), some (jI ((m1 : Int) - 1)), x2] [] J0 q := by
    refine mu2 (fun m1 _ => m1) _ (fun m1 J0 ih hm hE hO hC hN1 hN0 x2 => ?_)
    refine j_iload_n (pc := 180) dX12_findHeard_180 rfl ?_
    refine j_if_lt (pc := 181) 255 dX12_findHeard_181 (by decide) (by omega) (fun h_181 => ?_) (fun h_181 => ?_)
    · refine j_retv dX12_findHeard_255 (?_) rfl
      subst hq
      exact ⟨hO, hC, fun m a h1 h2 => hN1 m a (by omega) h1 h2, hE⟩
    · obtain ⟨m, rfl⟩ : ∃ m, m1 = m + 1 := ⟨m1 - 1, by omega⟩
      rw [show (((m + 1 : Nat) : Int) - 1) = (m : Int) by omega]
      refine j_iconst (pc := 184) dX12_findHeard_184 ?_
      refine j_istore_n2 (pc := 185) dX12_findHeard_185 (by decide) rfl ?_
      refine k186 m (by omega) (fun J1 y2 g1 g2 g3 g4 g5 => ?_) 0 J0 (by omega) hE hO hC (fun m' a h1 h2 h3 => hN1 m' a (by omega) h2 h3) (fun i hi => hN0 i (by omega)) (fun a ha => ?_)
      · have hn := ih m J1 (by omega) (by omega) g1 g2 g3 g4 g5 y2
        refine j_iinc1 (pc := 249) dX12_findHeard_249 (by decide) rfl ?_
        refine j_goto (pc := 252) 180 dX12_findHeard_252 (by decide) ?_
        exact hn
      · rw [hN0 (8 * m + a) (by omega), show (if 8 * a + 8 ≤ 0 then 8 else 0 - 8 * a) = 0 by split <;> omega]
        rfl
  -- the way there
  have k108 : ∀ (m : Nat), m < 12 → (∀ (J1 : jMI) x2, hdK I J1 → isOp f (J1 118) 12 → (∀ m' a, m' ≤ m + 1 → a < 8 → J1 116 (8 * m' + a) = cm f m' a) → (∀ i, 8 * (m + 2) ≤ i → i < 104 → J1 116 i = 0) → (∀ i, i < 104 → J1 117 i = if i < 96 then 0 else 1) → S_X12_findHeard X 171 [some (jR 105), some (jI m), x2] [] J1 q) →
      ∀ (k : Nat) (J0 : jMI), k ≤ 64 → hdK I J0 → isOp f (J0 118) 12 → (∀ m' a, m' ≤ m → a < 8 → J0 116 (8 * m' + a) = cm f m' a) → (∀ i, 8 * (m + 2) ≤ i → i < 104 → J0 116 i = 0) → (∀ i, i < 104 → J0 117 i = if i < 96 then 0 else 1) → (∀ b, b < 8 → J0 116 (8 * (m + 1) + b) = sumTo ((k + 7 - b) / 8) (fun a => ind (ldP f m a b) * cm f m a)) → S_X12_findHeard X 108 [some (jR 105), some (jI m), some (jI k)] [] J0 q := by
    intro m hm hx
    refine mu2 (fun k _ => 64 - k) _ (fun k J0 ih hk hE hO hC1 hC0 hN hC => ?_)
    have hnew : k < 64 → ∀ v : Int, v = ind (ldP f m (k / 8) (k % 8)) * cm f m (k / 8) → S_X12_findHeard X 163 [some (jR 105), some (jI m), some (jI k)] [jL v, jL (J0 116 (8 * (m + 1) + k % 8)), jI ((8 * (m + 1) + k % 8 : Nat) : Int), jR 116] J0 q := by
      intro hk64 v hv
      refine j_ladd (pc := 163) dX12_findHeard_163 ?_
      refine j_last_b (pc := 164) (8 * (m + 1) + k % 8) dX12_findHeard_164 rfl (by decide) (by decide) (by omega) (by omega) ?_
      refine j_iinc2 (pc := 165) dX12_findHeard_165 (by decide) rfl ?_
      refine j_goto (pc := 168) 108 dX12_findHeard_168 (by decide) ?_
      refine ih (k + 1) _ (by omega) (by omega) (fun c h1 h2 h3 h4 => ?_) ?_ (fun m' a h1 h2 => ?_) (fun i h1 h2 => ?_) ?_ (fun b hb => ?_)
      · rw [jSf_n h2]; exact hE c h1 h2 h3 h4
      · rw [jSf_n (by decide)]; exact hO
      · rw [jSf_s, jU_n (by omega)]; exact hC1 m' a h1 h2
      · rw [jSf_s, jU_n (by omega)]; exact hC0 i h1 h2
      · rw [jSf_n (by decide)]; exact hN
      · rw [jSf_s]
        by_cases hbk : b = k % 8
        · subst hbk
          rw [jU_s, hC (k % 8) hb, hv]
          rw [show (k + 7 - k % 8) / 8 = k / 8 by omega, show (k + 1 + 7 - k % 8) / 8 = k / 8 + 1 by omega]
          rfl
        · rw [jU_n (by omega), hC b hb]
          congr 1
          omega
    refine j_iload_n (pc := 108) dX12_findHeard_108 rfl ?_
    refine j_bipush (pc := 109) dX12_findHeard_109 (by decide) ?_
    refine j_icmp_ge (pc := 111) 171 dX12_findHeard_111 (by decide) (by omega) (by omega) (fun h_111 => ?_) (fun h_111 => ?_)
    · obtain rfl : k = 64 := by omega
      refine hx J0 _ hE hO (fun m' a h1 h2 => ?_) hC0 hN
      by_cases hmm : m' = m + 1
      · subst hmm
        rw [hC a h2, show (64 + 7 - a) / 8 = 8 by omega]
        rfl
      · exact hC1 m' a (by omega) h2
    · refine j_aload_n (pc := 114) dX12_findHeard_114 rfl ?_
      refine j_getR (pc := 115) f_X12_45 dX12_findHeard_115 rfl rfl (by decide) rfl ?_
      refine j_bipush (pc := 118) dX12_findHeard_118 (by decide) ?_
      refine j_iload_n (pc := 120) dX12_findHeard_120 rfl ?_
      refine j_iconst (pc := 121) dX12_findHeard_121 ?_
      refine j_iadd (pc := 122) dX12_findHeard_122 ?_
      refine j_imul (pc := 123) dX12_findHeard_123 ?_
      refine j_iload_n (pc := 124) dX12_findHeard_124 rfl ?_
      refine j_bipush (pc := 125) dX12_findHeard_125 (by decide) ?_
      refine j_irem (pc := 127) dX12_findHeard_127 (by omega) (by omega) ?_
      refine j_iadd (pc := 128) dX12_findHeard_128 ?_
      refine j_dup2 (pc := 129) dX12_findHeard_129 ?_
      rw [show (8 : Int) * ((m : Int) + 1) + (k : Int) % 8 = ((8 * (m + 1) + k % 8 : Nat) : Int) by omega]
      refine j_lald_b (pc := 130) (8 * (m + 1) + k % 8) dX12_findHeard_130 rfl (by decide) (by decide) (by omega) (by omega) ?_
      refine j_aload_n (pc := 131) dX12_findHeard_131 rfl ?_
      refine j_getR (pc := 132) f_X12_52 dX12_findHeard_132 rfl rfl (by decide) rfl ?_
      refine j_bipush (pc := 135) dX12_findHeard_135 (by decide) ?_
      refine j_iload_n (pc := 137) dX12_findHeard_137 rfl ?_
      refine j_imul (pc := 138) dX12_findHeard_138 ?_
      refine j_iload_n (pc := 139) dX12_findHeard_139 rfl ?_
      refine j_iadd (pc := 140) dX12_findHeard_140 ?_
      have hop := isOp_at hO hm (show k < 64 by omega)
      refine j_zald_b (pc := 141) (64 * m + k) dX12_findHeard_141 rfl (by decide) (by decide) (by omega) (by omega) ?_
      refine j_if_eq (pc := 142) 162 dX12_findHeard_142 (by decide) (by omega) (fun h_142 => ?_) (fun h_142 => ?_)
      · refine j_lconst0 (pc := 162) dX12_findHeard_162 ?_
        refine hnew (by omega) _ ?_
        rcases hop with ⟨e1, e2⟩ | ⟨e1, e2⟩
        · first
            | omega
            | (rw [ind_t e2, Int.one_mul, hC1 m (k / 8) (by omega) (by omega)])
        · first
            | omega
            | (rw [ind_f e2, Int.zero_mul])
      · refine j_aload_n (pc := 145) dX12_findHeard_145 rfl ?_
        refine j_getR (pc := 146) f_X12_45 dX12_findHeard_146 rfl rfl (by decide) rfl ?_
        refine j_bipush (pc := 149) dX12_findHeard_149 (by decide) ?_
        refine j_iload_n (pc := 151) dX12_findHeard_151 rfl ?_
        refine j_imul (pc := 152) dX12_findHeard_152 ?_
        refine j_iload_n (pc := 153) dX12_findHeard_153 rfl ?_
        refine j_bipush (pc := 154) dX12_findHeard_154 (by decide) ?_
        refine j_idiv (pc := 156) dX12_findHeard_156 (by omega) (by omega) ?_
        refine j_iadd (pc := 157) dX12_findHeard_157 ?_
        refine j_lald_b (pc := 158) (8 * m + k / 8) dX12_findHeard_158 rfl (by decide) (by decide) (by omega) (by omega) ?_
        refine j_goto (pc := 159) 163 dX12_findHeard_159 (by decide) ?_
        refine hnew (by omega) _ ?_
        rcases hop with ⟨e1, e2⟩ | ⟨e1, e2⟩
        · first
            | omega
            | (rw [ind_t e2, Int.one_mul, hC1 m (k / 8) (by omega) (by omega)])
        · first
            | omega
            | (rw [ind_f e2, Int.zero_mul])
  have k100 : ∀ (m : Nat) (J0 : jMI), m ≤ 12 → hdK I J0 → isOp f (J0 118) 12 → (∀ m' a, m' ≤ m → a < 8 → J0 116 (8 * m' + a) = cm f m' a) → (∀ i, 8 * (m + 1) ≤ i → i < 104 → J0 116 i = 0) → (∀ i, i < 104 → J0 117 i = if i < 96 then 0 else 1) → ∀ x2, S_X12_findHeard X 100 [some (jR 105), some (jI m), x2] [] J0 q := by
    refine mu2 (fun m _ => 12 - m) _ (fun m J0 ih hm hE hO hC1 hC0 hN x2 => ?_)
    refine j_iload_n (pc := 100) dX12_findHeard_100 rfl ?_
    refine j_bipush (pc := 101) dX12_findHeard_101 (by decide) ?_
    refine j_icmp_ge (pc := 103) 177 dX12_findHeard_103 (by decide) (by omega) (by omega) (fun h_103 => ?_) (fun h_103 => ?_)
    · refine j_bipush (pc := 177) dX12_findHeard_177 (by decide) ?_
      refine j_istore_n1 (pc := 179) dX12_findHeard_179 (by decide) rfl ?_
      obtain rfl : m = 12 := by omega
      refine k180 12 J0 (by omega) hE hO (fun m a h1 h2 => hC1 m a h1 h2) (fun m' a h1 h2 h3 => ?_) (fun i hi => ?_) _
      · obtain rfl : m' = 12 := by omega
        rw [hN _ (by omega), if_neg (by omega)]
        rfl
      · rw [hN _ (by omega), if_pos (by omega)]
    · refine j_iconst (pc := 106) dX12_findHeard_106 ?_
      refine j_istore_n2 (pc := 107) dX12_findHeard_107 (by decide) rfl ?_
      refine k108 m (by omega) (fun J1 y2 g1 g2 g3 g4 g5 => ?_) 0 J0 (by omega) hE hO hC1 (fun i h1 h2 => hC0 i (by omega) h2) hN (fun b hb => ?_)
      · refine j_iinc1 (pc := 171) dX12_findHeard_171 (by decide) rfl ?_
        refine j_goto (pc := 174) 100 dX12_findHeard_174 (by decide) ?_
        exact ih (m + 1) J1 (by omega) (by omega) g1 g2 g3 g4 g5 _
      · rw [hC0 (8 * (m + 1) + b) (by omega) (by omega), show (0 + 7 - b) / 8 = 0 by omega]
        rfl
  -- both rows begin
  have k54 : ∀ (k : Nat) (J0 : jMI), k ≤ 104 → hdK I J0 → isOp f (J0 118) 12 → (∀ i, i < k → J0 116 i = if i = 0 then 1 else 0) → (∀ i, i < k → J0 117 i = if i < 96 then 0 else 1) → ∀ x2, S_X12_findHeard X 54 [some (jR 105), some (jI k), x2] [] J0 q := by
    refine mu2 (fun k _ => 104 - k) _ (fun k J0 ih hk hE hO hC hN x2 => ?_)
    have k74 : k < 104 → ∀ v : Int, v = (if k = 0 then 1 else 0) → S_X12_findHeard X 74 [some (jR 105), some (jI k), x2] [jL v, jI k, jR 116] J0 q := by
      intro hk1 v hv
      refine j_last_b (pc := 74) (k) dX12_findHeard_74 rfl (by decide) (by decide) (by omega) (by omega) ?_
      refine j_aload_n (pc := 75) dX12_findHeard_75 rfl ?_
      refine j_getR (pc := 76) f_X12_49 dX12_findHeard_76 rfl rfl (by decide) rfl ?_
      refine j_iload_n (pc := 79) dX12_findHeard_79 rfl ?_
      refine j_iload_n (pc := 80) dX12_findHeard_80 rfl ?_
      refine j_bipush (pc := 81) dX12_findHeard_81 (by decide) ?_
      refine j_icmp_ge (pc := 83) 90 dX12_findHeard_83 (by decide) (by omega) (by omega) (fun h_83 => ?_) (fun h_83 => ?_)
      · refine j_lconst1 (pc := 90) dX12_findHeard_90 ?_
        refine j_last_b (pc := 91) (k) dX12_findHeard_91 rfl (by decide) (by decide) (by omega) (by omega) ?_
        refine j_iinc1 (pc := 92) dX12_findHeard_92 (by decide) rfl ?_
        refine j_goto (pc := 95) 54 dX12_findHeard_95 (by decide) ?_
        refine ih (k + 1) _ (by omega) (by omega) (fun c h1 h2 h3 h4 => ?_) ?_ (fun i hi => ?_) (fun i hi => ?_) _
        · rw [jSf_n h3, jSf_n h2]; exact hE c h1 h2 h3 h4
        · rw [jSf_n (by decide), jSf_n (by decide)]; exact hO
        · rw [jSf_n (by decide), jSf_s]
          by_cases hik : i = k
          · subst hik; rw [jU_s, hv]
          · rw [jU_n hik]; exact hC i (by omega)
        · rw [jSf_s, jSf_n (by decide)]
          by_cases hik : i = k
          · subst hik; rw [jU_s]; split <;> omega
          · rw [jU_n hik]; exact hN i (by omega)
      · refine j_lconst0 (pc := 86) dX12_findHeard_86 ?_
        refine j_goto (pc := 87) 91 dX12_findHeard_87 (by decide) ?_
        refine j_last_b (pc := 91) (k) dX12_findHeard_91 rfl (by decide) (by decide) (by omega) (by omega) ?_
        refine j_iinc1 (pc := 92) dX12_findHeard_92 (by decide) rfl ?_
        refine j_goto (pc := 95) 54 dX12_findHeard_95 (by decide) ?_
        refine ih (k + 1) _ (by omega) (by omega) (fun c h1 h2 h3 h4 => ?_) ?_ (fun i hi => ?_) (fun i hi => ?_) _
        · rw [jSf_n h3, jSf_n h2]; exact hE c h1 h2 h3 h4
        · rw [jSf_n (by decide), jSf_n (by decide)]; exact hO
        · rw [jSf_n (by decide), jSf_s]
          by_cases hik : i = k
          · subst hik; rw [jU_s, hv]
          · rw [jU_n hik]; exact hC i (by omega)
        · rw [jSf_s, jSf_n (by decide)]
          by_cases hik : i = k
          · subst hik; rw [jU_s]; split <;> omega
          · rw [jU_n hik]; exact hN i (by omega)
    refine j_iload_n (pc := 54) dX12_findHeard_54 rfl ?_
    refine j_bipush (pc := 55) dX12_findHeard_55 (by decide) ?_
    refine j_icmp_ge (pc := 57) 98 dX12_findHeard_57 (by decide) (by omega) (by omega) (fun h_57 => ?_) (fun h_57 => ?_)
    · refine j_iconst (pc := 98) dX12_findHeard_98 ?_
      refine j_istore_n1 (pc := 99) dX12_findHeard_99 (by decide) rfl ?_
      refine k100 0 J0 (by omega) hE hO (fun m' a h1 h2 => ?_) (fun i h1 h2 => ?_) (fun i hi => hN i (by omega)) _
      · obtain rfl : m' = 0 := by omega
        rw [hC _ (by omega)]
        simp [cm]
      · rw [hC i (by omega), if_neg (by omega)]
    · refine j_aload_n (pc := 60) dX12_findHeard_60 rfl ?_
      refine j_getR (pc := 61) f_X12_45 dX12_findHeard_61 rfl rfl (by decide) rfl ?_
      refine j_iload_n (pc := 64) dX12_findHeard_64 rfl ?_
      refine j_iload_n (pc := 65) dX12_findHeard_65 rfl ?_
      refine j_if_ne (pc := 66) 73 dX12_findHeard_66 (by decide) (by omega) (fun h_66 => ?_) (fun h_66 => ?_)
      · refine j_lconst0 (pc := 73) dX12_findHeard_73 ?_
        exact k74 (by omega) _ (by split <;> omega)
      · refine j_lconst1 (pc := 69) dX12_findHeard_69 ?_
        refine j_goto (pc := 70) 74 dX12_findHeard_70 (by decide) ?_
        exact k74 (by omega) _ (by split <;> omega)
  -- which steps fit
  have k10 : ∀ (m : Nat), m < 12 → (∀ (J1 : jMI) x2, hdK I J1 → isOp f (J1 118) (m + 1) → S_X12_findHeard X 46 [some (jR 105), some (jI m), x2] [] J1 q) → ∀ (k : Nat) (J0 : jMI), k ≤ 64 → hdK I J0 → isOp f (J0 118) m → (∀ i, i < k → (J0 118 (64 * m + i) = 1 ∧ ldP f m (i / 8) (i % 8)) ∨ (J0 118 (64 * m + i) = 0 ∧ ¬ ldP f m (i / 8) (i % 8))) → S_X12_findHeard X 10 [some (jR 105), some (jI m), some (jI k)] [] J0 q := by
    intro m hm hx
    refine mu2 (fun k _ => 64 - k) _ (fun k J0 ih hk hE hO hg => ?_)
    have e6 : J0 106 = f := (hE 106 (by omega) (by omega) (by omega) (by omega)).trans hf
    refine j_iload_n (pc := 10) dX12_findHeard_10 rfl ?_
    refine j_bipush (pc := 11) dX12_findHeard_11 (by decide) ?_
    refine j_icmp_ge (pc := 13) 46 dX12_findHeard_13 (by decide) (by omega) (by omega) (fun h_13 => ?_) (fun h_13 => ?_)
    · obtain rfl : k = 64 := by omega
      refine hx J0 _ hE (fun m' a b h1 h2 h3 => ?_)
      by_cases hmm : m' = m
      · subst hmm
        have := hg (8 * a + b) (by omega)
        rw [show (8 * a + b) / 8 = a by omega, show (8 * a + b) % 8 = b by omega] at this
        exact this
      · exact hO m' a b (by omega) h2 h3
    · refine j_aload_n (pc := 16) dX12_findHeard_16 rfl ?_
      refine j_getR (pc := 17) f_X12_52 dX12_findHeard_17 rfl rfl (by decide) rfl ?_
      refine j_bipush (pc := 20) dX12_findHeard_20 (by decide) ?_
      refine j_iload_n (pc := 22) dX12_findHeard_22 rfl ?_
      refine j_imul (pc := 23) dX12_findHeard_23 ?_
      refine j_iload_n (pc := 24) dX12_findHeard_24 rfl ?_
      refine j_iadd (pc := 25) dX12_findHeard_25 ?_
      refine j_aload_n (pc := 26) dX12_findHeard_26 rfl ?_
      refine j_iload_n (pc := 27) dX12_findHeard_27 rfl ?_
      refine j_bipush (pc := 28) dX12_findHeard_28 (by decide) ?_
      refine j_idiv (pc := 30) dX12_findHeard_30 (by omega) (by omega) ?_
      refine j_iload_n (pc := 31) dX12_findHeard_31 rfl ?_
      refine j_bipush (pc := 32) dX12_findHeard_32 (by decide) ?_
      refine j_irem (pc := 34) dX12_findHeard_34 (by omega) (by omega) ?_
      refine j_iload_n (pc := 35) dX12_findHeard_35 rfl ?_
      rw [show (k : Int) / 8 = ((k / 8 : Nat) : Int) by omega, show (k : Int) % 8 = ((k % 8 : Nat) : Int) by omega]
      refine j_goI (pc := 36) (j_runV k_X12_252 m_X12_canBe (c_canBe X J0 (k / 8) (k % 8) m (by omega) (by omega) (by omega) (by rw [e6]; exact hok)) dX12_findHeard_36 rfl (by decide) rfl (by decide) (by decide) rfl rfl (Nat.le_of_ble_eq_true rfl)) (fun r1 I1 h1 => ?_)
      obtain ⟨h1, h2⟩ := h1
      rw [e6] at h1
      refine j_zast_b (pc := 39) (64 * m + k) dX12_findHeard_39 rfl (by decide) (by decide) (by rcases h1 with ⟨rfl, -⟩ | ⟨rfl, -⟩ <;> decide) (by omega) (by omega) ?_
      refine j_iinc2 (pc := 40) dX12_findHeard_40 (by decide) rfl ?_
      refine j_goto (pc := 43) 10 dX12_findHeard_43 (by decide) ?_
      refine ih (k + 1) _ (by omega) (by omega) (fun c g1 g2 g3 g4 => ?_) (fun m' a b g1 g2 g3 => ?_) (fun i hi => ?_)
      · rw [jSf_n g4, h2 c g1]; exact hE c g1 g2 g3 g4
      · rw [jSf_s, jU_n (by omega), h2 118 (by omega)]; exact hO m' a b g1 g2 g3
      · rw [jSf_s]
        by_cases hik : i = k
        · subst hik; rw [jU_s]; exact h1
        · rw [jU_n (by omega), h2 118 (by omega)]; exact hg i (by omega)
  have k2 : ∀ (m : Nat) (J0 : jMI), m ≤ 12 → hdK I J0 → isOp f (J0 118) m → ∀ x2, S_X12_findHeard X 2 [some (jR 105), some (jI m), x2] [] J0 q := by
    refine mu2 (fun m _ => 12 - m) _ (fun m J0 ih hm hE hO x2 => ?_)
    refine j_iload_n (pc := 2) dX12_findHeard_2 rfl ?_
    refine j_bipush (pc := 3) dX12_findHeard_3 (by decide) ?_
    refine j_icmp_ge (pc := 5) 52 dX12_findHeard_5 (by decide) (by omega) (by omega) (fun h_5 => ?_) (fun h_5 => ?_)
    · refine j_iconst (pc := 52) dX12_findHeard_52 ?_
      refine j_istore_n1 (pc := 53) dX12_findHeard_53 (by decide) rfl ?_
      obtain rfl : m = 12 := by omega
      exact k54 0 J0 (by omega) hE hO (fun i hi => by omega) (fun i hi => by omega) _
    · refine j_iconst (pc := 8) dX12_findHeard_8 ?_
      refine j_istore_n2 (pc := 9) dX12_findHeard_9 (by decide) rfl ?_
      refine k10 m (by omega) (fun J1 y2 g1 g2 => ?_) 0 J0 (by omega) hE hO (fun i hi => by omega)
      refine j_iinc1 (pc := 46) dX12_findHeard_46 (by decide) rfl ?_
      refine j_goto (pc := 49) 2 dX12_findHeard_49 (by decide) ?_
      exact ih (m + 1) J1 (by omega) (by omega) g1 g2 _
  refine j_iconst (pc := 0) dX12_findHeard_0 ?_
  refine j_istore_n1 (pc := 1) dX12_findHeard_1 (by decide) rfl ?_
  exact k2 0 I (by omega) (fun _ _ _ _ _ => rfl) (fun m a b h => by omega) _
