/-! ===== the reference: digest ===== -/
def fo (g : Nat → Int) (h : Int) : Nat → Int
  | 0 => h
  | k + 1 => 31 * fo g h k + g k
/-- the sleepers -/
def foS (f : Nat → Int) (h : Int) : Nat → Int
  | 0 => h
  | k + 1 => 31 * (31 * (31 * (31 * foS f h k + f (6 + k)) + f (11 + k)) + f (16 + k)) + (if (f 1).toNat.testBit k then 1 else 0)
/-- the things -/
def foT (f : Nat → Int) (h : Int) : Nat → Int
  | 0 => h
  | k + 1 => fo (fun j => f (32 + 4 * k + j)) (31 * (31 * foT f h k + f (22 + k)) + f (27 + k)) (f (27 + k)).toNat
def dgA (I : jMI) : Int := fo (fun j => I 106 (71 + j)) (fo (cnt I) 1103 7) 28
def dgB (I : jMI) : Int := fo (fun j => I 106 (2 + j)) (foS (I 106) (dgA I) (I 106 5).toNat) 3
def dgC (I : jMI) : Int := fo (fun j => I 106 (53 + j)) (foT (I 106) (dgB I) (I 106 21).toNat) (3 * (I 106 52).toNat)
def dg (I : jMI) : Int := 31 * (31 * dgC I + I 105 1) + I 105 2
theorem okSt_52 {f : Nat → Int} (h : okSt f) : ∃ m : Nat, f 52 = m ∧ m ≤ 6 := by
  have := h 52 (by omega); unfold stLo stHi at this
  obtain ⟨w, hw⟩ := Int.eq_ofNat_of_zero_le (show 0 ≤ f 52 by omega)
  exact ⟨w, hw, by omega⟩
theorem okSt_any {f : Nat → Int} (h : okSt f) {k : Nat} (hk : k < 99) : -1 ≤ f k ∧ f k ≤ 59 := by
  have := h k hk
  unfold stLo stHi at this
  repeat' split at this
  all_goals omega
theorem cnt_rng {I : jMI} (hok : okSt (I 106)) (hu : 0 ≤ I 105 16 ∧ I 105 16 ≤ 8) (ht : 0 ≤ I 105 5 ∧ I 105 5 ≤ 150) (i : Nat) : 0 ≤ cnt I i ∧ cnt I i ≤ 150 := by
  obtain ⟨a, ha, ha5⟩ := okSt_5 hok
  obtain ⟨b, hb, hb5⟩ := okSt_21 hok
  obtain ⟨c, hc, hc5⟩ := okSt_52 hok
  have h0 := okSt_0 hok
  have hp := pop5_le (I 106 1).toNat
  unfold cnt
  repeat' split
  all_goals omega
set_option maxHeartbeats 8000000 in
theorem c_mdigest (X : jX) (I : jMI) (q : Int → jMI → Prop) (hok : okSt (I 106)) (hu : 0 ≤ I 105 16 ∧ I 105 16 ≤ 8) (ht : 0 ≤ I 105 5 ∧ I 105 5 ≤ 150) (q1 : q (dg I) I) : C_X12_digest X [jR 105] I q := by
  refine CG.of (by decide) [some (jR 105), none, none, none, none] rfl (Nat.le_of_ble_eq_true rfl) ?_
  obtain ⟨S, hS, hS5⟩ := okSt_5 hok
  obtain ⟨T, hT, hT5⟩ := okSt_21 hok
  obtain ⟨H, hH, hH6⟩ := okSt_52 hok
  obtain ⟨aw, haw, haw32⟩ := okSt_1 hok
  have eB : dgB I = fo (fun j => I 106 (2 + j)) (foS (I 106) (dgA I) S) 3 := by unfold dgB; rw [hS, Int.toNat_natCast]
  have eC : dgC I = fo (fun j => I 106 (53 + j)) (foT (I 106) (dgB I) T) (3 * H) := by unfold dgC; rw [hT, hH, Int.toNat_natCast, Int.toNat_natCast]
  have k278 : ∀ (k : Nat), k ≤ 3 * H → ∀ x4, S_X12_digest X 278 [some (jR 105), some (jL (fo (fun j => I 106 (53 + j)) (foT (I 106) (dgB I) T) k)), none, some (jI k), x4] [] I q := by
    refine mu1 (fun k => 18 - k) _ (fun k ih hk x4 => ?_)
    refine j_iload_n (pc := 278) dX12_digest_278 rfl ?_
    refine j_iconst (pc := 279) dX12_digest_279 ?_
    refine j_aload_n (pc := 280) dX12_digest_280 rfl ?_
    refine j_getR (pc := 281) f_X12_7 dX12_digest_281 rfl rfl (by decide) rfl ?_
    refine j_bipush (pc := 284) dX12_digest_284 (by decide) ?_
    refine j_iald_b (pc := 286) (52) dX12_digest_286 rfl (by decide) (by decide) (by omega) (by omega) ?_
    rw [hH]
    refine j_imul (pc := 287) dX12_digest_287 ?_
    refine j_icmp_ge (pc := 288) 314 dX12_digest_288 (by decide) (by omega) (by omega) (fun h_288 => ?_) (fun h_288 => ?_)
    · refine j_ldc2 (pc := 314) cl_X12_294 dX12_digest_314 ?_
      refine j_lload_n (pc := 317) dX12_digest_317 rfl ?_
      refine j_lmul (pc := 318) dX12_digest_318 ?_
      refine j_aload_n (pc := 319) dX12_digest_319 rfl ?_
      refine j_getL (pc := 320) f_X12_263 dX12_digest_320 rfl rfl (by decide) ?_
      refine j_ladd (pc := 323) dX12_digest_323 ?_
      refine j_lstore_n1 (pc := 324) dX12_digest_324 (by decide) rfl ?_
      refine j_ldc2 (pc := 325) cl_X12_294 dX12_digest_325 ?_
      refine j_lload_n (pc := 328) dX12_digest_328 rfl ?_
      refine j_lmul (pc := 329) dX12_digest_329 ?_
      refine j_aload_n (pc := 330) dX12_digest_330 rfl ?_
      refine j_getL (pc := 331) f_X12_13 dX12_digest_331 rfl rfl (by decide) ?_
      refine j_ladd (pc := 334) dX12_digest_334 ?_
      refine j_retl dX12_digest_335 (?_) rfl
      obtain rfl : k = 3 * H := by omega
      rw [← eC]
      exact q1
    · refine j_ldc2 (pc := 291) cl_X12_294 dX12_digest_291 ?_
      refine j_lload_n (pc := 294) dX12_digest_294 rfl ?_
      refine j_lmul (pc := 295) dX12_digest_295 ?_
      refine j_aload_n (pc := 296) dX12_digest_296 rfl ?_
      refine j_getR (pc := 297) f_X12_7 dX12_digest_297 rfl rfl (by decide) rfl ?_
      refine j_bipush (pc := 300) dX12_digest_300 (by decide) ?_
      refine j_iload_n (pc := 302) dX12_digest_302 rfl ?_
      refine j_iadd (pc := 303) dX12_digest_303 ?_
      refine j_iald_b (pc := 304) (53 + k) dX12_digest_304 rfl (by decide) (by decide) (by omega) (by omega) ?_
      have hr := okSt_any hok (k := 53 + k) (by omega)
      refine j_i2l (pc := 305) dX12_digest_305 (by omega) ?_
      refine j_ladd (pc := 306) dX12_digest_306 ?_
      refine j_lstore_n1 (pc := 307) dX12_digest_307 (by decide) rfl ?_
      refine j_iinc3 (pc := 308) dX12_digest_308 (by decide) rfl ?_
      refine j_goto (pc := 311) 278 dX12_digest_311 (by decide) ?_
      exact ih (k + 1) (by omega) (by omega) _
  have k180 : ∀ (k : Nat), k ≤ T → ∀ x4, S_X12_digest X 180 [some (jR 105), some (jL (foT (I 106) (dgB I) k)), none, some (jI k), x4] [] I q := by
    refine mu1 (fun k => 5 - k) _ (fun k ih hk x4 => ?_)
    have k228 : k < T → ∀ (c : Nat), I 106 (27 + k) = c → c ≤ 4 → ∀ (z : Nat), z ≤ c → S_X12_digest X 228 [some (jR 105), some (jL (fo (fun j => I 106 (32 + 4 * k + j)) (31 * (31 * foT (I 106) (dgB I) k + I 106 (22 + k)) + I 106 (27 + k)) z)), none, some (jI k), some (jI z)] [] I q := by
      intro hkT c hc hc4
      refine mu1 (fun z => 4 - z) _ (fun z ihz hz => ?_)
      refine j_iload (pc := 228) dX12_digest_228 rfl ?_
      refine j_aload_n (pc := 230) dX12_digest_230 rfl ?_
      refine j_getR (pc := 231) f_X12_7 dX12_digest_231 rfl rfl (by decide) rfl ?_
      refine j_bipush (pc := 234) dX12_digest_234 (by decide) ?_
      refine j_iload_n (pc := 236) dX12_digest_236 rfl ?_
      refine j_iadd (pc := 237) dX12_digest_237 ?_
      refine j_iald_b (pc := 238) (27 + k) dX12_digest_238 rfl (by decide) (by decide) (by omega) (by omega) ?_
      refine j_icmp_ge (pc := 239) 270 dX12_digest_239 (by decide) (by omega) (by omega) (fun h_239 => ?_) (fun h_239 => ?_)
      · refine j_iinc3 (pc := 270) dX12_digest_270 (by decide) rfl ?_
        refine j_goto (pc := 273) 180 dX12_digest_273 (by decide) ?_
        obtain rfl : z = c := by omega
        have hy := ih (k + 1) (by omega) (by omega) (some (jI z))
        have e : foT (I 106) (dgB I) (k + 1) = fo (fun j => I 106 (32 + 4 * k + j)) (31 * (31 * foT (I 106) (dgB I) k + I 106 (22 + k)) + I 106 (27 + k)) (I 106 (27 + k)).toNat := rfl
        rw [show (I 106 (27 + k)).toNat = z by rw [hc, Int.toNat_natCast]] at e
        rw [e] at hy
        exact hy
      · refine j_ldc2 (pc := 242) cl_X12_294 dX12_digest_242 ?_
        refine j_lload_n (pc := 245) dX12_digest_245 rfl ?_
        refine j_lmul (pc := 246) dX12_digest_246 ?_
        refine j_aload_n (pc := 247) dX12_digest_247 rfl ?_
        refine j_getR (pc := 248) f_X12_7 dX12_digest_248 rfl rfl (by decide) rfl ?_
        refine j_bipush (pc := 251) dX12_digest_251 (by decide) ?_
        refine j_iconst (pc := 253) dX12_digest_253 ?_
        refine j_iload_n (pc := 254) dX12_digest_254 rfl ?_
        refine j_imul (pc := 255) dX12_digest_255 ?_
        refine j_iadd (pc := 256) dX12_digest_256 ?_
        refine j_iload (pc := 257) dX12_digest_257 rfl ?_
        refine j_iadd (pc := 259) dX12_digest_259 ?_
        refine j_iald_b (pc := 260) (32 + 4 * k + z) dX12_digest_260 rfl (by decide) (by decide) (by omega) (by omega) ?_
        have hr := okSt_any hok (k := 32 + 4 * k + z) (by omega)
        refine j_i2l (pc := 261) dX12_digest_261 (by omega) ?_
        refine j_ladd (pc := 262) dX12_digest_262 ?_
        refine j_lstore_n1 (pc := 263) dX12_digest_263 (by decide) rfl ?_
        refine j_iinc4 (pc := 264) dX12_digest_264 (by decide) rfl ?_
        refine j_goto (pc := 267) 228 dX12_digest_267 (by decide) ?_
        exact ihz (z + 1) (by omega) (by omega)
    refine j_iload_n (pc := 180) dX12_digest_180 rfl ?_
    refine j_aload_n (pc := 181) dX12_digest_181 rfl ?_
    refine j_getR (pc := 182) f_X12_7 dX12_digest_182 rfl rfl (by decide) rfl ?_
    refine j_bipush (pc := 185) dX12_digest_185 (by decide) ?_
    refine j_iald_b (pc := 187) (21) dX12_digest_187 rfl (by decide) (by decide) (by omega) (by omega) ?_
    rw [hT]
    refine j_icmp_ge (pc := 188) 276 dX12_digest_188 (by decide) (by omega) (by omega) (fun h_188 => ?_) (fun h_188 => ?_)
    · refine j_iconst (pc := 276) dX12_digest_276 ?_
      refine j_istore_n3 (pc := 277) dX12_digest_277 (by decide) rfl ?_
      obtain rfl : k = T := by omega
      exact k278 0 (by omega) _
    · refine j_ldc2 (pc := 191) cl_X12_294 dX12_digest_191 ?_
      refine j_lload_n (pc := 194) dX12_digest_194 rfl ?_
      refine j_lmul (pc := 195) dX12_digest_195 ?_
      refine j_aload_n (pc := 196) dX12_digest_196 rfl ?_
      refine j_getR (pc := 197) f_X12_7 dX12_digest_197 rfl rfl (by decide) rfl ?_
      refine j_bipush (pc := 200) dX12_digest_200 (by decide) ?_
      refine j_iload_n (pc := 202) dX12_digest_202 rfl ?_
      refine j_iadd (pc := 203) dX12_digest_203 ?_
      refine j_iald_b (pc := 204) (22 + k) dX12_digest_204 rfl (by decide) (by decide) (by omega) (by omega) ?_
      have hr := okSt_any hok (k := 22 + k) (by omega)
      refine j_i2l (pc := 205) dX12_digest_205 (by omega) ?_
      refine j_ladd (pc := 206) dX12_digest_206 ?_
      refine j_lstore_n1 (pc := 207) dX12_digest_207 (by decide) rfl ?_
      refine j_ldc2 (pc := 208) cl_X12_294 dX12_digest_208 ?_
      refine j_lload_n (pc := 211) dX12_digest_211 rfl ?_
      refine j_lmul (pc := 212) dX12_digest_212 ?_
      refine j_aload_n (pc := 213) dX12_digest_213 rfl ?_
      refine j_getR (pc := 214) f_X12_7 dX12_digest_214 rfl rfl (by decide) rfl ?_
      refine j_bipush (pc := 217) dX12_digest_217 (by decide) ?_
      refine j_iload_n (pc := 219) dX12_digest_219 rfl ?_
      refine j_iadd (pc := 220) dX12_digest_220 ?_
      refine j_iald_b (pc := 221) (27 + k) dX12_digest_221 rfl (by decide) (by decide) (by omega) (by omega) ?_
      have hr2 := okSt_any hok (k := 27 + k) (by omega)
      refine j_i2l (pc := 222) dX12_digest_222 (by omega) ?_
      refine j_ladd (pc := 223) dX12_digest_223 ?_
      refine j_lstore_n1 (pc := 224) dX12_digest_224 (by decide) rfl ?_
      refine j_iconst (pc := 225) dX12_digest_225 ?_
      refine j_istore4 (pc := 226) dX12_digest_226 (by decide) rfl ?_
      obtain ⟨c, hc, hc4⟩ := okSt_27 hok (show k < 5 by omega)
      exact k228 (by omega) c hc hc4 0 (by omega)
  have k151 : ∀ (k : Nat), k ≤ 3 → ∀ x4, S_X12_digest X 151 [some (jR 105), some (jL (fo (fun j => I 106 (2 + j)) (foS (I 106) (dgA I) S) k)), none, some (jI k), x4] [] I q := by
    refine mu1 (fun k => 3 - k) _ (fun k ih hk x4 => ?_)
    refine j_iload_n (pc := 151) dX12_digest_151 rfl ?_
    refine j_iconst (pc := 152) dX12_digest_152 ?_
    refine j_icmp_ge (pc := 153) 178 dX12_digest_153 (by decide) (by omega) (by omega) (fun h_153 => ?_) (fun h_153 => ?_)
    · refine j_iconst (pc := 178) dX12_digest_178 ?_
      refine j_istore_n3 (pc := 179) dX12_digest_179 (by decide) rfl ?_
      obtain rfl : k = 3 := by omega
      rw [← eB]
      exact k180 0 (by omega) _
    · refine j_ldc2 (pc := 156) cl_X12_294 dX12_digest_156 ?_
      refine j_lload_n (pc := 159) dX12_digest_159 rfl ?_
      refine j_lmul (pc := 160) dX12_digest_160 ?_
      refine j_aload_n (pc := 161) dX12_digest_161 rfl ?_
      refine j_getR (pc := 162) f_X12_7 dX12_digest_162 rfl rfl (by decide) rfl ?_
      refine j_iconst (pc := 165) dX12_digest_165 ?_
      refine j_iload_n (pc := 166) dX12_digest_166 rfl ?_
      refine j_iadd (pc := 167) dX12_digest_167 ?_
      refine j_iald_b (pc := 168) (2 + k) dX12_digest_168 rfl (by decide) (by decide) (by omega) (by omega) ?_
      have hr := okSt_any hok (k := 2 + k) (by omega)
      refine j_i2l (pc := 169) dX12_digest_169 (by omega) ?_
      refine j_ladd (pc := 170) dX12_digest_170 ?_
      refine j_lstore_n1 (pc := 171) dX12_digest_171 (by decide) rfl ?_
      refine j_iinc3 (pc := 172) dX12_digest_172 (by decide) rfl ?_
      refine j_goto (pc := 175) 151 dX12_digest_175 (by decide) ?_
      exact ih (k + 1) (by omega) (by omega) _
  have k64 : ∀ (k : Nat), k ≤ S → ∀ x4, S_X12_digest X 64 [some (jR 105), some (jL (foS (I 106) (dgA I) k)), none, some (jI k), x4] [] I q := by
    refine mu1 (fun k => 5 - k) _ (fun k ih hk x4 => ?_)
    have e : foS (I 106) (dgA I) (k + 1) = 31 * (31 * (31 * (31 * foS (I 106) (dgA I) k + I 106 (6 + k)) + I 106 (11 + k)) + I 106 (16 + k)) + (if (I 106 1).toNat.testBit k then 1 else 0) := rfl
    rw [haw, Int.toNat_natCast] at e
    refine j_iload_n (pc := 64) dX12_digest_64 rfl ?_
    refine j_aload_n (pc := 65) dX12_digest_65 rfl ?_
    refine j_getR (pc := 66) f_X12_7 dX12_digest_66 rfl rfl (by decide) rfl ?_
    refine j_iconst (pc := 69) dX12_digest_69 ?_
    refine j_iald_b (pc := 70) (5) dX12_digest_70 rfl (by decide) (by decide) (by omega) (by omega) ?_
    rw [hS]
    refine j_icmp_ge (pc := 71) 149 dX12_digest_71 (by decide) (by omega) (by omega) (fun h_71 => ?_) (fun h_71 => ?_)
    · refine j_iconst (pc := 149) dX12_digest_149 ?_
      refine j_istore_n3 (pc := 150) dX12_digest_150 (by decide) rfl ?_
      obtain rfl : k = S := by omega
      exact k151 0 (by omega) _
    · refine j_ldc2 (pc := 74) cl_X12_294 dX12_digest_74 ?_
      refine j_lload_n (pc := 77) dX12_digest_77 rfl ?_
      refine j_lmul (pc := 78) dX12_digest_78 ?_
      refine j_aload_n (pc := 79) dX12_digest_79 rfl ?_
      refine j_getR (pc := 80) f_X12_7 dX12_digest_80 rfl rfl (by decide) rfl ?_
      refine j_bipush (pc := 83) dX12_digest_83 (by decide) ?_
      refine j_iload_n (pc := 85) dX12_digest_85 rfl ?_
      refine j_iadd (pc := 86) dX12_digest_86 ?_
      refine j_iald_b (pc := 87) (6 + k) dX12_digest_87 rfl (by decide) (by decide) (by omega) (by omega) ?_
      have hr := okSt_any hok (k := 6 + k) (by omega)
      refine j_i2l (pc := 88) dX12_digest_88 (by omega) ?_
      refine j_ladd (pc := 89) dX12_digest_89 ?_
      refine j_lstore_n1 (pc := 90) dX12_digest_90 (by decide) rfl ?_
      refine j_ldc2 (pc := 91) cl_X12_294 dX12_digest_91 ?_
      refine j_lload_n (pc := 94) dX12_digest_94 rfl ?_
      refine j_lmul (pc := 95) dX12_digest_95 ?_
      refine j_aload_n (pc := 96) dX12_digest_96 rfl ?_
      refine j_getR (pc := 97) f_X12_7 dX12_digest_97 rfl rfl (by decide) rfl ?_
      refine j_bipush (pc := 100) dX12_digest_100 (by decide) ?_
      refine j_iload_n (pc := 102) dX12_digest_102 rfl ?_
      refine j_iadd (pc := 103) dX12_digest_103 ?_
      refine j_iald_b (pc := 104) (11 + k) dX12_digest_104 rfl (by decide) (by decide) (by omega) (by omega) ?_
      have hr2 := okSt_any hok (k := 11 + k) (by omega)
      refine j_i2l (pc := 105) dX12_digest_105 (by omega) ?_
      refine j_ladd (pc := 106) dX12_digest_106 ?_
      refine j_lstore_n1 (pc := 107) dX12_digest_107 (by decide) rfl ?_
      refine j_ldc2 (pc := 108) cl_X12_294 dX12_digest_108 ?_
      refine j_lload_n (pc := 111) dX12_digest_111 rfl ?_
      refine j_lmul (pc := 112) dX12_digest_112 ?_
      refine j_aload_n (pc := 113) dX12_digest_113 rfl ?_
      refine j_getR (pc := 114) f_X12_7 dX12_digest_114 rfl rfl (by decide) rfl ?_
      refine j_bipush (pc := 117) dX12_digest_117 (by decide) ?_
      refine j_iload_n (pc := 119) dX12_digest_119 rfl ?_
      refine j_iadd (pc := 120) dX12_digest_120 ?_
      refine j_iald_b (pc := 121) (16 + k) dX12_digest_121 rfl (by decide) (by decide) (by omega) (by omega) ?_
      have hr3 := okSt_any hok (k := 16 + k) (by omega)
      refine j_i2l (pc := 122) dX12_digest_122 (by omega) ?_
      refine j_ladd (pc := 123) dX12_digest_123 ?_
      refine j_lstore_n1 (pc := 124) dX12_digest_124 (by decide) rfl ?_
      refine j_ldc2 (pc := 125) cl_X12_294 dX12_digest_125 ?_
      refine j_lload_n (pc := 128) dX12_digest_128 rfl ?_
      refine j_lmul (pc := 129) dX12_digest_129 ?_
      refine j_aload_n (pc := 130) dX12_digest_130 rfl ?_
      refine j_getR (pc := 131) f_X12_7 dX12_digest_131 rfl rfl (by decide) rfl ?_
      refine j_iconst (pc := 134) dX12_digest_134 ?_
      refine j_iald_b (pc := 135) (1) dX12_digest_135 rfl (by decide) (by decide) (by omega) (by omega) ?_
      rw [haw]
      refine j_iload_n (pc := 136) dX12_digest_136 rfl ?_
      refine j_ishr (pc := 137) dX12_digest_137 ?_
      refine j_iconst (pc := 138) dX12_digest_138 ?_
      refine j_iand (pc := 139) dX12_digest_139 ?_
      rw [jbit (by omega) (by omega)]
      refine j_i2l (pc := 140) dX12_digest_140 (by split <;> omega) ?_
      refine j_ladd (pc := 141) dX12_digest_141 ?_
      refine j_lstore_n1 (pc := 142) dX12_digest_142 (by decide) rfl ?_
      refine j_iinc3 (pc := 143) dX12_digest_143 (by decide) rfl ?_
      refine j_goto (pc := 146) 64 dX12_digest_146 (by decide) ?_
      have hy := ih (k + 1) (by omega) (by omega) x4
      rw [e] at hy
      exact hy
  have k33 : ∀ (k : Nat), k ≤ 28 → ∀ x4, S_X12_digest X 33 [some (jR 105), some (jL (fo (fun j => I 106 (71 + j)) (fo (cnt I) 1103 7) k)), none, some (jI k), x4] [] I q := by
    refine mu1 (fun k => 28 - k) _ (fun k ih hk x4 => ?_)
    refine j_iload_n (pc := 33) dX12_digest_33 rfl ?_
    refine j_bipush (pc := 34) dX12_digest_34 (by decide) ?_
    refine j_icmp_ge (pc := 36) 62 dX12_digest_36 (by decide) (by omega) (by omega) (fun h_36 => ?_) (fun h_36 => ?_)
    · refine j_iconst (pc := 62) dX12_digest_62 ?_
      refine j_istore_n3 (pc := 63) dX12_digest_63 (by decide) rfl ?_
      obtain rfl : k = 28 := by omega
      exact k64 0 (by omega) _
    · refine j_ldc2 (pc := 39) cl_X12_294 dX12_digest_39 ?_
      refine j_lload_n (pc := 42) dX12_digest_42 rfl ?_
      refine j_lmul (pc := 43) dX12_digest_43 ?_
      refine j_aload_n (pc := 44) dX12_digest_44 rfl ?_
      refine j_getR (pc := 45) f_X12_7 dX12_digest_45 rfl rfl (by decide) rfl ?_
      refine j_bipush (pc := 48) dX12_digest_48 (by decide) ?_
      refine j_iload_n (pc := 50) dX12_digest_50 rfl ?_
      refine j_iadd (pc := 51) dX12_digest_51 ?_
      refine j_iald_b (pc := 52) (71 + k) dX12_digest_52 rfl (by decide) (by decide) (by omega) (by omega) ?_
      have hr := okSt_any hok (k := 71 + k) (by omega)
      refine j_i2l (pc := 53) dX12_digest_53 (by omega) ?_
      refine j_ladd (pc := 54) dX12_digest_54 ?_
      refine j_lstore_n1 (pc := 55) dX12_digest_55 (by decide) rfl ?_
      refine j_iinc3 (pc := 56) dX12_digest_56 (by decide) rfl ?_
      refine j_goto (pc := 59) 33 dX12_digest_59 (by decide) ?_
      exact ih (k + 1) (by omega) (by omega) _
  have k6 : ∀ (k : Nat), k ≤ 7 → ∀ x4, S_X12_digest X 6 [some (jR 105), some (jL (fo (cnt I) 1103 k)), none, some (jI k), x4] [] I q := by
    refine mu1 (fun k => 7 - k) _ (fun k ih hk x4 => ?_)
    have hr := cnt_rng hok hu ht k
    refine j_iload_n (pc := 6) dX12_digest_6 rfl ?_
    refine j_bipush (pc := 7) dX12_digest_7 (by decide) ?_
    refine j_icmp_ge (pc := 9) 31 dX12_digest_9 (by decide) (by omega) (by omega) (fun h_9 => ?_) (fun h_9 => ?_)
    · refine j_iconst (pc := 31) dX12_digest_31 ?_
      refine j_istore_n3 (pc := 32) dX12_digest_32 (by decide) rfl ?_
      obtain rfl : k = 7 := by omega
      exact k33 0 (by omega) _
    · refine j_ldc2 (pc := 12) cl_X12_294 dX12_digest_12 ?_
      refine j_lload_n (pc := 15) dX12_digest_15 rfl ?_
      refine j_lmul (pc := 16) dX12_digest_16 ?_
      refine j_aload_n (pc := 17) dX12_digest_17 rfl ?_
      refine j_iload_n (pc := 18) dX12_digest_18 rfl ?_
      refine j_goI (pc := 19) (j_runV k_X12_289 m_X12_countOf (c_countOf X I k (by omega) hok) dX12_digest_19 rfl (by decide) rfl (by decide) (by decide) rfl rfl (Nat.le_of_ble_eq_true rfl)) (fun r1 I1 h1 => ?_)
      obtain ⟨rfl, rfl⟩ := h1
      refine j_i2l (pc := 22) dX12_digest_22 (by omega) ?_
      refine j_ladd (pc := 23) dX12_digest_23 ?_
      refine j_lstore_n1 (pc := 24) dX12_digest_24 (by decide) rfl ?_
      refine j_iinc3 (pc := 25) dX12_digest_25 (by decide) rfl ?_
      refine j_goto (pc := 28) 6 dX12_digest_28 (by decide) ?_
      exact ih (k + 1) (by omega) (by omega) _
  refine j_ldc2 (pc := 0) cl_X12_292 dX12_digest_0 ?_
  refine j_lstore_n1 (pc := 3) dX12_digest_3 (by decide) rfl ?_
  refine j_iconst (pc := 4) dX12_digest_4 ?_
  refine j_istore_n3 (pc := 5) dX12_digest_5 (by decide) rfl ?_
  exact k6 0 (by omega) _
