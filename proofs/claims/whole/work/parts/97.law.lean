/-! ===== the law ===== -/
section JS
variable {X : jX} {own nm : String} {cc : ByteArray} {nL : Nat} {ret : Option FieldType} {d bc bs pc : Nat} {L : List (Option jV)} {st : List jV} {I : jMI} {R : jMR} {n : Nat} {Q : Option jV → jMI → jMR → Nat → Prop}
theorem jS_base {X : jX} {I : jMI} {R : jMR} {n : Nat} {s : State} {H : Heap} {locs : List Loc} (h : jH X I R n s H locs) (hE : jE X s) : va_S (jA X) (jHB X) H locs := by
  refine ⟨?_, jH_base h hE, h.2.2.2⟩
  have h1 := hE.2.2.2.1
  have h2 := h.1.2.1
  omega
theorem j_scrL (hd : decode cc pc = .ok (.arraylength, 1)) (kk : J X own nm cc nL ret d bc bs (pc + 1) L (jI ((X.2.2.2.2.2.2.1 : Nat) : Int) :: st) I R n Q) : J X own nm cc nL ret d bc bs pc L (jR 1000 :: st) I R n Q := by
  intro p l e RR s m args below meth c H locs cells slots QQ ls C hc hs1 hH hL hr
  obtain ⟨cx, cb, cm, co, cr, clk, cf, cl, cK, cn⟩ := id C
  have hE := cK.2.2
  have hk := kk p l e RR s m args below meth c H locs cells slots QQ ls C hc hs1 hH hL hr
  have hb : jex X 0 < jB X := hE.2.2.1
  have hsz := hE.2.2.2.1
  have e2 : (jI ((X.2.2.2.2.2.2.1 : Nat) : Int) :: st).map (jv X) = .int (Int32.ofNat X.2.2.2.2.2.2.1) :: st.map (jv X) := by
    show Value.int (Int32.ofInt ((X.2.2.2.2.2.2.1 : Nat) : Int)) :: _ = _
    rw [Int32.ofInt_eq_ofNat]
  rw [e2] at hk
  exact va_slen cx cb hE.1 (show jex X 0 < Array.size (jHB X) by omega) (show ¬ jB X ≤ jex X 0 by omega) (jS_base hH hE) hd hk
theorem j_scrI {i : Int} (j : Nat) (hi : i = (j : Int)) (hj : j < X.2.2.2.2.2.2.1) (hj2 : j ≤ 999) (hd : decode cc pc = .ok (.iaload, 1)) (kk : J X own nm cc nL ret d bc bs (pc + 1) L (jI (X.2.2.2.2.2.2.2 j) :: st) I R n Q) : J X own nm cc nL ret d bc bs pc L (jI i :: jR 1000 :: st) I R n Q := by
  intro p l e RR s m args below meth c H locs cells slots QQ ls C hc hs1 hH hL hr
  obtain ⟨cx, cb, cm, co, cr, clk, cf, cl, cK, cn⟩ := id C
  have hE := cK.2.2
  subst hi
  have hk := kk p l e RR s m args below meth c H locs cells slots QQ ls C hc hs1 hH hL hr
  have hb : jex X 0 < jB X := hE.2.2.1
  have hsz := hE.2.2.2.1
  have hcl : (Int32.ofInt (j : Int)).toNatClampNeg = j := jr_cl (len := 1000) ⟨by omega, by omega⟩ (by omega)
  have hnn : ¬ (Int32.ofInt (j : Int)) < 0 := by
    rw [Int32.lt_iff_toInt_lt, jr_i (by omega)]; show ¬ (j : Int) < 0; omega
  have hin : vp_in (Int32.ofInt (j : Int)) X.2.2.2.2.2.2.1 := by
    rintro (q | q)
    · exact hnn q
    · rw [hcl] at q; omega
  refine va_sld cx cb hE.1 (show jex X 0 < Array.size (jHB X) by omega) (show ¬ jB X ≤ jex X 0 by omega) (jS_base hH hE) hin hd ?_
  rw [hcl]
  exact hk
theorem j_sameL {a : Int} {off : Int} (tgt : Nat) (hd0 : decode cc pc = .ok (.lcmp, 1)) (hd : decode cc (pc + 1) = .ok (.ifCond .eq off, 3)) (ht : ((pc + 1 : Nat) : Int) + off = (tgt : Int)) (k : J X own nm cc nL ret d bc bs tgt L st I R n Q) : J X own nm cc nL ret d bc bs pc L (jL a :: jL a :: st) I R n Q := by
  refine j_lcmp hd0 ?_
  rw [jcmp_self]
  refine j_if_eq tgt hd ht (by omega) (fun _ => k) (fun h => absurd rfl h)
end JS
theorem jband_rng (a b : Int) : -2147483648 ≤ jband a b ∧ jband a b < 2147483648 := by
  unfold jband
  have h1 := Int32.le_toInt (Int32.ofInt a &&& Int32.ofInt b)
  have h2 := Int32.toInt_lt (Int32.ofInt a &&& Int32.ofInt b)
  omega
def lwL (i : Nat) : List (Option jV) := [some (jR 1000), some (jR 0), some (jR 105), some (jI i)]
abbrev lwS (X : jX) (nm : String) (pc : Nat) (L : List (Option jV)) (st : List jV) (I : jMI) : Prop := J X RL nm cL_law 4 (some .boolean) 9 0 0 pc L st I RF 124 (jQi (fun r _ => r = 1))
set_option maxHeartbeats 1000000 in
theorem lw_0 (X : jX) (nm : String) (i : Nat) (I : jMI) (hI : Inv I) (hL : X.2.2.2.2.2.2.1 ≤ 320) (hi : i + 5 ≤ X.2.2.2.2.2.2.1) (hx : ∀ j, -2147483648 ≤ X.2.2.2.2.2.2.2 j ∧ X.2.2.2.2.2.2.2 j < 2147483648) (kn : ∀ I', Inv I' → lwS X nm 1126 (lwL i) [] I') : lwS X nm 188 (lwL i) [] I := by
  refine j_aload_n (pc := 188) dL_law_188 rfl ?_
  refine j_goI (pc := 189) (j_runV k_L_13 m_X11_house (o_house X I hI) dL_law_189 rfl (by decide) rfl (by decide) (by decide) rfl rfl (Nat.le_of_ble_eq_true rfl)) (fun r1 I1 h1 => ?_)
  refine j_aload_n (pc := 192) dL_law_192 rfl ?_
  refine j_goI (pc := 193) (j_runV k_L_17 m_X12_house (h1) dL_law_193 rfl (by decide) rfl (by decide) (by decide) rfl rfl (Nat.le_of_ble_eq_true rfl)) (fun r2 I2 h2 => ?_)
  obtain ⟨e2, hI2⟩ := h2
  subst e2
  exact j_same (pc := 196) 1126 dL_law_196 (by decide) (kn I2 hI2)
set_option maxHeartbeats 1000000 in
theorem lw_1 (X : jX) (nm : String) (i : Nat) (I : jMI) (hI : Inv I) (hL : X.2.2.2.2.2.2.1 ≤ 320) (hi : i + 5 ≤ X.2.2.2.2.2.2.1) (hx : ∀ j, -2147483648 ≤ X.2.2.2.2.2.2.2 j ∧ X.2.2.2.2.2.2.2 j < 2147483648) (kn : ∀ I', Inv I' → lwS X nm 1126 (lwL i) [] I') : lwS X nm 201 (lwL i) [] I := by
  refine j_aload_n (pc := 201) dL_law_201 rfl ?_
  refine j_aload_n (pc := 202) dL_law_202 rfl ?_
  refine j_iload_n (pc := 203) dL_law_203 rfl ?_
  refine j_iconst (pc := 204) dL_law_204 ?_
  refine j_iadd (pc := 205) dL_law_205 ?_
  refine j_scrI (pc := 206) (i + 1) (by omega) (by omega) (by omega) dL_law_206 ?_
  refine j_aload_n (pc := 207) dL_law_207 rfl ?_
  refine j_iload_n (pc := 208) dL_law_208 rfl ?_
  refine j_iconst (pc := 209) dL_law_209 ?_
  refine j_iadd (pc := 210) dL_law_210 ?_
  refine j_scrI (pc := 211) (i + 2) (by omega) (by omega) (by omega) dL_law_211 ?_
  refine j_aload_n (pc := 212) dL_law_212 rfl ?_
  refine j_iload_n (pc := 213) dL_law_213 rfl ?_
  refine j_iconst (pc := 214) dL_law_214 ?_
  refine j_iadd (pc := 215) dL_law_215 ?_
  refine j_scrI (pc := 216) (i + 3) (by omega) (by omega) (by omega) dL_law_216 ?_
  refine j_goI (pc := 217) (j_runV k_L_18 m_X11_stair (o_stair X I (X.2.2.2.2.2.2.2 (i + 1)) (X.2.2.2.2.2.2.2 (i + 2)) (X.2.2.2.2.2.2.2 (i + 3)) hI (hx _) (hx _) (hx _)) dL_law_217 rfl (by decide) rfl (by decide) (by decide) rfl rfl (Nat.le_of_ble_eq_true rfl)) (fun r1 I1 h1 => ?_)
  refine j_aload_n (pc := 220) dL_law_220 rfl ?_
  refine j_aload_n (pc := 221) dL_law_221 rfl ?_
  refine j_iload_n (pc := 222) dL_law_222 rfl ?_
  refine j_iconst (pc := 223) dL_law_223 ?_
  refine j_iadd (pc := 224) dL_law_224 ?_
  refine j_scrI (pc := 225) (i + 1) (by omega) (by omega) (by omega) dL_law_225 ?_
  refine j_aload_n (pc := 226) dL_law_226 rfl ?_
  refine j_iload_n (pc := 227) dL_law_227 rfl ?_
  refine j_iconst (pc := 228) dL_law_228 ?_
  refine j_iadd (pc := 229) dL_law_229 ?_
  refine j_scrI (pc := 230) (i + 2) (by omega) (by omega) (by omega) dL_law_230 ?_
  refine j_aload_n (pc := 231) dL_law_231 rfl ?_
  refine j_iload_n (pc := 232) dL_law_232 rfl ?_
  refine j_iconst (pc := 233) dL_law_233 ?_
  refine j_iadd (pc := 234) dL_law_234 ?_
  refine j_scrI (pc := 235) (i + 3) (by omega) (by omega) (by omega) dL_law_235 ?_
  refine j_goI (pc := 236) (j_runV k_L_22 m_X12_stair (h1) dL_law_236 rfl (by decide) rfl (by decide) (by decide) rfl rfl (Nat.le_of_ble_eq_true rfl)) (fun r2 I2 h2 => ?_)
  obtain ⟨e2, hI2⟩ := h2
  subst e2
  exact j_same (pc := 239) 1126 dL_law_239 (by decide) (kn I2 hI2)
set_option maxHeartbeats 1000000 in
theorem lw_2 (X : jX) (nm : String) (i : Nat) (I : jMI) (hI : Inv I) (hL : X.2.2.2.2.2.2.1 ≤ 320) (hi : i + 5 ≤ X.2.2.2.2.2.2.1) (hx : ∀ j, -2147483648 ≤ X.2.2.2.2.2.2.2 j ∧ X.2.2.2.2.2.2.2 j < 2147483648) (kn : ∀ I', Inv I' → lwS X nm 1126 (lwL i) [] I') : lwS X nm 244 (lwL i) [] I := by
  refine j_aload_n (pc := 244) dL_law_244 rfl ?_
  refine j_aload_n (pc := 245) dL_law_245 rfl ?_
  refine j_iload_n (pc := 246) dL_law_246 rfl ?_
  refine j_iconst (pc := 247) dL_law_247 ?_
  refine j_iadd (pc := 248) dL_law_248 ?_
  refine j_scrI (pc := 249) (i + 1) (by omega) (by omega) (by omega) dL_law_249 ?_
  refine j_aload_n (pc := 250) dL_law_250 rfl ?_
  refine j_iload_n (pc := 251) dL_law_251 rfl ?_
  refine j_iconst (pc := 252) dL_law_252 ?_
  refine j_iadd (pc := 253) dL_law_253 ?_
  refine j_scrI (pc := 254) (i + 2) (by omega) (by omega) (by omega) dL_law_254 ?_
  refine j_aload_n (pc := 255) dL_law_255 rfl ?_
  refine j_iload_n (pc := 256) dL_law_256 rfl ?_
  refine j_iconst (pc := 257) dL_law_257 ?_
  refine j_iadd (pc := 258) dL_law_258 ?_
  refine j_scrI (pc := 259) (i + 3) (by omega) (by omega) (by omega) dL_law_259 ?_
  refine j_goI (pc := 260) (j_runV k_L_23 m_X11_sleeper (o_sleeper X I (X.2.2.2.2.2.2.2 (i + 1)) (X.2.2.2.2.2.2.2 (i + 2)) (X.2.2.2.2.2.2.2 (i + 3)) hI (hx _) (hx _) (hx _)) dL_law_260 rfl (by decide) rfl (by decide) (by decide) rfl rfl (Nat.le_of_ble_eq_true rfl)) (fun r1 I1 h1 => ?_)
  refine j_aload_n (pc := 263) dL_law_263 rfl ?_
  refine j_aload_n (pc := 264) dL_law_264 rfl ?_
  refine j_iload_n (pc := 265) dL_law_265 rfl ?_
  refine j_iconst (pc := 266) dL_law_266 ?_
  refine j_iadd (pc := 267) dL_law_267 ?_
  refine j_scrI (pc := 268) (i + 1) (by omega) (by omega) (by omega) dL_law_268 ?_
  refine j_aload_n (pc := 269) dL_law_269 rfl ?_
  refine j_iload_n (pc := 270) dL_law_270 rfl ?_
  refine j_iconst (pc := 271) dL_law_271 ?_
  refine j_iadd (pc := 272) dL_law_272 ?_
  refine j_scrI (pc := 273) (i + 2) (by omega) (by omega) (by omega) dL_law_273 ?_
  refine j_aload_n (pc := 274) dL_law_274 rfl ?_
  refine j_iload_n (pc := 275) dL_law_275 rfl ?_
  refine j_iconst (pc := 276) dL_law_276 ?_
  refine j_iadd (pc := 277) dL_law_277 ?_
  refine j_scrI (pc := 278) (i + 3) (by omega) (by omega) (by omega) dL_law_278 ?_
  refine j_goI (pc := 279) (j_runV k_L_26 m_X12_sleeper (h1) dL_law_279 rfl (by decide) rfl (by decide) (by decide) rfl rfl (Nat.le_of_ble_eq_true rfl)) (fun r2 I2 h2 => ?_)
  obtain ⟨e2, hI2⟩ := h2
  subst e2
  exact j_same (pc := 282) 1126 dL_law_282 (by decide) (kn I2 hI2)
set_option maxHeartbeats 1000000 in
theorem lw_3 (X : jX) (nm : String) (i : Nat) (I : jMI) (hI : Inv I) (hL : X.2.2.2.2.2.2.1 ≤ 320) (hi : i + 5 ≤ X.2.2.2.2.2.2.1) (hx : ∀ j, -2147483648 ≤ X.2.2.2.2.2.2.2 j ∧ X.2.2.2.2.2.2.2 j < 2147483648) (kn : ∀ I', Inv I' → lwS X nm 1126 (lwL i) [] I') : lwS X nm 287 (lwL i) [] I := by
  refine j_aload_n (pc := 287) dL_law_287 rfl ?_
  refine j_aload_n (pc := 288) dL_law_288 rfl ?_
  refine j_iload_n (pc := 289) dL_law_289 rfl ?_
  refine j_iconst (pc := 290) dL_law_290 ?_
  refine j_iadd (pc := 291) dL_law_291 ?_
  refine j_scrI (pc := 292) (i + 1) (by omega) (by omega) (by omega) dL_law_292 ?_
  refine j_goI (pc := 293) (j_runV k_L_27 m_X11_thing (o_thing X I (X.2.2.2.2.2.2.2 (i + 1)) hI (hx _)) dL_law_293 rfl (by decide) rfl (by decide) (by decide) rfl rfl (Nat.le_of_ble_eq_true rfl)) (fun r1 I1 h1 => ?_)
  refine j_aload_n (pc := 296) dL_law_296 rfl ?_
  refine j_aload_n (pc := 297) dL_law_297 rfl ?_
  refine j_iload_n (pc := 298) dL_law_298 rfl ?_
  refine j_iconst (pc := 299) dL_law_299 ?_
  refine j_iadd (pc := 300) dL_law_300 ?_
  refine j_scrI (pc := 301) (i + 1) (by omega) (by omega) (by omega) dL_law_301 ?_
  refine j_goI (pc := 302) (j_runV k_L_31 m_X12_thing (h1) dL_law_302 rfl (by decide) rfl (by decide) (by decide) rfl rfl (Nat.le_of_ble_eq_true rfl)) (fun r2 I2 h2 => ?_)
  obtain ⟨e2, hI2⟩ := h2
  subst e2
  exact j_same (pc := 305) 1126 dL_law_305 (by decide) (kn I2 hI2)
set_option maxHeartbeats 1000000 in
theorem lw_4 (X : jX) (nm : String) (i : Nat) (I : jMI) (hI : Inv I) (hL : X.2.2.2.2.2.2.1 ≤ 320) (hi : i + 5 ≤ X.2.2.2.2.2.2.1) (hx : ∀ j, -2147483648 ≤ X.2.2.2.2.2.2.2 j ∧ X.2.2.2.2.2.2.2 j < 2147483648) (kn : ∀ I', Inv I' → lwS X nm 1126 (lwL i) [] I') : lwS X nm 310 (lwL i) [] I := by
  refine j_aload_n (pc := 310) dL_law_310 rfl ?_
  refine j_aload_n (pc := 311) dL_law_311 rfl ?_
  refine j_iload_n (pc := 312) dL_law_312 rfl ?_
  refine j_iconst (pc := 313) dL_law_313 ?_
  refine j_iadd (pc := 314) dL_law_314 ?_
  refine j_scrI (pc := 315) (i + 1) (by omega) (by omega) (by omega) dL_law_315 ?_
  refine j_aload_n (pc := 316) dL_law_316 rfl ?_
  refine j_iload_n (pc := 317) dL_law_317 rfl ?_
  refine j_iconst (pc := 318) dL_law_318 ?_
  refine j_iadd (pc := 319) dL_law_319 ?_
  refine j_scrI (pc := 320) (i + 2) (by omega) (by omega) (by omega) dL_law_320 ?_
  refine j_goI (pc := 321) (j_runV k_L_32 m_X11_owner (o_owner X I (X.2.2.2.2.2.2.2 (i + 1)) (X.2.2.2.2.2.2.2 (i + 2)) hI (hx _) (hx _)) dL_law_321 rfl (by decide) rfl (by decide) (by decide) rfl rfl (Nat.le_of_ble_eq_true rfl)) (fun r1 I1 h1 => ?_)
  refine j_aload_n (pc := 324) dL_law_324 rfl ?_
  refine j_aload_n (pc := 325) dL_law_325 rfl ?_
  refine j_iload_n (pc := 326) dL_law_326 rfl ?_
  refine j_iconst (pc := 327) dL_law_327 ?_
  refine j_iadd (pc := 328) dL_law_328 ?_
  refine j_scrI (pc := 329) (i + 1) (by omega) (by omega) (by omega) dL_law_329 ?_
  refine j_aload_n (pc := 330) dL_law_330 rfl ?_
  refine j_iload_n (pc := 331) dL_law_331 rfl ?_
  refine j_iconst (pc := 332) dL_law_332 ?_
  refine j_iadd (pc := 333) dL_law_333 ?_
  refine j_scrI (pc := 334) (i + 2) (by omega) (by omega) (by omega) dL_law_334 ?_
  refine j_goI (pc := 335) (j_runV k_L_36 m_X12_owner (h1) dL_law_335 rfl (by decide) rfl (by decide) (by decide) rfl rfl (Nat.le_of_ble_eq_true rfl)) (fun r2 I2 h2 => ?_)
  obtain ⟨e2, hI2⟩ := h2
  subst e2
  exact j_same (pc := 338) 1126 dL_law_338 (by decide) (kn I2 hI2)
set_option maxHeartbeats 1000000 in
theorem lw_5 (X : jX) (nm : String) (i : Nat) (I : jMI) (hI : Inv I) (hL : X.2.2.2.2.2.2.1 ≤ 320) (hi : i + 5 ≤ X.2.2.2.2.2.2.1) (hx : ∀ j, -2147483648 ≤ X.2.2.2.2.2.2.2 j ∧ X.2.2.2.2.2.2.2 j < 2147483648) (kn : ∀ I', Inv I' → lwS X nm 1126 (lwL i) [] I') : lwS X nm 343 (lwL i) [] I := by
  refine j_aload_n (pc := 343) dL_law_343 rfl ?_
  refine j_aload_n (pc := 344) dL_law_344 rfl ?_
  refine j_iload_n (pc := 345) dL_law_345 rfl ?_
  refine j_iconst (pc := 346) dL_law_346 ?_
  refine j_iadd (pc := 347) dL_law_347 ?_
  refine j_scrI (pc := 348) (i + 1) (by omega) (by omega) (by omega) dL_law_348 ?_
  refine j_goI (pc := 349) (j_runV k_L_37 m_X11_type (o_type X I (X.2.2.2.2.2.2.2 (i + 1)) hI (hx _)) dL_law_349 rfl (by decide) rfl (by decide) (by decide) rfl rfl (Nat.le_of_ble_eq_true rfl)) (fun r1 I1 h1 => ?_)
  refine j_aload_n (pc := 352) dL_law_352 rfl ?_
  refine j_aload_n (pc := 353) dL_law_353 rfl ?_
  refine j_iload_n (pc := 354) dL_law_354 rfl ?_
  refine j_iconst (pc := 355) dL_law_355 ?_
  refine j_iadd (pc := 356) dL_law_356 ?_
  refine j_scrI (pc := 357) (i + 1) (by omega) (by omega) (by omega) dL_law_357 ?_
  refine j_goI (pc := 358) (j_runV k_L_40 m_X12_type (h1) dL_law_358 rfl (by decide) rfl (by decide) (by decide) rfl rfl (Nat.le_of_ble_eq_true rfl)) (fun r2 I2 h2 => ?_)
  obtain ⟨e2, hI2⟩ := h2
  subst e2
  exact j_same (pc := 361) 1126 dL_law_361 (by decide) (kn I2 hI2)
set_option maxHeartbeats 1000000 in
theorem lw_6 (X : jX) (nm : String) (i : Nat) (I : jMI) (hI : Inv I) (hL : X.2.2.2.2.2.2.1 ≤ 320) (hi : i + 5 ≤ X.2.2.2.2.2.2.1) (hx : ∀ j, -2147483648 ≤ X.2.2.2.2.2.2.2 j ∧ X.2.2.2.2.2.2.2 j < 2147483648) (kn : ∀ I', Inv I' → lwS X nm 1126 (lwL i) [] I') : lwS X nm 366 (lwL i) [] I := by
  refine j_aload_n (pc := 366) dL_law_366 rfl ?_
  refine j_goI (pc := 367) (j_runV k_L_41 m_X11_clear (o_clear X I hI) dL_law_367 rfl (by decide) rfl (by decide) (by decide) rfl rfl (Nat.le_of_ble_eq_true rfl)) (fun r1 I1 h1 => ?_)
  refine j_aload_n (pc := 370) dL_law_370 rfl ?_
  refine j_goI (pc := 371) (j_runV k_L_44 m_X12_clear (h1) dL_law_371 rfl (by decide) rfl (by decide) (by decide) rfl rfl (Nat.le_of_ble_eq_true rfl)) (fun r2 I2 h2 => ?_)
  obtain ⟨e2, hI2⟩ := h2
  subst e2
  exact j_same (pc := 374) 1126 dL_law_374 (by decide) (kn I2 hI2)
set_option maxHeartbeats 1000000 in
theorem lw_7 (X : jX) (nm : String) (i : Nat) (I : jMI) (hI : Inv I) (hL : X.2.2.2.2.2.2.1 ≤ 320) (hi : i + 5 ≤ X.2.2.2.2.2.2.1) (hx : ∀ j, -2147483648 ≤ X.2.2.2.2.2.2.2 j ∧ X.2.2.2.2.2.2.2 j < 2147483648) (kn : ∀ I', Inv I' → lwS X nm 1126 (lwL i) [] I') : lwS X nm 379 (lwL i) [] I := by
  refine j_aload_n (pc := 379) dL_law_379 rfl ?_
  refine j_goI (pc := 380) (j_runV k_L_45 m_X11_read (o_read X I hI) dL_law_380 rfl (by decide) rfl (by decide) (by decide) rfl rfl (Nat.le_of_ble_eq_true rfl)) (fun r1 I1 h1 => ?_)
  refine j_aload_n (pc := 383) dL_law_383 rfl ?_
  refine j_goI (pc := 384) (j_runV k_L_48 m_X12_read (h1) dL_law_384 rfl (by decide) rfl (by decide) (by decide) rfl rfl (Nat.le_of_ble_eq_true rfl)) (fun r2 I2 h2 => ?_)
  obtain ⟨e2, hI2⟩ := h2
  subst e2
  exact j_same (pc := 387) 1126 dL_law_387 (by decide) (kn I2 hI2)
set_option maxHeartbeats 1000000 in
theorem lw_8 (X : jX) (nm : String) (i : Nat) (I : jMI) (hI : Inv I) (hL : X.2.2.2.2.2.2.1 ≤ 320) (hi : i + 5 ≤ X.2.2.2.2.2.2.1) (hx : ∀ j, -2147483648 ≤ X.2.2.2.2.2.2.2 j ∧ X.2.2.2.2.2.2.2 j < 2147483648) (kn : ∀ I', Inv I' → lwS X nm 1126 (lwL i) [] I') : lwS X nm 392 (lwL i) [] I := by
  refine j_aload_n (pc := 392) dL_law_392 rfl ?_
  refine j_aload_n (pc := 393) dL_law_393 rfl ?_
  refine j_iload_n (pc := 394) dL_law_394 rfl ?_
  refine j_iconst (pc := 395) dL_law_395 ?_
  refine j_iadd (pc := 396) dL_law_396 ?_
  refine j_scrI (pc := 397) (i + 1) (by omega) (by omega) (by omega) dL_law_397 ?_
  refine j_aload_n (pc := 398) dL_law_398 rfl ?_
  refine j_iload_n (pc := 399) dL_law_399 rfl ?_
  refine j_iconst (pc := 400) dL_law_400 ?_
  refine j_iadd (pc := 401) dL_law_401 ?_
  refine j_scrI (pc := 402) (i + 2) (by omega) (by omega) (by omega) dL_law_402 ?_
  refine j_goI (pc := 403) (j_runV k_L_49 m_X11_step (o_step X I (X.2.2.2.2.2.2.2 (i + 1)) (X.2.2.2.2.2.2.2 (i + 2)) hI (hx _) (hx _)) dL_law_403 rfl (by decide) rfl (by decide) (by decide) rfl rfl (Nat.le_of_ble_eq_true rfl)) (fun r1 I1 h1 => ?_)
  refine j_aload_n (pc := 406) dL_law_406 rfl ?_
  refine j_aload_n (pc := 407) dL_law_407 rfl ?_
  refine j_iload_n (pc := 408) dL_law_408 rfl ?_
  refine j_iconst (pc := 409) dL_law_409 ?_
  refine j_iadd (pc := 410) dL_law_410 ?_
  refine j_scrI (pc := 411) (i + 1) (by omega) (by omega) (by omega) dL_law_411 ?_
  refine j_aload_n (pc := 412) dL_law_412 rfl ?_
  refine j_iload_n (pc := 413) dL_law_413 rfl ?_
  refine j_iconst (pc := 414) dL_law_414 ?_
  refine j_iadd (pc := 415) dL_law_415 ?_
  refine j_scrI (pc := 416) (i + 2) (by omega) (by omega) (by omega) dL_law_416 ?_
  refine j_goI (pc := 417) (j_runV k_L_52 m_X12_step (h1) dL_law_417 rfl (by decide) rfl (by decide) (by decide) rfl rfl (Nat.le_of_ble_eq_true rfl)) (fun r2 I2 h2 => ?_)
  obtain ⟨e2, hI2⟩ := h2
  subst e2
  exact j_same (pc := 420) 1126 dL_law_420 (by decide) (kn I2 hI2)
set_option maxHeartbeats 1000000 in
theorem lw_9 (X : jX) (nm : String) (i : Nat) (I : jMI) (hI : Inv I) (hL : X.2.2.2.2.2.2.1 ≤ 320) (hi : i + 5 ≤ X.2.2.2.2.2.2.1) (hx : ∀ j, -2147483648 ≤ X.2.2.2.2.2.2.2 j ∧ X.2.2.2.2.2.2.2 j < 2147483648) (kn : ∀ I', Inv I' → lwS X nm 1126 (lwL i) [] I') : lwS X nm 425 (lwL i) [] I := by
  refine j_aload_n (pc := 425) dL_law_425 rfl ?_
  refine j_aload_n (pc := 426) dL_law_426 rfl ?_
  refine j_iload_n (pc := 427) dL_law_427 rfl ?_
  refine j_iconst (pc := 428) dL_law_428 ?_
  refine j_iadd (pc := 429) dL_law_429 ?_
  refine j_scrI (pc := 430) (i + 1) (by omega) (by omega) (by omega) dL_law_430 ?_
  refine j_goI (pc := 431) (j_runV k_L_53 m_X11_waits (o_waits X I (X.2.2.2.2.2.2.2 (i + 1)) hI (hx _)) dL_law_431 rfl (by decide) rfl (by decide) (by decide) rfl rfl (Nat.le_of_ble_eq_true rfl)) (fun r1 I1 h1 => ?_)
  refine j_aload_n (pc := 434) dL_law_434 rfl ?_
  refine j_aload_n (pc := 435) dL_law_435 rfl ?_
  refine j_iload_n (pc := 436) dL_law_436 rfl ?_
  refine j_iconst (pc := 437) dL_law_437 ?_
  refine j_iadd (pc := 438) dL_law_438 ?_
  refine j_scrI (pc := 439) (i + 1) (by omega) (by omega) (by omega) dL_law_439 ?_
  refine j_goI (pc := 440) (j_runV k_L_56 m_X12_waits (h1) dL_law_440 rfl (by decide) rfl (by decide) (by decide) rfl rfl (Nat.le_of_ble_eq_true rfl)) (fun r2 I2 h2 => ?_)
  obtain ⟨e2, hI2⟩ := h2
  subst e2
  exact j_same (pc := 443) 1126 dL_law_443 (by decide) (kn I2 hI2)
set_option maxHeartbeats 1000000 in
theorem lw_10 (X : jX) (nm : String) (i : Nat) (I : jMI) (hI : Inv I) (hL : X.2.2.2.2.2.2.1 ≤ 320) (hi : i + 5 ≤ X.2.2.2.2.2.2.1) (hx : ∀ j, -2147483648 ≤ X.2.2.2.2.2.2.2 j ∧ X.2.2.2.2.2.2.2 j < 2147483648) (kn : ∀ I', Inv I' → lwS X nm 1126 (lwL i) [] I') : lwS X nm 448 (lwL i) [] I := by
  refine j_aload_n (pc := 448) dL_law_448 rfl ?_
  refine j_goI (pc := 449) (j_runV k_L_57 m_X11_undo (o_undo X I hI) dL_law_449 rfl (by decide) rfl (by decide) (by decide) rfl rfl (Nat.le_of_ble_eq_true rfl)) (fun r1 I1 h1 => ?_)
  refine j_aload_n (pc := 452) dL_law_452 rfl ?_
  refine j_goI (pc := 453) (j_runV k_L_60 m_X12_undo (h1) dL_law_453 rfl (by decide) rfl (by decide) (by decide) rfl rfl (Nat.le_of_ble_eq_true rfl)) (fun r2 I2 h2 => ?_)
  obtain ⟨e2, hI2⟩ := h2
  subst e2
  exact j_same (pc := 456) 1126 dL_law_456 (by decide) (kn I2 hI2)
set_option maxHeartbeats 1000000 in
theorem lw_11 (X : jX) (nm : String) (i : Nat) (I : jMI) (hI : Inv I) (hL : X.2.2.2.2.2.2.1 ≤ 320) (hi : i + 5 ≤ X.2.2.2.2.2.2.1) (hx : ∀ j, -2147483648 ≤ X.2.2.2.2.2.2.2 j ∧ X.2.2.2.2.2.2.2 j < 2147483648) (kn : ∀ I', Inv I' → lwS X nm 1126 (lwL i) [] I') : lwS X nm 461 (lwL i) [] I := by
  refine j_aload_n (pc := 461) dL_law_461 rfl ?_
  refine j_aload_n (pc := 462) dL_law_462 rfl ?_
  refine j_iload_n (pc := 463) dL_law_463 rfl ?_
  refine j_iconst (pc := 464) dL_law_464 ?_
  refine j_iadd (pc := 465) dL_law_465 ?_
  refine j_scrI (pc := 466) (i + 1) (by omega) (by omega) (by omega) dL_law_466 ?_
  refine j_aload_n (pc := 467) dL_law_467 rfl ?_
  refine j_iload_n (pc := 468) dL_law_468 rfl ?_
  refine j_iconst (pc := 469) dL_law_469 ?_
  refine j_iadd (pc := 470) dL_law_470 ?_
  refine j_scrI (pc := 471) (i + 2) (by omega) (by omega) (by omega) dL_law_471 ?_
  refine j_goI (pc := 472) (j_runV k_L_61 m_X11_of (o_of X I (X.2.2.2.2.2.2.2 (i + 1)) (X.2.2.2.2.2.2.2 (i + 2)) hI (hx _) (hx _)) dL_law_472 rfl (by decide) rfl (by decide) (by decide) rfl rfl (Nat.le_of_ble_eq_true rfl)) (fun r1 I1 h1 => ?_)
  refine j_aload_n (pc := 475) dL_law_475 rfl ?_
  refine j_aload_n (pc := 476) dL_law_476 rfl ?_
  refine j_iload_n (pc := 477) dL_law_477 rfl ?_
  refine j_iconst (pc := 478) dL_law_478 ?_
  refine j_iadd (pc := 479) dL_law_479 ?_
  refine j_scrI (pc := 480) (i + 1) (by omega) (by omega) (by omega) dL_law_480 ?_
  refine j_aload_n (pc := 481) dL_law_481 rfl ?_
  refine j_iload_n (pc := 482) dL_law_482 rfl ?_
  refine j_iconst (pc := 483) dL_law_483 ?_
  refine j_iadd (pc := 484) dL_law_484 ?_
  refine j_scrI (pc := 485) (i + 2) (by omega) (by omega) (by omega) dL_law_485 ?_
  refine j_goI (pc := 486) (j_runV k_L_64 m_X12_of (h1) dL_law_486 rfl (by decide) rfl (by decide) (by decide) rfl rfl (Nat.le_of_ble_eq_true rfl)) (fun r2 I2 h2 => ?_)
  obtain ⟨e2, hI2⟩ := h2
  subst e2
  exact j_same (pc := 489) 1126 dL_law_489 (by decide) (kn I2 hI2)
set_option maxHeartbeats 1000000 in
theorem lw_12 (X : jX) (nm : String) (i : Nat) (I : jMI) (hI : Inv I) (hL : X.2.2.2.2.2.2.1 ≤ 320) (hi : i + 5 ≤ X.2.2.2.2.2.2.1) (hx : ∀ j, -2147483648 ≤ X.2.2.2.2.2.2.2 j ∧ X.2.2.2.2.2.2.2 j < 2147483648) (kn : ∀ I', Inv I' → lwS X nm 1126 (lwL i) [] I') : lwS X nm 494 (lwL i) [] I := by
  refine j_aload_n (pc := 494) dL_law_494 rfl ?_
  refine j_aload_n (pc := 495) dL_law_495 rfl ?_
  refine j_iload_n (pc := 496) dL_law_496 rfl ?_
  refine j_iconst (pc := 497) dL_law_497 ?_
  refine j_iadd (pc := 498) dL_law_498 ?_
  refine j_scrI (pc := 499) (i + 1) (by omega) (by omega) (by omega) dL_law_499 ?_
  refine j_goI (pc := 500) (j_runV k_L_65 m_X11_where (o_where X I (X.2.2.2.2.2.2.2 (i + 1)) hI (hx _)) dL_law_500 rfl (by decide) rfl (by decide) (by decide) rfl rfl (Nat.le_of_ble_eq_true rfl)) (fun r1 I1 h1 => ?_)
  refine j_aload_n (pc := 503) dL_law_503 rfl ?_
  refine j_aload_n (pc := 504) dL_law_504 rfl ?_
  refine j_iload_n (pc := 505) dL_law_505 rfl ?_
  refine j_iconst (pc := 506) dL_law_506 ?_
  refine j_iadd (pc := 507) dL_law_507 ?_
  refine j_scrI (pc := 508) (i + 1) (by omega) (by omega) (by omega) dL_law_508 ?_
  refine j_goI (pc := 509) (j_runV k_L_68 m_X12_where (h1) dL_law_509 rfl (by decide) rfl (by decide) (by decide) rfl rfl (Nat.le_of_ble_eq_true rfl)) (fun r2 I2 h2 => ?_)
  obtain ⟨e2, hI2⟩ := h2
  subst e2
  exact j_same (pc := 512) 1126 dL_law_512 (by decide) (kn I2 hI2)
set_option maxHeartbeats 1000000 in
theorem lw_13 (X : jX) (nm : String) (i : Nat) (I : jMI) (hI : Inv I) (hL : X.2.2.2.2.2.2.1 ≤ 320) (hi : i + 5 ≤ X.2.2.2.2.2.2.1) (hx : ∀ j, -2147483648 ≤ X.2.2.2.2.2.2.2 j ∧ X.2.2.2.2.2.2.2 j < 2147483648) (kn : ∀ I', Inv I' → lwS X nm 1126 (lwL i) [] I') : lwS X nm 517 (lwL i) [] I := by
  refine j_aload_n (pc := 517) dL_law_517 rfl ?_
  refine j_aload_n (pc := 518) dL_law_518 rfl ?_
  refine j_iload_n (pc := 519) dL_law_519 rfl ?_
  refine j_iconst (pc := 520) dL_law_520 ?_
  refine j_iadd (pc := 521) dL_law_521 ?_
  refine j_scrI (pc := 522) (i + 1) (by omega) (by omega) (by omega) dL_law_522 ?_
  refine j_aload_n (pc := 523) dL_law_523 rfl ?_
  refine j_iload_n (pc := 524) dL_law_524 rfl ?_
  refine j_iconst (pc := 525) dL_law_525 ?_
  refine j_iadd (pc := 526) dL_law_526 ?_
  refine j_scrI (pc := 527) (i + 2) (by omega) (by omega) (by omega) dL_law_527 ?_
  refine j_goI (pc := 528) (j_runV k_L_69 m_X11_far (o_far X I (X.2.2.2.2.2.2.2 (i + 1)) (X.2.2.2.2.2.2.2 (i + 2)) hI (hx _) (hx _)) dL_law_528 rfl (by decide) rfl (by decide) (by decide) rfl rfl (Nat.le_of_ble_eq_true rfl)) (fun r1 I1 h1 => ?_)
  refine j_aload_n (pc := 531) dL_law_531 rfl ?_
  refine j_aload_n (pc := 532) dL_law_532 rfl ?_
  refine j_iload_n (pc := 533) dL_law_533 rfl ?_
  refine j_iconst (pc := 534) dL_law_534 ?_
  refine j_iadd (pc := 535) dL_law_535 ?_
  refine j_scrI (pc := 536) (i + 1) (by omega) (by omega) (by omega) dL_law_536 ?_
  refine j_aload_n (pc := 537) dL_law_537 rfl ?_
  refine j_iload_n (pc := 538) dL_law_538 rfl ?_
  refine j_iconst (pc := 539) dL_law_539 ?_
  refine j_iadd (pc := 540) dL_law_540 ?_
  refine j_scrI (pc := 541) (i + 2) (by omega) (by omega) (by omega) dL_law_541 ?_
  refine j_goI (pc := 542) (j_runV k_L_72 m_X12_far (h1) dL_law_542 rfl (by decide) rfl (by decide) (by decide) rfl rfl (Nat.le_of_ble_eq_true rfl)) (fun r2 I2 h2 => ?_)
  obtain ⟨e2, hI2⟩ := h2
  subst e2
  exact j_same (pc := 545) 1126 dL_law_545 (by decide) (kn I2 hI2)
set_option maxHeartbeats 1000000 in
theorem lw_14 (X : jX) (nm : String) (i : Nat) (I : jMI) (hI : Inv I) (hL : X.2.2.2.2.2.2.1 ≤ 320) (hi : i + 5 ≤ X.2.2.2.2.2.2.1) (hx : ∀ j, -2147483648 ≤ X.2.2.2.2.2.2.2 j ∧ X.2.2.2.2.2.2.2 j < 2147483648) (kn : ∀ I', Inv I' → lwS X nm 1126 (lwL i) [] I') : lwS X nm 550 (lwL i) [] I := by
  refine j_aload_n (pc := 550) dL_law_550 rfl ?_
  refine j_aload_n (pc := 551) dL_law_551 rfl ?_
  refine j_iload_n (pc := 552) dL_law_552 rfl ?_
  refine j_iconst (pc := 553) dL_law_553 ?_
  refine j_iadd (pc := 554) dL_law_554 ?_
  refine j_scrI (pc := 555) (i + 1) (by omega) (by omega) (by omega) dL_law_555 ?_
  refine j_aload_n (pc := 556) dL_law_556 rfl ?_
  refine j_iload_n (pc := 557) dL_law_557 rfl ?_
  refine j_iconst (pc := 558) dL_law_558 ?_
  refine j_iadd (pc := 559) dL_law_559 ?_
  refine j_scrI (pc := 560) (i + 2) (by omega) (by omega) (by omega) dL_law_560 ?_
  refine j_aload_n (pc := 561) dL_law_561 rfl ?_
  refine j_iload_n (pc := 562) dL_law_562 rfl ?_
  refine j_iconst (pc := 563) dL_law_563 ?_
  refine j_iadd (pc := 564) dL_law_564 ?_
  refine j_scrI (pc := 565) (i + 3) (by omega) (by omega) (by omega) dL_law_565 ?_
  refine j_goI (pc := 566) (j_runV k_L_73 m_X11_wakes (o_wakes X I (X.2.2.2.2.2.2.2 (i + 1)) (X.2.2.2.2.2.2.2 (i + 2)) (X.2.2.2.2.2.2.2 (i + 3)) hI (hx _) (hx _) (hx _)) dL_law_566 rfl (by decide) rfl (by decide) (by decide) rfl rfl (Nat.le_of_ble_eq_true rfl)) (fun r1 I1 h1 => ?_)
  refine j_aload_n (pc := 569) dL_law_569 rfl ?_
  refine j_aload_n (pc := 570) dL_law_570 rfl ?_
  refine j_iload_n (pc := 571) dL_law_571 rfl ?_
  refine j_iconst (pc := 572) dL_law_572 ?_
  refine j_iadd (pc := 573) dL_law_573 ?_
  refine j_scrI (pc := 574) (i + 1) (by omega) (by omega) (by omega) dL_law_574 ?_
  refine j_aload_n (pc := 575) dL_law_575 rfl ?_
  refine j_iload_n (pc := 576) dL_law_576 rfl ?_
  refine j_iconst (pc := 577) dL_law_577 ?_
  refine j_iadd (pc := 578) dL_law_578 ?_
  refine j_scrI (pc := 579) (i + 2) (by omega) (by omega) (by omega) dL_law_579 ?_
  refine j_aload_n (pc := 580) dL_law_580 rfl ?_
  refine j_iload_n (pc := 581) dL_law_581 rfl ?_
  refine j_iconst (pc := 582) dL_law_582 ?_
  refine j_iadd (pc := 583) dL_law_583 ?_
  refine j_scrI (pc := 584) (i + 3) (by omega) (by omega) (by omega) dL_law_584 ?_
  refine j_goI (pc := 585) (j_runV k_L_76 m_X12_wakes (h1) dL_law_585 rfl (by decide) rfl (by decide) (by decide) rfl rfl (Nat.le_of_ble_eq_true rfl)) (fun r2 I2 h2 => ?_)
  obtain ⟨e2, hI2⟩ := h2
  subst e2
  exact j_same (pc := 588) 1126 dL_law_588 (by decide) (kn I2 hI2)
set_option maxHeartbeats 1000000 in
theorem lw_15 (X : jX) (nm : String) (i : Nat) (I : jMI) (hI : Inv I) (hL : X.2.2.2.2.2.2.1 ≤ 320) (hi : i + 5 ≤ X.2.2.2.2.2.2.1) (hx : ∀ j, -2147483648 ≤ X.2.2.2.2.2.2.2 j ∧ X.2.2.2.2.2.2.2 j < 2147483648) (kn : ∀ I', Inv I' → lwS X nm 1126 (lwL i) [] I') : lwS X nm 593 (lwL i) [] I := by
  refine j_aload_n (pc := 593) dL_law_593 rfl ?_
  refine j_aload_n (pc := 594) dL_law_594 rfl ?_
  refine j_iload_n (pc := 595) dL_law_595 rfl ?_
  refine j_iconst (pc := 596) dL_law_596 ?_
  refine j_iadd (pc := 597) dL_law_597 ?_
  refine j_scrI (pc := 598) (i + 1) (by omega) (by omega) (by omega) dL_law_598 ?_
  refine j_aload_n (pc := 599) dL_law_599 rfl ?_
  refine j_iload_n (pc := 600) dL_law_600 rfl ?_
  refine j_iconst (pc := 601) dL_law_601 ?_
  refine j_iadd (pc := 602) dL_law_602 ?_
  refine j_scrI (pc := 603) (i + 2) (by omega) (by omega) (by omega) dL_law_603 ?_
  refine j_goI (pc := 604) (j_runV k_L_77 m_X11_loud (o_loud X I (X.2.2.2.2.2.2.2 (i + 1)) (X.2.2.2.2.2.2.2 (i + 2)) hI (hx _) (hx _)) dL_law_604 rfl (by decide) rfl (by decide) (by decide) rfl rfl (Nat.le_of_ble_eq_true rfl)) (fun r1 I1 h1 => ?_)
  refine j_aload_n (pc := 607) dL_law_607 rfl ?_
  refine j_aload_n (pc := 608) dL_law_608 rfl ?_
  refine j_iload_n (pc := 609) dL_law_609 rfl ?_
  refine j_iconst (pc := 610) dL_law_610 ?_
  refine j_iadd (pc := 611) dL_law_611 ?_
  refine j_scrI (pc := 612) (i + 1) (by omega) (by omega) (by omega) dL_law_612 ?_
  refine j_aload_n (pc := 613) dL_law_613 rfl ?_
  refine j_iload_n (pc := 614) dL_law_614 rfl ?_
  refine j_iconst (pc := 615) dL_law_615 ?_
  refine j_iadd (pc := 616) dL_law_616 ?_
  refine j_scrI (pc := 617) (i + 2) (by omega) (by omega) (by omega) dL_law_617 ?_
  refine j_goI (pc := 618) (j_runV k_L_80 m_X12_loud (h1) dL_law_618 rfl (by decide) rfl (by decide) (by decide) rfl rfl (Nat.le_of_ble_eq_true rfl)) (fun r2 I2 h2 => ?_)
  obtain ⟨e2, hI2⟩ := h2
  subst e2
  exact j_same (pc := 621) 1126 dL_law_621 (by decide) (kn I2 hI2)
set_option maxHeartbeats 1000000 in
theorem lw_16 (X : jX) (nm : String) (i : Nat) (I : jMI) (hI : Inv I) (hL : X.2.2.2.2.2.2.1 ≤ 320) (hi : i + 5 ≤ X.2.2.2.2.2.2.1) (hx : ∀ j, -2147483648 ≤ X.2.2.2.2.2.2.2 j ∧ X.2.2.2.2.2.2.2 j < 2147483648) (kn : ∀ I', Inv I' → lwS X nm 1126 (lwL i) [] I') : lwS X nm 626 (lwL i) [] I := by
  refine j_aload_n (pc := 626) dL_law_626 rfl ?_
  refine j_aload_n (pc := 627) dL_law_627 rfl ?_
  refine j_iload_n (pc := 628) dL_law_628 rfl ?_
  refine j_iconst (pc := 629) dL_law_629 ?_
  refine j_iadd (pc := 630) dL_law_630 ?_
  refine j_scrI (pc := 631) (i + 1) (by omega) (by omega) (by omega) dL_law_631 ?_
  refine j_aload_n (pc := 632) dL_law_632 rfl ?_
  refine j_iload_n (pc := 633) dL_law_633 rfl ?_
  refine j_iconst (pc := 634) dL_law_634 ?_
  refine j_iadd (pc := 635) dL_law_635 ?_
  refine j_scrI (pc := 636) (i + 2) (by omega) (by omega) (by omega) dL_law_636 ?_
  refine j_aload_n (pc := 637) dL_law_637 rfl ?_
  refine j_iload_n (pc := 638) dL_law_638 rfl ?_
  refine j_iconst (pc := 639) dL_law_639 ?_
  refine j_iadd (pc := 640) dL_law_640 ?_
  refine j_scrI (pc := 641) (i + 3) (by omega) (by omega) (by omega) dL_law_641 ?_
  refine j_aload_n (pc := 642) dL_law_642 rfl ?_
  refine j_iload_n (pc := 643) dL_law_643 rfl ?_
  refine j_iconst (pc := 644) dL_law_644 ?_
  refine j_iadd (pc := 645) dL_law_645 ?_
  refine j_scrI (pc := 646) (i + 4) (by omega) (by omega) (by omega) dL_law_646 ?_
  refine j_goI (pc := 647) (j_runV k_L_81 m_X11_way (o_way X I (X.2.2.2.2.2.2.2 (i + 1)) (X.2.2.2.2.2.2.2 (i + 2)) (X.2.2.2.2.2.2.2 (i + 3)) (X.2.2.2.2.2.2.2 (i + 4)) hI (hx _) (hx _) (hx _) (hx _)) dL_law_647 rfl (by decide) rfl (by decide) (by decide) rfl rfl (Nat.le_of_ble_eq_true rfl)) (fun r1 I1 h1 => ?_)
  refine j_aload_n (pc := 650) dL_law_650 rfl ?_
  refine j_aload_n (pc := 651) dL_law_651 rfl ?_
  refine j_iload_n (pc := 652) dL_law_652 rfl ?_
  refine j_iconst (pc := 653) dL_law_653 ?_
  refine j_iadd (pc := 654) dL_law_654 ?_
  refine j_scrI (pc := 655) (i + 1) (by omega) (by omega) (by omega) dL_law_655 ?_
  refine j_aload_n (pc := 656) dL_law_656 rfl ?_
  refine j_iload_n (pc := 657) dL_law_657 rfl ?_
  refine j_iconst (pc := 658) dL_law_658 ?_
  refine j_iadd (pc := 659) dL_law_659 ?_
  refine j_scrI (pc := 660) (i + 2) (by omega) (by omega) (by omega) dL_law_660 ?_
  refine j_aload_n (pc := 661) dL_law_661 rfl ?_
  refine j_iload_n (pc := 662) dL_law_662 rfl ?_
  refine j_iconst (pc := 663) dL_law_663 ?_
  refine j_iadd (pc := 664) dL_law_664 ?_
  refine j_scrI (pc := 665) (i + 3) (by omega) (by omega) (by omega) dL_law_665 ?_
  refine j_aload_n (pc := 666) dL_law_666 rfl ?_
  refine j_iload_n (pc := 667) dL_law_667 rfl ?_
  refine j_iconst (pc := 668) dL_law_668 ?_
  refine j_iadd (pc := 669) dL_law_669 ?_
  refine j_scrI (pc := 670) (i + 4) (by omega) (by omega) (by omega) dL_law_670 ?_
  refine j_goI (pc := 671) (j_runV k_L_85 m_X12_way (h1) dL_law_671 rfl (by decide) rfl (by decide) (by decide) rfl rfl (Nat.le_of_ble_eq_true rfl)) (fun r2 I2 h2 => ?_)
  obtain ⟨e2, hI2⟩ := h2
  subst e2
  exact j_same (pc := 674) 1126 dL_law_674 (by decide) (kn I2 hI2)
set_option maxHeartbeats 1000000 in
theorem lw_17 (X : jX) (nm : String) (i : Nat) (I : jMI) (hI : Inv I) (hL : X.2.2.2.2.2.2.1 ≤ 320) (hi : i + 5 ≤ X.2.2.2.2.2.2.1) (hx : ∀ j, -2147483648 ≤ X.2.2.2.2.2.2.2 j ∧ X.2.2.2.2.2.2.2 j < 2147483648) (kn : ∀ I', Inv I' → lwS X nm 1126 (lwL i) [] I') : lwS X nm 679 (lwL i) [] I := by
  refine j_aload_n (pc := 679) dL_law_679 rfl ?_
  refine j_aload_n (pc := 680) dL_law_680 rfl ?_
  refine j_iload_n (pc := 681) dL_law_681 rfl ?_
  refine j_iconst (pc := 682) dL_law_682 ?_
  refine j_iadd (pc := 683) dL_law_683 ?_
  refine j_scrI (pc := 684) (i + 1) (by omega) (by omega) (by omega) dL_law_684 ?_
  refine j_aload_n (pc := 685) dL_law_685 rfl ?_
  refine j_iload_n (pc := 686) dL_law_686 rfl ?_
  refine j_iconst (pc := 687) dL_law_687 ?_
  refine j_iadd (pc := 688) dL_law_688 ?_
  refine j_scrI (pc := 689) (i + 2) (by omega) (by omega) (by omega) dL_law_689 ?_
  refine j_goI (pc := 690) (j_runV k_L_86 m_X11_softest (o_softest X I (X.2.2.2.2.2.2.2 (i + 1)) (X.2.2.2.2.2.2.2 (i + 2)) hI (hx _) (hx _)) dL_law_690 rfl (by decide) rfl (by decide) (by decide) rfl rfl (Nat.le_of_ble_eq_true rfl)) (fun r1 I1 h1 => ?_)
  refine j_aload_n (pc := 693) dL_law_693 rfl ?_
  refine j_aload_n (pc := 694) dL_law_694 rfl ?_
  refine j_iload_n (pc := 695) dL_law_695 rfl ?_
  refine j_iconst (pc := 696) dL_law_696 ?_
  refine j_iadd (pc := 697) dL_law_697 ?_
  refine j_scrI (pc := 698) (i + 1) (by omega) (by omega) (by omega) dL_law_698 ?_
  refine j_aload_n (pc := 699) dL_law_699 rfl ?_
  refine j_iload_n (pc := 700) dL_law_700 rfl ?_
  refine j_iconst (pc := 701) dL_law_701 ?_
  refine j_iadd (pc := 702) dL_law_702 ?_
  refine j_scrI (pc := 703) (i + 2) (by omega) (by omega) (by omega) dL_law_703 ?_
  refine j_goI (pc := 704) (j_runV k_L_89 m_X12_softest (h1) dL_law_704 rfl (by decide) rfl (by decide) (by decide) rfl rfl (Nat.le_of_ble_eq_true rfl)) (fun r2 I2 h2 => ?_)
  obtain ⟨e2, hI2⟩ := h2
  subst e2
  exact j_same (pc := 707) 1126 dL_law_707 (by decide) (kn I2 hI2)
set_option maxHeartbeats 1000000 in
theorem lw_18 (X : jX) (nm : String) (i : Nat) (I : jMI) (hI : Inv I) (hL : X.2.2.2.2.2.2.1 ≤ 320) (hi : i + 5 ≤ X.2.2.2.2.2.2.1) (hx : ∀ j, -2147483648 ≤ X.2.2.2.2.2.2.2 j ∧ X.2.2.2.2.2.2.2 j < 2147483648) (kn : ∀ I', Inv I' → lwS X nm 1126 (lwL i) [] I') : lwS X nm 712 (lwL i) [] I := by
  refine j_aload_n (pc := 712) dL_law_712 rfl ?_
  refine j_aload_n (pc := 713) dL_law_713 rfl ?_
  refine j_iload_n (pc := 714) dL_law_714 rfl ?_
  refine j_iconst (pc := 715) dL_law_715 ?_
  refine j_iadd (pc := 716) dL_law_716 ?_
  refine j_scrI (pc := 717) (i + 1) (by omega) (by omega) (by omega) dL_law_717 ?_
  refine j_aload_n (pc := 718) dL_law_718 rfl ?_
  refine j_iload_n (pc := 719) dL_law_719 rfl ?_
  refine j_iconst (pc := 720) dL_law_720 ?_
  refine j_iadd (pc := 721) dL_law_721 ?_
  refine j_scrI (pc := 722) (i + 2) (by omega) (by omega) (by omega) dL_law_722 ?_
  refine j_goI (pc := 723) (j_runV k_L_90 m_X11_schedule (o_schedule X I (X.2.2.2.2.2.2.2 (i + 1)) (X.2.2.2.2.2.2.2 (i + 2)) hI (hx _) (hx _)) dL_law_723 rfl (by decide) rfl (by decide) (by decide) rfl rfl (Nat.le_of_ble_eq_true rfl)) (fun r1 I1 h1 => ?_)
  refine j_aload_n (pc := 726) dL_law_726 rfl ?_
  refine j_aload_n (pc := 727) dL_law_727 rfl ?_
  refine j_iload_n (pc := 728) dL_law_728 rfl ?_
  refine j_iconst (pc := 729) dL_law_729 ?_
  refine j_iadd (pc := 730) dL_law_730 ?_
  refine j_scrI (pc := 731) (i + 1) (by omega) (by omega) (by omega) dL_law_731 ?_
  refine j_aload_n (pc := 732) dL_law_732 rfl ?_
  refine j_iload_n (pc := 733) dL_law_733 rfl ?_
  refine j_iconst (pc := 734) dL_law_734 ?_
  refine j_iadd (pc := 735) dL_law_735 ?_
  refine j_scrI (pc := 736) (i + 2) (by omega) (by omega) (by omega) dL_law_736 ?_
  refine j_goI (pc := 737) (j_runV k_L_93 m_X12_schedule (h1) dL_law_737 rfl (by decide) rfl (by decide) (by decide) rfl rfl (Nat.le_of_ble_eq_true rfl)) (fun r2 I2 h2 => ?_)
  obtain ⟨e2, hI2⟩ := h2
  subst e2
  exact j_same (pc := 740) 1126 dL_law_740 (by decide) (kn I2 hI2)
set_option maxHeartbeats 1000000 in
theorem lw_19 (X : jX) (nm : String) (i : Nat) (I : jMI) (hI : Inv I) (hL : X.2.2.2.2.2.2.1 ≤ 320) (hi : i + 5 ≤ X.2.2.2.2.2.2.1) (hx : ∀ j, -2147483648 ≤ X.2.2.2.2.2.2.2 j ∧ X.2.2.2.2.2.2.2 j < 2147483648) (kn : ∀ I', Inv I' → lwS X nm 1126 (lwL i) [] I') : lwS X nm 745 (lwL i) [] I := by
  refine j_aload_n (pc := 745) dL_law_745 rfl ?_
  refine j_aload_n (pc := 746) dL_law_746 rfl ?_
  refine j_iload_n (pc := 747) dL_law_747 rfl ?_
  refine j_iconst (pc := 748) dL_law_748 ?_
  refine j_iadd (pc := 749) dL_law_749 ?_
  refine j_scrI (pc := 750) (i + 1) (by omega) (by omega) (by omega) dL_law_750 ?_
  refine j_goI (pc := 751) (j_runV k_L_94 m_X11_owed (o_owed X I (X.2.2.2.2.2.2.2 (i + 1)) hI (hx _)) dL_law_751 rfl (by decide) rfl (by decide) (by decide) rfl rfl (Nat.le_of_ble_eq_true rfl)) (fun r1 I1 h1 => ?_)
  refine j_aload_n (pc := 754) dL_law_754 rfl ?_
  refine j_aload_n (pc := 755) dL_law_755 rfl ?_
  refine j_iload_n (pc := 756) dL_law_756 rfl ?_
  refine j_iconst (pc := 757) dL_law_757 ?_
  refine j_iadd (pc := 758) dL_law_758 ?_
  refine j_scrI (pc := 759) (i + 1) (by omega) (by omega) (by omega) dL_law_759 ?_
  refine j_goI (pc := 760) (j_runV k_L_97 m_X12_owed (h1) dL_law_760 rfl (by decide) rfl (by decide) (by decide) rfl rfl (Nat.le_of_ble_eq_true rfl)) (fun r2 I2 h2 => ?_)
  obtain ⟨e2, hI2⟩ := h2
  subst e2
  exact j_same (pc := 763) 1126 dL_law_763 (by decide) (kn I2 hI2)
set_option maxHeartbeats 1000000 in
theorem lw_20 (X : jX) (nm : String) (i : Nat) (I : jMI) (hI : Inv I) (hL : X.2.2.2.2.2.2.1 ≤ 320) (hi : i + 5 ≤ X.2.2.2.2.2.2.1) (hx : ∀ j, -2147483648 ≤ X.2.2.2.2.2.2.2 j ∧ X.2.2.2.2.2.2.2 j < 2147483648) (kn : ∀ I', Inv I' → lwS X nm 1126 (lwL i) [] I') : lwS X nm 768 (lwL i) [] I := by
  refine j_aload_n (pc := 768) dL_law_768 rfl ?_
  refine j_aload_n (pc := 769) dL_law_769 rfl ?_
  refine j_iload_n (pc := 770) dL_law_770 rfl ?_
  refine j_iconst (pc := 771) dL_law_771 ?_
  refine j_iadd (pc := 772) dL_law_772 ?_
  refine j_scrI (pc := 773) (i + 1) (by omega) (by omega) (by omega) dL_law_773 ?_
  refine j_goI (pc := 774) (j_runV k_L_98 m_X11_took (o_took X I (X.2.2.2.2.2.2.2 (i + 1)) hI (hx _)) dL_law_774 rfl (by decide) rfl (by decide) (by decide) rfl rfl (Nat.le_of_ble_eq_true rfl)) (fun r1 I1 h1 => ?_)
  refine j_aload_n (pc := 777) dL_law_777 rfl ?_
  refine j_aload_n (pc := 778) dL_law_778 rfl ?_
  refine j_iload_n (pc := 779) dL_law_779 rfl ?_
  refine j_iconst (pc := 780) dL_law_780 ?_
  refine j_iadd (pc := 781) dL_law_781 ?_
  refine j_scrI (pc := 782) (i + 1) (by omega) (by omega) (by omega) dL_law_782 ?_
  refine j_goI (pc := 783) (j_runV k_L_101 m_X12_took (h1) dL_law_783 rfl (by decide) rfl (by decide) (by decide) rfl rfl (Nat.le_of_ble_eq_true rfl)) (fun r2 I2 h2 => ?_)
  obtain ⟨e2, hI2⟩ := h2
  subst e2
  exact j_same (pc := 786) 1126 dL_law_786 (by decide) (kn I2 hI2)
set_option maxHeartbeats 1000000 in
theorem lw_21 (X : jX) (nm : String) (i : Nat) (I : jMI) (hI : Inv I) (hL : X.2.2.2.2.2.2.1 ≤ 320) (hi : i + 5 ≤ X.2.2.2.2.2.2.1) (hx : ∀ j, -2147483648 ≤ X.2.2.2.2.2.2.2 j ∧ X.2.2.2.2.2.2.2 j < 2147483648) (kn : ∀ I', Inv I' → lwS X nm 1126 (lwL i) [] I') : lwS X nm 791 (lwL i) [] I := by
  refine j_aload_n (pc := 791) dL_law_791 rfl ?_
  refine j_goI (pc := 792) (j_runV k_L_102 m_X11_canNot (o_canNot X I hI) dL_law_792 rfl (by decide) rfl (by decide) (by decide) rfl rfl (Nat.le_of_ble_eq_true rfl)) (fun r1 I1 h1 => ?_)
  refine j_aload_n (pc := 795) dL_law_795 rfl ?_
  refine j_goI (pc := 796) (j_runV k_L_105 m_X12_canNot (h1) dL_law_796 rfl (by decide) rfl (by decide) (by decide) rfl rfl (Nat.le_of_ble_eq_true rfl)) (fun r2 I2 h2 => ?_)
  obtain ⟨e2, hI2⟩ := h2
  subst e2
  exact j_same (pc := 799) 1126 dL_law_799 (by decide) (kn I2 hI2)
set_option maxHeartbeats 1000000 in
theorem lw_22 (X : jX) (nm : String) (i : Nat) (I : jMI) (hI : Inv I) (hL : X.2.2.2.2.2.2.1 ≤ 320) (hi : i + 5 ≤ X.2.2.2.2.2.2.1) (hx : ∀ j, -2147483648 ≤ X.2.2.2.2.2.2.2 j ∧ X.2.2.2.2.2.2.2 j < 2147483648) (kn : ∀ I', Inv I' → lwS X nm 1126 (lwL i) [] I') : lwS X nm 804 (lwL i) [] I := by
  refine j_aload_n (pc := 804) dL_law_804 rfl ?_
  refine j_aload_n (pc := 805) dL_law_805 rfl ?_
  refine j_iload_n (pc := 806) dL_law_806 rfl ?_
  refine j_iconst (pc := 807) dL_law_807 ?_
  refine j_iadd (pc := 808) dL_law_808 ?_
  refine j_scrI (pc := 809) (i + 1) (by omega) (by omega) (by omega) dL_law_809 ?_
  refine j_aload_n (pc := 810) dL_law_810 rfl ?_
  refine j_iload_n (pc := 811) dL_law_811 rfl ?_
  refine j_iconst (pc := 812) dL_law_812 ?_
  refine j_iadd (pc := 813) dL_law_813 ?_
  refine j_scrI (pc := 814) (i + 2) (by omega) (by omega) (by omega) dL_law_814 ?_
  refine j_aload_n (pc := 815) dL_law_815 rfl ?_
  refine j_iload_n (pc := 816) dL_law_816 rfl ?_
  refine j_iconst (pc := 817) dL_law_817 ?_
  refine j_iadd (pc := 818) dL_law_818 ?_
  refine j_scrI (pc := 819) (i + 3) (by omega) (by omega) (by omega) dL_law_819 ?_
  refine j_goI (pc := 820) (j_runV k_L_106 m_X11_heard (o_heard X I (X.2.2.2.2.2.2.2 (i + 1)) (X.2.2.2.2.2.2.2 (i + 2)) (X.2.2.2.2.2.2.2 (i + 3)) hI (hx _) (hx _) (hx _)) dL_law_820 rfl (by decide) rfl (by decide) (by decide) rfl rfl (Nat.le_of_ble_eq_true rfl)) (fun r1 I1 h1 => ?_)
  refine j_aload_n (pc := 823) dL_law_823 rfl ?_
  refine j_aload_n (pc := 824) dL_law_824 rfl ?_
  refine j_iload_n (pc := 825) dL_law_825 rfl ?_
  refine j_iconst (pc := 826) dL_law_826 ?_
  refine j_iadd (pc := 827) dL_law_827 ?_
  refine j_scrI (pc := 828) (i + 1) (by omega) (by omega) (by omega) dL_law_828 ?_
  refine j_aload_n (pc := 829) dL_law_829 rfl ?_
  refine j_iload_n (pc := 830) dL_law_830 rfl ?_
  refine j_iconst (pc := 831) dL_law_831 ?_
  refine j_iadd (pc := 832) dL_law_832 ?_
  refine j_scrI (pc := 833) (i + 2) (by omega) (by omega) (by omega) dL_law_833 ?_
  refine j_aload_n (pc := 834) dL_law_834 rfl ?_
  refine j_iload_n (pc := 835) dL_law_835 rfl ?_
  refine j_iconst (pc := 836) dL_law_836 ?_
  refine j_iadd (pc := 837) dL_law_837 ?_
  refine j_scrI (pc := 838) (i + 3) (by omega) (by omega) (by omega) dL_law_838 ?_
  refine j_goI (pc := 839) (j_runV k_L_109 m_X12_heard (h1) dL_law_839 rfl (by decide) rfl (by decide) (by decide) rfl rfl (Nat.le_of_ble_eq_true rfl)) (fun r2 I2 h2 => ?_)
  obtain ⟨e2, hI2⟩ := h2
  subst e2
  exact j_same (pc := 842) 1126 dL_law_842 (by decide) (kn I2 hI2)
set_option maxHeartbeats 1000000 in
theorem lw_23 (X : jX) (nm : String) (i : Nat) (I : jMI) (hI : Inv I) (hL : X.2.2.2.2.2.2.1 ≤ 320) (hi : i + 5 ≤ X.2.2.2.2.2.2.1) (hx : ∀ j, -2147483648 ≤ X.2.2.2.2.2.2.2 j ∧ X.2.2.2.2.2.2.2 j < 2147483648) (kn : ∀ I', Inv I' → lwS X nm 1126 (lwL i) [] I') : lwS X nm 847 (lwL i) [] I := by
  refine j_aload_n (pc := 847) dL_law_847 rfl ?_
  refine j_goI (pc := 848) (j_runV k_L_110 m_X11_forget (o_forget X I hI) dL_law_848 rfl (by decide) rfl (by decide) (by decide) rfl rfl (Nat.le_of_ble_eq_true rfl)) (fun r1 I1 h1 => ?_)
  refine j_aload_n (pc := 851) dL_law_851 rfl ?_
  refine j_goI (pc := 852) (j_runV k_L_113 m_X12_forget (h1) dL_law_852 rfl (by decide) rfl (by decide) (by decide) rfl rfl (Nat.le_of_ble_eq_true rfl)) (fun r2 I2 h2 => ?_)
  obtain ⟨e2, hI2⟩ := h2
  subst e2
  exact j_same (pc := 855) 1126 dL_law_855 (by decide) (kn I2 hI2)
set_option maxHeartbeats 1000000 in
theorem lw_24 (X : jX) (nm : String) (i : Nat) (I : jMI) (hI : Inv I) (hL : X.2.2.2.2.2.2.1 ≤ 320) (hi : i + 5 ≤ X.2.2.2.2.2.2.1) (hx : ∀ j, -2147483648 ≤ X.2.2.2.2.2.2.2 j ∧ X.2.2.2.2.2.2.2 j < 2147483648) (kn : ∀ I', Inv I' → lwS X nm 1126 (lwL i) [] I') : lwS X nm 860 (lwL i) [] I := by
  refine j_aload_n (pc := 860) dL_law_860 rfl ?_
  refine j_aload_n (pc := 861) dL_law_861 rfl ?_
  refine j_iload_n (pc := 862) dL_law_862 rfl ?_
  refine j_iconst (pc := 863) dL_law_863 ?_
  refine j_iadd (pc := 864) dL_law_864 ?_
  refine j_scrI (pc := 865) (i + 1) (by omega) (by omega) (by omega) dL_law_865 ?_
  refine j_goI (pc := 866) (j_runV k_L_114 m_X11_may (o_may X I (X.2.2.2.2.2.2.2 (i + 1)) hI (hx _)) dL_law_866 rfl (by decide) rfl (by decide) (by decide) rfl rfl (Nat.le_of_ble_eq_true rfl)) (fun r1 I1 h1 => ?_)
  refine j_aload_n (pc := 869) dL_law_869 rfl ?_
  refine j_aload_n (pc := 870) dL_law_870 rfl ?_
  refine j_iload_n (pc := 871) dL_law_871 rfl ?_
  refine j_iconst (pc := 872) dL_law_872 ?_
  refine j_iadd (pc := 873) dL_law_873 ?_
  refine j_scrI (pc := 874) (i + 1) (by omega) (by omega) (by omega) dL_law_874 ?_
  refine j_goI (pc := 875) (j_runV k_L_117 m_X12_may (h1) dL_law_875 rfl (by decide) rfl (by decide) (by decide) rfl rfl (Nat.le_of_ble_eq_true rfl)) (fun r2 I2 h2 => ?_)
  obtain ⟨e2, hI2⟩ := h2
  subst e2
  exact j_same (pc := 878) 1126 dL_law_878 (by decide) (kn I2 hI2)
set_option maxHeartbeats 1000000 in
theorem lw_25 (X : jX) (nm : String) (i : Nat) (I : jMI) (hI : Inv I) (hL : X.2.2.2.2.2.2.1 ≤ 320) (hi : i + 5 ≤ X.2.2.2.2.2.2.1) (hx : ∀ j, -2147483648 ≤ X.2.2.2.2.2.2.2 j ∧ X.2.2.2.2.2.2.2 j < 2147483648) (kn : ∀ I', Inv I' → lwS X nm 1126 (lwL i) [] I') : lwS X nm 883 (lwL i) [] I := by
  refine j_aload_n (pc := 883) dL_law_883 rfl ?_
  refine j_goL (pc := 884) (j_runV k_L_118 m_X11_ways (o_ways X I hI) dL_law_884 rfl (by decide) rfl (by decide) (by decide) rfl rfl (Nat.le_of_ble_eq_true rfl)) (fun r1 I1 h1 => ?_)
  refine j_aload_n (pc := 887) dL_law_887 rfl ?_
  refine j_goL (pc := 888) (j_runV k_L_122 m_X12_ways (h1) dL_law_888 rfl (by decide) rfl (by decide) (by decide) rfl rfl (Nat.le_of_ble_eq_true rfl)) (fun r2 I2 h2 => ?_)
  obtain ⟨e2, hI2⟩ := h2
  subst e2
  exact j_sameL (pc := 891) 1126 dL_law_891 dL_law_892 (by decide) (kn I2 hI2)
set_option maxHeartbeats 1000000 in
theorem lw_26 (X : jX) (nm : String) (i : Nat) (I : jMI) (hI : Inv I) (hL : X.2.2.2.2.2.2.1 ≤ 320) (hi : i + 5 ≤ X.2.2.2.2.2.2.1) (hx : ∀ j, -2147483648 ≤ X.2.2.2.2.2.2.2 j ∧ X.2.2.2.2.2.2.2 j < 2147483648) (kn : ∀ I', Inv I' → lwS X nm 1126 (lwL i) [] I') : lwS X nm 897 (lwL i) [] I := by
  refine j_aload_n (pc := 897) dL_law_897 rfl ?_
  refine j_aload_n (pc := 898) dL_law_898 rfl ?_
  refine j_iload_n (pc := 899) dL_law_899 rfl ?_
  refine j_iconst (pc := 900) dL_law_900 ?_
  refine j_iadd (pc := 901) dL_law_901 ?_
  refine j_scrI (pc := 902) (i + 1) (by omega) (by omega) (by omega) dL_law_902 ?_
  refine j_goI (pc := 903) (j_runV k_L_123 m_X11_listen (o_listen X I (X.2.2.2.2.2.2.2 (i + 1)) hI (hx _)) dL_law_903 rfl (by decide) rfl (by decide) (by decide) rfl rfl (Nat.le_of_ble_eq_true rfl)) (fun r1 I1 h1 => ?_)
  refine j_aload_n (pc := 906) dL_law_906 rfl ?_
  refine j_aload_n (pc := 907) dL_law_907 rfl ?_
  refine j_iload_n (pc := 908) dL_law_908 rfl ?_
  refine j_iconst (pc := 909) dL_law_909 ?_
  refine j_iadd (pc := 910) dL_law_910 ?_
  refine j_scrI (pc := 911) (i + 1) (by omega) (by omega) (by omega) dL_law_911 ?_
  refine j_goI (pc := 912) (j_runV k_L_126 m_X12_listen (h1) dL_law_912 rfl (by decide) rfl (by decide) (by decide) rfl rfl (Nat.le_of_ble_eq_true rfl)) (fun r2 I2 h2 => ?_)
  obtain ⟨e2, hI2⟩ := h2
  subst e2
  exact j_same (pc := 915) 1126 dL_law_915 (by decide) (kn I2 hI2)
set_option maxHeartbeats 1000000 in
theorem lw_27 (X : jX) (nm : String) (i : Nat) (I : jMI) (hI : Inv I) (hL : X.2.2.2.2.2.2.1 ≤ 320) (hi : i + 5 ≤ X.2.2.2.2.2.2.1) (hx : ∀ j, -2147483648 ≤ X.2.2.2.2.2.2.2 j ∧ X.2.2.2.2.2.2.2 j < 2147483648) (kn : ∀ I', Inv I' → lwS X nm 1126 (lwL i) [] I') : lwS X nm 920 (lwL i) [] I := by
  refine j_aload_n (pc := 920) dL_law_920 rfl ?_
  refine j_aload_n (pc := 921) dL_law_921 rfl ?_
  refine j_iload_n (pc := 922) dL_law_922 rfl ?_
  refine j_iconst (pc := 923) dL_law_923 ?_
  refine j_iadd (pc := 924) dL_law_924 ?_
  refine j_scrI (pc := 925) (i + 1) (by omega) (by omega) (by omega) dL_law_925 ?_
  refine j_aload_n (pc := 926) dL_law_926 rfl ?_
  refine j_iload_n (pc := 927) dL_law_927 rfl ?_
  refine j_iconst (pc := 928) dL_law_928 ?_
  refine j_iadd (pc := 929) dL_law_929 ?_
  refine j_scrI (pc := 930) (i + 2) (by omega) (by omega) (by omega) dL_law_930 ?_
  refine j_aload_n (pc := 931) dL_law_931 rfl ?_
  refine j_iload_n (pc := 932) dL_law_932 rfl ?_
  refine j_iconst (pc := 933) dL_law_933 ?_
  refine j_iadd (pc := 934) dL_law_934 ?_
  refine j_scrI (pc := 935) (i + 3) (by omega) (by omega) (by omega) dL_law_935 ?_
  refine j_goI (pc := 936) (j_runV k_L_127 m_X11_clocks (o_clocks X I (X.2.2.2.2.2.2.2 (i + 1)) (X.2.2.2.2.2.2.2 (i + 2)) (X.2.2.2.2.2.2.2 (i + 3)) hI (hx _) (hx _) (hx _)) dL_law_936 rfl (by decide) rfl (by decide) (by decide) rfl rfl (Nat.le_of_ble_eq_true rfl)) (fun r1 I1 h1 => ?_)
  refine j_aload_n (pc := 939) dL_law_939 rfl ?_
  refine j_aload_n (pc := 940) dL_law_940 rfl ?_
  refine j_iload_n (pc := 941) dL_law_941 rfl ?_
  refine j_iconst (pc := 942) dL_law_942 ?_
  refine j_iadd (pc := 943) dL_law_943 ?_
  refine j_scrI (pc := 944) (i + 1) (by omega) (by omega) (by omega) dL_law_944 ?_
  refine j_aload_n (pc := 945) dL_law_945 rfl ?_
  refine j_iload_n (pc := 946) dL_law_946 rfl ?_
  refine j_iconst (pc := 947) dL_law_947 ?_
  refine j_iadd (pc := 948) dL_law_948 ?_
  refine j_scrI (pc := 949) (i + 2) (by omega) (by omega) (by omega) dL_law_949 ?_
  refine j_aload_n (pc := 950) dL_law_950 rfl ?_
  refine j_iload_n (pc := 951) dL_law_951 rfl ?_
  refine j_iconst (pc := 952) dL_law_952 ?_
  refine j_iadd (pc := 953) dL_law_953 ?_
  refine j_scrI (pc := 954) (i + 3) (by omega) (by omega) (by omega) dL_law_954 ?_
  refine j_goI (pc := 955) (j_runV k_L_130 m_X12_clocks (h1) dL_law_955 rfl (by decide) rfl (by decide) (by decide) rfl rfl (Nat.le_of_ble_eq_true rfl)) (fun r2 I2 h2 => ?_)
  obtain ⟨e2, hI2⟩ := h2
  subst e2
  exact j_same (pc := 958) 1126 dL_law_958 (by decide) (kn I2 hI2)
set_option maxHeartbeats 1000000 in
theorem lw_28 (X : jX) (nm : String) (i : Nat) (I : jMI) (hI : Inv I) (hL : X.2.2.2.2.2.2.1 ≤ 320) (hi : i + 5 ≤ X.2.2.2.2.2.2.1) (hx : ∀ j, -2147483648 ≤ X.2.2.2.2.2.2.2 j ∧ X.2.2.2.2.2.2.2 j < 2147483648) (kn : ∀ I', Inv I' → lwS X nm 1126 (lwL i) [] I') : lwS X nm 963 (lwL i) [] I := by
  refine j_aload_n (pc := 963) dL_law_963 rfl ?_
  refine j_aload_n (pc := 964) dL_law_964 rfl ?_
  refine j_iload_n (pc := 965) dL_law_965 rfl ?_
  refine j_iconst (pc := 966) dL_law_966 ?_
  refine j_iadd (pc := 967) dL_law_967 ?_
  refine j_scrI (pc := 968) (i + 1) (by omega) (by omega) (by omega) dL_law_968 ?_
  refine j_aload_n (pc := 969) dL_law_969 rfl ?_
  refine j_iload_n (pc := 970) dL_law_970 rfl ?_
  refine j_iconst (pc := 971) dL_law_971 ?_
  refine j_iadd (pc := 972) dL_law_972 ?_
  refine j_scrI (pc := 973) (i + 2) (by omega) (by omega) (by omega) dL_law_973 ?_
  refine j_goI (pc := 974) (j_runV k_L_131 m_X11_nights (o_nights X I (X.2.2.2.2.2.2.2 (i + 1)) (X.2.2.2.2.2.2.2 (i + 2)) hI (hx _) (hx _)) dL_law_974 rfl (by decide) rfl (by decide) (by decide) rfl rfl (Nat.le_of_ble_eq_true rfl)) (fun r1 I1 h1 => ?_)
  refine j_aload_n (pc := 977) dL_law_977 rfl ?_
  refine j_aload_n (pc := 978) dL_law_978 rfl ?_
  refine j_iload_n (pc := 979) dL_law_979 rfl ?_
  refine j_iconst (pc := 980) dL_law_980 ?_
  refine j_iadd (pc := 981) dL_law_981 ?_
  refine j_scrI (pc := 982) (i + 1) (by omega) (by omega) (by omega) dL_law_982 ?_
  refine j_aload_n (pc := 983) dL_law_983 rfl ?_
  refine j_iload_n (pc := 984) dL_law_984 rfl ?_
  refine j_iconst (pc := 985) dL_law_985 ?_
  refine j_iadd (pc := 986) dL_law_986 ?_
  refine j_scrI (pc := 987) (i + 2) (by omega) (by omega) (by omega) dL_law_987 ?_
  refine j_goI (pc := 988) (j_runV k_L_134 m_X12_nights (h1) dL_law_988 rfl (by decide) rfl (by decide) (by decide) rfl rfl (Nat.le_of_ble_eq_true rfl)) (fun r2 I2 h2 => ?_)
  obtain ⟨e2, hI2⟩ := h2
  subst e2
  exact j_same (pc := 991) 1126 dL_law_991 (by decide) (kn I2 hI2)
set_option maxHeartbeats 1000000 in
theorem lw_29 (X : jX) (nm : String) (i : Nat) (I : jMI) (hI : Inv I) (hL : X.2.2.2.2.2.2.1 ≤ 320) (hi : i + 5 ≤ X.2.2.2.2.2.2.1) (hx : ∀ j, -2147483648 ≤ X.2.2.2.2.2.2.2 j ∧ X.2.2.2.2.2.2.2 j < 2147483648) (kn : ∀ I', Inv I' → lwS X nm 1126 (lwL i) [] I') : lwS X nm 996 (lwL i) [] I := by
  refine j_aload_n (pc := 996) dL_law_996 rfl ?_
  refine j_aload_n (pc := 997) dL_law_997 rfl ?_
  refine j_iload_n (pc := 998) dL_law_998 rfl ?_
  refine j_iconst (pc := 999) dL_law_999 ?_
  refine j_iadd (pc := 1000) dL_law_1000 ?_
  refine j_scrI (pc := 1001) (i + 1) (by omega) (by omega) (by omega) dL_law_1001 ?_
  refine j_goL (pc := 1002) (j_runV k_L_135 m_X11_part (o_part X I (X.2.2.2.2.2.2.2 (i + 1)) hI (hx _)) dL_law_1002 rfl (by decide) rfl (by decide) (by decide) rfl rfl (Nat.le_of_ble_eq_true rfl)) (fun r1 I1 h1 => ?_)
  refine j_aload_n (pc := 1005) dL_law_1005 rfl ?_
  refine j_aload_n (pc := 1006) dL_law_1006 rfl ?_
  refine j_iload_n (pc := 1007) dL_law_1007 rfl ?_
  refine j_iconst (pc := 1008) dL_law_1008 ?_
  refine j_iadd (pc := 1009) dL_law_1009 ?_
  refine j_scrI (pc := 1010) (i + 1) (by omega) (by omega) (by omega) dL_law_1010 ?_
  refine j_goL (pc := 1011) (j_runV k_L_139 m_X12_part (h1) dL_law_1011 rfl (by decide) rfl (by decide) (by decide) rfl rfl (Nat.le_of_ble_eq_true rfl)) (fun r2 I2 h2 => ?_)
  obtain ⟨e2, hI2⟩ := h2
  subst e2
  exact j_sameL (pc := 1014) 1126 dL_law_1014 dL_law_1015 (by decide) (kn I2 hI2)
set_option maxHeartbeats 1000000 in
theorem lw_30 (X : jX) (nm : String) (i : Nat) (I : jMI) (hI : Inv I) (hL : X.2.2.2.2.2.2.1 ≤ 320) (hi : i + 5 ≤ X.2.2.2.2.2.2.1) (hx : ∀ j, -2147483648 ≤ X.2.2.2.2.2.2.2 j ∧ X.2.2.2.2.2.2.2 j < 2147483648) (kn : ∀ I', Inv I' → lwS X nm 1126 (lwL i) [] I') : lwS X nm 1020 (lwL i) [] I := by
  refine j_aload_n (pc := 1020) dL_law_1020 rfl ?_
  refine j_aload_n (pc := 1021) dL_law_1021 rfl ?_
  refine j_iload_n (pc := 1022) dL_law_1022 rfl ?_
  refine j_iconst (pc := 1023) dL_law_1023 ?_
  refine j_iadd (pc := 1024) dL_law_1024 ?_
  refine j_scrI (pc := 1025) (i + 1) (by omega) (by omega) (by omega) dL_law_1025 ?_
  refine j_goI (pc := 1026) (j_runV k_L_140 m_X11_image (o_image X I (X.2.2.2.2.2.2.2 (i + 1)) hI (hx _)) dL_law_1026 rfl (by decide) rfl (by decide) (by decide) rfl rfl (Nat.le_of_ble_eq_true rfl)) (fun r1 I1 h1 => ?_)
  refine j_aload_n (pc := 1029) dL_law_1029 rfl ?_
  refine j_aload_n (pc := 1030) dL_law_1030 rfl ?_
  refine j_iload_n (pc := 1031) dL_law_1031 rfl ?_
  refine j_iconst (pc := 1032) dL_law_1032 ?_
  refine j_iadd (pc := 1033) dL_law_1033 ?_
  refine j_scrI (pc := 1034) (i + 1) (by omega) (by omega) (by omega) dL_law_1034 ?_
  refine j_goI (pc := 1035) (j_runV k_L_143 m_X12_image (h1) dL_law_1035 rfl (by decide) rfl (by decide) (by decide) rfl rfl (Nat.le_of_ble_eq_true rfl)) (fun r2 I2 h2 => ?_)
  obtain ⟨e2, hI2⟩ := h2
  subst e2
  exact j_same (pc := 1038) 1126 dL_law_1038 (by decide) (kn I2 hI2)
set_option maxHeartbeats 1000000 in
theorem lw_31 (X : jX) (nm : String) (i : Nat) (I : jMI) (hI : Inv I) (hL : X.2.2.2.2.2.2.1 ≤ 320) (hi : i + 5 ≤ X.2.2.2.2.2.2.1) (hx : ∀ j, -2147483648 ≤ X.2.2.2.2.2.2.2 j ∧ X.2.2.2.2.2.2.2 j < 2147483648) (kn : ∀ I', Inv I' → lwS X nm 1126 (lwL i) [] I') : lwS X nm 1043 (lwL i) [] I := by
  refine j_aload_n (pc := 1043) dL_law_1043 rfl ?_
  refine j_aload_n (pc := 1044) dL_law_1044 rfl ?_
  refine j_iload_n (pc := 1045) dL_law_1045 rfl ?_
  refine j_iconst (pc := 1046) dL_law_1046 ?_
  refine j_iadd (pc := 1047) dL_law_1047 ?_
  refine j_scrI (pc := 1048) (i + 1) (by omega) (by omega) (by omega) dL_law_1048 ?_
  refine j_goI (pc := 1049) (j_runV k_L_144 m_X11_from (o_from X I (X.2.2.2.2.2.2.2 (i + 1)) hI (hx _)) dL_law_1049 rfl (by decide) rfl (by decide) (by decide) rfl rfl (Nat.le_of_ble_eq_true rfl)) (fun r1 I1 h1 => ?_)
  refine j_aload_n (pc := 1052) dL_law_1052 rfl ?_
  refine j_aload_n (pc := 1053) dL_law_1053 rfl ?_
  refine j_iload_n (pc := 1054) dL_law_1054 rfl ?_
  refine j_iconst (pc := 1055) dL_law_1055 ?_
  refine j_iadd (pc := 1056) dL_law_1056 ?_
  refine j_scrI (pc := 1057) (i + 1) (by omega) (by omega) (by omega) dL_law_1057 ?_
  refine j_goI (pc := 1058) (j_runV k_L_147 m_X12_from (h1) dL_law_1058 rfl (by decide) rfl (by decide) (by decide) rfl rfl (Nat.le_of_ble_eq_true rfl)) (fun r2 I2 h2 => ?_)
  obtain ⟨e2, hI2⟩ := h2
  subst e2
  exact j_same (pc := 1061) 1126 dL_law_1061 (by decide) (kn I2 hI2)
set_option maxHeartbeats 1000000 in
theorem lw_32 (X : jX) (nm : String) (i : Nat) (I : jMI) (hI : Inv I) (hL : X.2.2.2.2.2.2.1 ≤ 320) (hi : i + 5 ≤ X.2.2.2.2.2.2.1) (hx : ∀ j, -2147483648 ≤ X.2.2.2.2.2.2.2 j ∧ X.2.2.2.2.2.2.2 j < 2147483648) (kn : ∀ I', Inv I' → lwS X nm 1126 (lwL i) [] I') : lwS X nm 1066 (lwL i) [] I := by
  refine j_aload_n (pc := 1066) dL_law_1066 rfl ?_
  refine j_aload_n (pc := 1067) dL_law_1067 rfl ?_
  refine j_iload_n (pc := 1068) dL_law_1068 rfl ?_
  refine j_iconst (pc := 1069) dL_law_1069 ?_
  refine j_iadd (pc := 1070) dL_law_1070 ?_
  refine j_scrI (pc := 1071) (i + 1) (by omega) (by omega) (by omega) dL_law_1071 ?_
  refine j_goI (pc := 1072) (j_runV k_L_148 m_X11_status (o_status X I (X.2.2.2.2.2.2.2 (i + 1)) hI (hx _)) dL_law_1072 rfl (by decide) rfl (by decide) (by decide) rfl rfl (Nat.le_of_ble_eq_true rfl)) (fun r1 I1 h1 => ?_)
  refine j_aload_n (pc := 1075) dL_law_1075 rfl ?_
  refine j_aload_n (pc := 1076) dL_law_1076 rfl ?_
  refine j_iload_n (pc := 1077) dL_law_1077 rfl ?_
  refine j_iconst (pc := 1078) dL_law_1078 ?_
  refine j_iadd (pc := 1079) dL_law_1079 ?_
  refine j_scrI (pc := 1080) (i + 1) (by omega) (by omega) (by omega) dL_law_1080 ?_
  refine j_goI (pc := 1081) (j_runV k_L_151 m_X12_status (h1) dL_law_1081 rfl (by decide) rfl (by decide) (by decide) rfl rfl (Nat.le_of_ble_eq_true rfl)) (fun r2 I2 h2 => ?_)
  obtain ⟨e2, hI2⟩ := h2
  subst e2
  exact j_same (pc := 1084) 1126 dL_law_1084 (by decide) (kn I2 hI2)
set_option maxHeartbeats 1000000 in
theorem lw_33 (X : jX) (nm : String) (i : Nat) (I : jMI) (hI : Inv I) (hL : X.2.2.2.2.2.2.1 ≤ 320) (hi : i + 5 ≤ X.2.2.2.2.2.2.1) (hx : ∀ j, -2147483648 ≤ X.2.2.2.2.2.2.2 j ∧ X.2.2.2.2.2.2.2 j < 2147483648) (kn : ∀ I', Inv I' → lwS X nm 1126 (lwL i) [] I') : lwS X nm 1089 (lwL i) [] I := by
  refine j_aload_n (pc := 1089) dL_law_1089 rfl ?_
  refine j_aload_n (pc := 1090) dL_law_1090 rfl ?_
  refine j_iload_n (pc := 1091) dL_law_1091 rfl ?_
  refine j_iconst (pc := 1092) dL_law_1092 ?_
  refine j_iadd (pc := 1093) dL_law_1093 ?_
  refine j_scrI (pc := 1094) (i + 1) (by omega) (by omega) (by omega) dL_law_1094 ?_
  refine j_goI (pc := 1095) (j_runV k_L_152 m_X11_count (o_count X I (X.2.2.2.2.2.2.2 (i + 1)) hI (hx _)) dL_law_1095 rfl (by decide) rfl (by decide) (by decide) rfl rfl (Nat.le_of_ble_eq_true rfl)) (fun r1 I1 h1 => ?_)
  refine j_aload_n (pc := 1098) dL_law_1098 rfl ?_
  refine j_aload_n (pc := 1099) dL_law_1099 rfl ?_
  refine j_iload_n (pc := 1100) dL_law_1100 rfl ?_
  refine j_iconst (pc := 1101) dL_law_1101 ?_
  refine j_iadd (pc := 1102) dL_law_1102 ?_
  refine j_scrI (pc := 1103) (i + 1) (by omega) (by omega) (by omega) dL_law_1103 ?_
  refine j_goI (pc := 1104) (j_runV k_L_155 m_X12_count (h1) dL_law_1104 rfl (by decide) rfl (by decide) (by decide) rfl rfl (Nat.le_of_ble_eq_true rfl)) (fun r2 I2 h2 => ?_)
  obtain ⟨e2, hI2⟩ := h2
  subst e2
  exact j_same (pc := 1107) 1126 dL_law_1107 (by decide) (kn I2 hI2)
set_option maxHeartbeats 1000000 in
theorem lw_34 (X : jX) (nm : String) (i : Nat) (I : jMI) (hI : Inv I) (hL : X.2.2.2.2.2.2.1 ≤ 320) (hi : i + 5 ≤ X.2.2.2.2.2.2.1) (hx : ∀ j, -2147483648 ≤ X.2.2.2.2.2.2.2 j ∧ X.2.2.2.2.2.2.2 j < 2147483648) (kn : ∀ I', Inv I' → lwS X nm 1126 (lwL i) [] I') : lwS X nm 1112 (lwL i) [] I := by
  refine j_aload_n (pc := 1112) dL_law_1112 rfl ?_
  refine j_goL (pc := 1113) (j_runV k_L_156 m_X11_digest (o_digest X I hI) dL_law_1113 rfl (by decide) rfl (by decide) (by decide) rfl rfl (Nat.le_of_ble_eq_true rfl)) (fun r1 I1 h1 => ?_)
  refine j_aload_n (pc := 1116) dL_law_1116 rfl ?_
  refine j_goL (pc := 1117) (j_runV k_L_159 m_X12_digest (h1) dL_law_1117 rfl (by decide) rfl (by decide) (by decide) rfl rfl (Nat.le_of_ble_eq_true rfl)) (fun r2 I2 h2 => ?_)
  obtain ⟨e2, hI2⟩ := h2
  subst e2
  exact j_sameL (pc := 1120) 1126 dL_law_1120 dL_law_1121 (by decide) (kn I2 hI2)
set_option maxHeartbeats 2000000 in
theorem lw_loop (X : jX) (nm : String) (hL : X.2.2.2.2.2.2.1 ≤ 320) (hx : ∀ j, -2147483648 ≤ X.2.2.2.2.2.2.2 j ∧ X.2.2.2.2.2.2.2 j < 2147483648) : ∀ (i : Nat) (I : jMI), i ≤ 330 → Inv I → lwS X nm 18 (lwL i) [] I := by
  refine mu2 (fun i _ => 400 - i) _ (fun i I ih hi hI => ?_)
  refine j_iload_n (pc := 18) dL_law_18 rfl ?_
  refine j_aload_n (pc := 19) dL_law_19 rfl ?_
  refine j_scrL (pc := 20) dL_law_20 ?_
  refine j_iconst (pc := 21) dL_law_21 ?_
  refine j_isub (pc := 22) dL_law_22 ?_
  refine j_icmp_gt (pc := 23) 1132 dL_law_23 (by decide) (by omega) (by omega) (fun h => ?_) (fun h => ?_)
  · refine j_iconst (pc := 1132) dL_law_1132 ?_
    exact j_retz dL_law_1133 (by omega) rfl rfl
  · have hi5 : i + 5 ≤ X.2.2.2.2.2.2.1 := by omega
    have kn : ∀ I', Inv I' → lwS X nm 1126 (lwL i) [] I' := by
      intro I' hI'
      refine j_iinc3 (pc := 1126) dL_law_1126 (by decide) rfl ?_
      refine j_goto (pc := 1129) 18 dL_law_1129 (by decide) ?_
      exact ih (i + 5) I' (by omega) (by omega) hI'
    refine j_aload_n (pc := 26) dL_law_26 rfl ?_
    refine j_iload_n (pc := 27) dL_law_27 rfl ?_
    refine j_scrI (pc := 28) i rfl (by omega) (by omega) dL_law_28 ?_
    refine j_bipush (pc := 29) dL_law_29 (by decide) ?_
    refine j_iand (pc := 31) dL_law_31 ?_
    have hr := jband_rng (X.2.2.2.2.2.2.2 i) 63
    generalize jband (X.2.2.2.2.2.2.2 i) 63 = w at hr ⊢
    refine j_tsw (pc := 32) dL_law_32 hr (fun _ => j_pcto 1126 (by decide) (kn I hI)) (fun h1 h2 => ?_)
    rcases (show w = 0 ∨ w = 1 ∨ w = 2 ∨ w = 3 ∨ w = 4 ∨ w = 5 ∨ w = 6 ∨ w = 7 ∨ w = 8 ∨ w = 9 ∨ w = 10 ∨ w = 11 ∨ w = 12 ∨ w = 13 ∨ w = 14 ∨ w = 15 ∨ w = 16 ∨ w = 17 ∨ w = 18 ∨ w = 19 ∨ w = 20 ∨ w = 21 ∨ w = 22 ∨ w = 23 ∨ w = 24 ∨ w = 25 ∨ w = 26 ∨ w = 27 ∨ w = 28 ∨ w = 29 ∨ w = 30 ∨ w = 31 ∨ w = 32 ∨ w = 33 ∨ w = 34 by omega) with e | e | e | e | e | e | e | e | e | e | e | e | e | e | e | e | e | e | e | e | e | e | e | e | e | e | e | e | e | e | e | e | e | e | e
    · exact j_swt (156) 188 rfl (by rw [e]; rfl) (by decide) (lw_0 X nm i I hI hL hi5 hx kn)
    · exact j_swt (169) 201 rfl (by rw [e]; rfl) (by decide) (lw_1 X nm i I hI hL hi5 hx kn)
    · exact j_swt (212) 244 rfl (by rw [e]; rfl) (by decide) (lw_2 X nm i I hI hL hi5 hx kn)
    · exact j_swt (255) 287 rfl (by rw [e]; rfl) (by decide) (lw_3 X nm i I hI hL hi5 hx kn)
    · exact j_swt (278) 310 rfl (by rw [e]; rfl) (by decide) (lw_4 X nm i I hI hL hi5 hx kn)
    · exact j_swt (311) 343 rfl (by rw [e]; rfl) (by decide) (lw_5 X nm i I hI hL hi5 hx kn)
    · exact j_swt (334) 366 rfl (by rw [e]; rfl) (by decide) (lw_6 X nm i I hI hL hi5 hx kn)
    · exact j_swt (347) 379 rfl (by rw [e]; rfl) (by decide) (lw_7 X nm i I hI hL hi5 hx kn)
    · exact j_swt (360) 392 rfl (by rw [e]; rfl) (by decide) (lw_8 X nm i I hI hL hi5 hx kn)
    · exact j_swt (393) 425 rfl (by rw [e]; rfl) (by decide) (lw_9 X nm i I hI hL hi5 hx kn)
    · exact j_swt (416) 448 rfl (by rw [e]; rfl) (by decide) (lw_10 X nm i I hI hL hi5 hx kn)
    · exact j_swt (429) 461 rfl (by rw [e]; rfl) (by decide) (lw_11 X nm i I hI hL hi5 hx kn)
    · exact j_swt (462) 494 rfl (by rw [e]; rfl) (by decide) (lw_12 X nm i I hI hL hi5 hx kn)
    · exact j_swt (485) 517 rfl (by rw [e]; rfl) (by decide) (lw_13 X nm i I hI hL hi5 hx kn)
    · exact j_swt (518) 550 rfl (by rw [e]; rfl) (by decide) (lw_14 X nm i I hI hL hi5 hx kn)
    · exact j_swt (561) 593 rfl (by rw [e]; rfl) (by decide) (lw_15 X nm i I hI hL hi5 hx kn)
    · exact j_swt (594) 626 rfl (by rw [e]; rfl) (by decide) (lw_16 X nm i I hI hL hi5 hx kn)
    · exact j_swt (647) 679 rfl (by rw [e]; rfl) (by decide) (lw_17 X nm i I hI hL hi5 hx kn)
    · exact j_swt (680) 712 rfl (by rw [e]; rfl) (by decide) (lw_18 X nm i I hI hL hi5 hx kn)
    · exact j_swt (713) 745 rfl (by rw [e]; rfl) (by decide) (lw_19 X nm i I hI hL hi5 hx kn)
    · exact j_swt (736) 768 rfl (by rw [e]; rfl) (by decide) (lw_20 X nm i I hI hL hi5 hx kn)
    · exact j_swt (759) 791 rfl (by rw [e]; rfl) (by decide) (lw_21 X nm i I hI hL hi5 hx kn)
    · exact j_swt (772) 804 rfl (by rw [e]; rfl) (by decide) (lw_22 X nm i I hI hL hi5 hx kn)
    · exact j_swt (815) 847 rfl (by rw [e]; rfl) (by decide) (lw_23 X nm i I hI hL hi5 hx kn)
    · exact j_swt (828) 860 rfl (by rw [e]; rfl) (by decide) (lw_24 X nm i I hI hL hi5 hx kn)
    · exact j_swt (851) 883 rfl (by rw [e]; rfl) (by decide) (lw_25 X nm i I hI hL hi5 hx kn)
    · exact j_swt (865) 897 rfl (by rw [e]; rfl) (by decide) (lw_26 X nm i I hI hL hi5 hx kn)
    · exact j_swt (888) 920 rfl (by rw [e]; rfl) (by decide) (lw_27 X nm i I hI hL hi5 hx kn)
    · exact j_swt (931) 963 rfl (by rw [e]; rfl) (by decide) (lw_28 X nm i I hI hL hi5 hx kn)
    · exact j_swt (964) 996 rfl (by rw [e]; rfl) (by decide) (lw_29 X nm i I hI hL hi5 hx kn)
    · exact j_swt (988) 1020 rfl (by rw [e]; rfl) (by decide) (lw_30 X nm i I hI hL hi5 hx kn)
    · exact j_swt (1011) 1043 rfl (by rw [e]; rfl) (by decide) (lw_31 X nm i I hI hL hi5 hx kn)
    · exact j_swt (1034) 1066 rfl (by rw [e]; rfl) (by decide) (lw_32 X nm i I hI hL hi5 hx kn)
    · exact j_swt (1057) 1089 rfl (by rw [e]; rfl) (by decide) (lw_33 X nm i I hI hL hi5 hx kn)
    · exact j_swt (1080) 1112 rfl (by rw [e]; rfl) (by decide) (lw_34 X nm i I hI hL hi5 hx kn)
