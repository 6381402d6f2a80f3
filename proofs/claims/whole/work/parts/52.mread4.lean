/-! ===== the reference: sleepers, things, the text ===== -/
theorem adF_n {f : Nat → Int} {t : Nat} {row : Nat → Int} {j : Nat} (hj : j < 27) : ∀ c, adF f t row c j = f j := by
  intro c
  induction c with
  | zero => rfl
  | succ c ih =>
    show mAddOw (adF f t row c) t c (row (c + 1)) j = f j
    unfold mAddOw
    rw [jU_n (by omega), jU_n (by omega)]
    exact ih
set_option maxHeartbeats 4000000 in
theorem c_itSleep (X : jX) (I : jMI) (b : Nat → Int) (n s : Nat) (it ap : Int) (f : Nat → Int) (h : rdT b n s I) (hw0 : ¬ isWd b n s wStair) (hw : isWd b n s wSleep) (hok : okSt f) (hap : ap = 0 ∨ ap = 1) (h12 : I 105 12 = f 5) (h13 : I 105 13 = f 21) (h106 : ap = 1 → I 106 = f) : S_X12_readItem X 192 [some (jR 105), some (jI it), some (jI ap), none, none, none] [] I (itQ b n s ap f I) := by
  have hA := h.wd hw.1
  obtain ⟨m, hm, hm5⟩ := okSt_5 hok
  have hfl : ∀ (J : jMI) (s' : Nat), pItem b n s f = .error s' → J 105 9 = (s' : Nat) → frT I J → S_X12_readItem X 234 [some (jR 105), some (jI it), some (jI ap), none, none, none] [jI 0] J (itQ b n s ap f I) := by
    intro J s' he h9 hfr
    refine j_istore_n3 (pc := 234) dX12_readItem_234 (by decide) rfl ?_
    refine j_aload_n (pc := 235) dX12_readItem_235 rfl ?_
    refine j_dupR (pc := 236) dX12_readItem_236 ?_
    refine j_getI (pc := 237) f_X12_182 dX12_readItem_237 rfl rfl (by decide) ?_
    refine j_iconst (pc := 240) dX12_readItem_240 ?_
    refine j_iadd (pc := 241) dX12_readItem_241 ?_
    refine j_putI_b (pc := 242) f_X12_182 dX12_readItem_242 rfl rfl rfl (by decide) ?_
    refine j_iload_n (pc := 245) dX12_readItem_245 rfl ?_
    refine j_if_eq (pc := 246) 275 dX12_readItem_246 (by decide) (by omega) (fun h_246 => ?_) (fun h_246 => ?_)
    · refine j_iload_n (pc := 275) dX12_readItem_275 rfl ?_
      refine j_if_eq (pc := 276) 290 dX12_readItem_276 (by decide) (by omega) (fun h_276 => ?_) (fun h_276 => ?_)
      · refine j_iconst (pc := 290) dX12_readItem_290 ?_
        refine j_retz dX12_readItem_291 (by omega) (?_) rfl
        refine Or.inr ⟨rfl, s', he, ?_, fun _ => hfr.tr ⟨fun z z1 z2 => jSf_n z1, fun j a b c d e f g => ?_⟩⟩
        · rw [jSf_s, jU_n (by omega)]; exact h9
        · rw [jSf_s, jU_n f]
      · exact absurd rfl h_276
    · exact absurd rfl h_246
  have hsu : ∀ (J : jMI) (a c v : Int) (p1 p2 p3 : Nat), m < 5 → pNum b n (tE b n s) 5 = .ok (a, p1) → pNum b n p1 7 = .ok (c, p2) → pNum b n p2 9 = .ok (v, p3) → (0 ≤ a ∧ a ≤ 5) → (0 ≤ c ∧ c ≤ 7) → (0 ≤ v ∧ v ≤ 9) → rdA b n p3 J → J 109 0 = a → J 109 1 = c → J 109 2 = v → rdP I J → S_X12_readItem X 234 [some (jR 105), some (jI it), some (jI ap), none, none, none] [jI 1] J (itQ b n s ap f I) := by
    intro J a c v p1 p2 p3 hm4 e1 e2 e3 ha hc hv hJ j0 j1 j2 hrd
    have hpi : pItem b n s f = pStop b n p3 (mAddSl f m a c v) := by
      rw [pItem_sl hw0 hw, pSleep_4 (by omega) e1 e2 e3, hm, Int.toNat_natCast]
    have k275 : ∀ (M : jMI), rdA b n p3 M → frU I M → M 105 12 = f 5 + 1 → M 105 13 = f 21 → (ap = 1 → M 106 = mAddSl f m a c v) → (ap = 0 → M 106 = I 106 ∧ frT I M) → S_X12_readItem X 275 [some (jR 105), some (jI it), some (jI ap), some (jI 1), none, none] [] M (itQ b n s ap f I) := by
      intro M hM hfu m12 m13 m1 m0
      refine j_iload_n (pc := 275) dX12_readItem_275 rfl ?_
      refine j_if_eq (pc := 276) 290 dX12_readItem_276 (by decide) (by omega) (fun h_276 => ?_) (fun h_276 => ?_)
      · exact absurd h_276 (by decide)
      · refine j_aload_n (pc := 279) dX12_readItem_279 rfl ?_
        refine j_goI (pc := 280) (j_runV k_X12_174 m_X12_ends (c_ends2 X M b p3 n hM) dX12_readItem_280 rfl (by decide) rfl (by decide) (by decide) rfl rfl (Nat.le_of_ble_eq_true rfl)) (fun r1 I1 h1 => ?_)
        obtain ⟨f1, o1⟩ := h1
        refine j_if_eq (pc := 283) 290 dX12_readItem_283 (by decide) (by omega) (fun h_283 => ?_) (fun h_283 => ?_)
        · refine j_iconst (pc := 290) dX12_readItem_290 ?_
          refine j_retz dX12_readItem_291 (by omega) (?_) rfl
          first
            | (obtain ⟨p', e5, e6⟩ := or1 o1 (by omega)
               obtain ⟨-, e7, e8⟩ := pStop_ok (f := f) hM.2.2.2.1 (e5 f)
               refine Or.inl ⟨rfl, p', _, by rw [hpi]; exact e5 _, hM.mv f1 e6 e8, ?_, ?_, fun h => ?_, fun h => ?_, hfu.tr f1.ft.fu⟩
               · rw [f1.2 12 (by omega) (by omega) (by omega) (by omega), m12]; unfold mAddSl; rw [jU_s]; omega
               · rw [f1.2 13 (by omega) (by omega) (by omega) (by omega), m13]; unfold mAddSl; rw [jU_n (by omega), jU_n (by omega), jU_n (by omega), jU_n (by omega)]
               · rw [f1.1 106 (by omega) (by omega)]; exact m1 h
               · rw [f1.1 106 (by omega) (by omega)]; exact (m0 h).1)
            | (obtain ⟨s', e5, e6⟩ := or0 o1 (by omega)
               exact Or.inr ⟨rfl, s', by rw [hpi]; exact e5 _, e6, fun h => (m0 h).2.tr f1.ft⟩)
        · refine j_iconst (pc := 286) dX12_readItem_286 ?_
          refine j_goto (pc := 287) 291 dX12_readItem_287 (by decide) ?_
          refine j_retz dX12_readItem_291 (by omega) (?_) rfl
          first
            | (obtain ⟨p', e5, e6⟩ := or1 o1 (by omega)
               obtain ⟨-, e7, e8⟩ := pStop_ok (f := f) hM.2.2.2.1 (e5 f)
               refine Or.inl ⟨rfl, p', _, by rw [hpi]; exact e5 _, hM.mv f1 e6 e8, ?_, ?_, fun h => ?_, fun h => ?_, hfu.tr f1.ft.fu⟩
               · rw [f1.2 12 (by omega) (by omega) (by omega) (by omega), m12]; unfold mAddSl; rw [jU_s]; omega
               · rw [f1.2 13 (by omega) (by omega) (by omega) (by omega), m13]; unfold mAddSl; rw [jU_n (by omega), jU_n (by omega), jU_n (by omega), jU_n (by omega)]
               · rw [f1.1 106 (by omega) (by omega)]; exact m1 h
               · rw [f1.1 106 (by omega) (by omega)]; exact (m0 h).1)
            | (obtain ⟨s', e5, e6⟩ := or0 o1 (by omega)
               exact Or.inr ⟨rfl, s', by rw [hpi]; exact e5 _, e6, fun h => (m0 h).2.tr f1.ft⟩)
    have j12 : J 105 12 = f 5 := by rw [hrd.2 12 (by omega) (by omega) (by omega) (by omega)]; exact h12
    have j13 : J 105 13 = f 21 := by rw [hrd.2 13 (by omega) (by omega) (by omega) (by omega)]; exact h13
    have j106 : J 106 = I 106 := hrd.1 106 (by omega) (by omega)
    have hT : frT I (jSf J 105 (jU (J 105) 12 (J 105 12 + 1))) := hrd.ft.tr ⟨fun z z1 z2 => jSf_n z1, fun j a b c d e f g => by rw [jSf_s, jU_n f]⟩
    have hAM : rdA b n p3 (jSf J 105 (jU (J 105) 12 (J 105 12 + 1))) := ⟨by rw [jSf_s, jU_n (by omega)]; exact hJ.1, by rw [jSf_s, jU_n (by omega)]; exact hJ.2.1, hJ.2.2.1, hJ.2.2.2.1, by rw [jSf_n (by decide)]; exact hJ.2.2.2.2.1, hJ.2.2.2.2.2⟩
    refine j_istore_n3 (pc := 234) dX12_readItem_234 (by decide) rfl ?_
    refine j_aload_n (pc := 235) dX12_readItem_235 rfl ?_
    refine j_dupR (pc := 236) dX12_readItem_236 ?_
    refine j_getI (pc := 237) f_X12_182 dX12_readItem_237 rfl rfl (by decide) ?_
    refine j_iconst (pc := 240) dX12_readItem_240 ?_
    refine j_iadd (pc := 241) dX12_readItem_241 ?_
    refine j_putI_b (pc := 242) f_X12_182 dX12_readItem_242 rfl rfl rfl (by decide) ?_
    refine j_iload_n (pc := 245) dX12_readItem_245 rfl ?_
    refine j_if_eq (pc := 246) 275 dX12_readItem_246 (by decide) (by omega) (fun h_246 => ?_) (fun h_246 => ?_)
    · exact absurd h_246 (by decide)
    · refine j_iload_n (pc := 249) dX12_readItem_249 rfl ?_
      refine j_if_eq (pc := 250) 275 dX12_readItem_250 (by decide) (by omega) (fun h_250 => ?_) (fun h_250 => ?_)
      · first
          | (have e1 : ap = 1 := by omega
             refine k275 _ ⟨?_, ?_, hJ.2.2.1, hJ.2.2.2.1, ?_, hJ.2.2.2.2.2⟩ ?_ ?_ ?_ (fun _ => ?_) (fun h => by omega)
             · rw [jSf_n (by decide)]; exact hAM.1
             · rw [jSf_n (by decide)]; exact hAM.2.1
             · rw [jSf_n (by decide)]; exact hAM.2.2.2.2.1
             · exact ⟨fun z z1 z2 z3 => by rw [jSf_n z3]; exact hT.1 z z1 z2, fun j a b c d e f g => by rw [jSf_n (by decide)]; exact hT.2 j a b c d e f g⟩
             · rw [jSf_n (by decide), jSf_s, jU_s, j12]
             · rw [jSf_n (by decide), jSf_s, jU_n (by omega)]; exact j13
             · rw [jSf_s, jSf_n (by decide), j106, h106 e1])
          | (refine k275 _ hAM hT.fu ?_ ?_ (fun h => by omega) (fun _ => ⟨by rw [jSf_n (by decide)]; exact j106, hT⟩)
             · rw [jSf_s, jU_s, j12]
             · rw [jSf_s, jU_n (by omega)]; exact j13)
      · refine j_aload_n (pc := 253) dX12_readItem_253 rfl ?_
        refine j_aload_n (pc := 254) dX12_readItem_254 rfl ?_
        refine j_getR (pc := 255) f_X12_23 dX12_readItem_255 rfl rfl (by decide) rfl ?_
        refine j_iconst (pc := 258) dX12_readItem_258 ?_
        refine j_iald_c (pc := 259) (0) dX12_readItem_259 rfl (by decide) (by decide) (by omega) (by omega) (by decide) ?_
        rw [j0]
        refine j_aload_n (pc := 260) dX12_readItem_260 rfl ?_
        refine j_getR (pc := 261) f_X12_23 dX12_readItem_261 rfl rfl (by decide) rfl ?_
        refine j_iconst (pc := 264) dX12_readItem_264 ?_
        refine j_iald_c (pc := 265) (1) dX12_readItem_265 rfl (by decide) (by decide) (by omega) (by omega) (by decide) ?_
        rw [j1]
        refine j_aload_n (pc := 266) dX12_readItem_266 rfl ?_
        refine j_getR (pc := 267) f_X12_23 dX12_readItem_267 rfl rfl (by decide) rfl ?_
        refine j_iconst (pc := 270) dX12_readItem_270 ?_
        refine j_iald_c (pc := 271) (2) dX12_readItem_271 rfl (by decide) (by decide) (by omega) (by omega) (by decide) ?_
        rw [j2]
        refine j_goV (pc := 272) (j_runV k_X12_107 m_X12_addSleeper (c_addSleeper X (jSf J 105 (jU (J 105) 12 (J 105 12 + 1))) m a c v (by rw [jSf_n (by decide), j106, h106 (by omega)]; exact hm) hm4) dX12_readItem_272 rfl (by decide) rfl (by decide) (by decide) rfl rfl (Nat.le_of_ble_eq_true rfl)) (fun I1 h1 => ?_)
        subst h1
        first
          | (have e1 : ap = 1 := by omega
             refine k275 _ ⟨?_, ?_, hJ.2.2.1, hJ.2.2.2.1, ?_, hJ.2.2.2.2.2⟩ ?_ ?_ ?_ (fun _ => ?_) (fun h => by omega)
             · rw [jSf_n (by decide)]; exact hAM.1
             · rw [jSf_n (by decide)]; exact hAM.2.1
             · rw [jSf_n (by decide)]; exact hAM.2.2.2.2.1
             · exact ⟨fun z z1 z2 z3 => by rw [jSf_n z3]; exact hT.1 z z1 z2, fun j a b c d e f g => by rw [jSf_n (by decide)]; exact hT.2 j a b c d e f g⟩
             · rw [jSf_n (by decide), jSf_s, jU_s, j12]
             · rw [jSf_n (by decide), jSf_s, jU_n (by omega)]; exact j13
             · rw [jSf_s, jSf_n (by decide), j106, h106 e1])
          | (refine k275 _ hAM hT.fu ?_ ?_ (fun h => by omega) (fun _ => ⟨by rw [jSf_n (by decide)]; exact j106, hT⟩)
             · rw [jSf_s, jU_s, j12]
             · rw [jSf_s, jU_n (by omega)]; exact j13)
  refine j_aload_n (pc := 192) dX12_readItem_192 rfl ?_
  refine j_getI (pc := 193) f_X12_182 dX12_readItem_193 rfl rfl (by decide) ?_
  rw [h12, hm]
  refine j_iconst (pc := 196) dX12_readItem_196 ?_
  refine j_icmp_ge (pc := 197) 233 dX12_readItem_197 (by decide) (by omega) (by omega) (fun h_197 => ?_) (fun h_197 => ?_)
  · refine j_iconst (pc := 233) dX12_readItem_233 ?_
    first
      | exact hsu I3 a c v p1 p2 p3 (by omega) e1 e2 e3 (by omega) (by omega) (by omega) hA3 ((k3 0 (by omega)).trans v1') ((k3 1 (by omega)).trans v2) v3 ((f1.tr f2).tr f3)
      | (obtain ⟨s', e3, s3⟩ := or0 o3 (by omega)
         exact hfl I3 s' (by rw [pItem_sl hw0 hw, pSleep_3 (by omega) e1 e2 e3]) s3 ((f1.tr f2).tr f3).ft)
      | (obtain ⟨s', e2, s2⟩ := or0 o2 (by omega)
         exact hfl I2 s' (by rw [pItem_sl hw0 hw, pSleep_2 (by omega) e1 e2]) s2 (f1.tr f2).ft)
      | (obtain ⟨s', e1, s1⟩ := or0 o1 (by omega)
         exact hfl I1 s' (by rw [pItem_sl hw0 hw, pSleep_1 (by omega) e1]) s1 f1.ft)
      | (exact hfl I s (by rw [pItem_sl hw0 hw, pSleep_0 (by omega)]) h.1 frT.rf)
  · refine j_aload_n (pc := 200) dX12_readItem_200 rfl ?_
    refine j_iconst (pc := 201) dX12_readItem_201 ?_
    refine j_iconst (pc := 202) dX12_readItem_202 ?_
    refine j_goI (pc := 203) (j_runV k_X12_178 m_X12_reads (c_reads2 X I b (tE b n s) n 0 5 hA (by omega) (by omega)) dX12_readItem_203 rfl (by decide) rfl (by decide) (by decide) rfl rfl (Nat.le_of_ble_eq_true rfl)) (fun r1 I1 h1 => ?_)
    obtain ⟨f1, k1, o1⟩ := h1
    refine j_if_eq (pc := 206) 233 dX12_readItem_206 (by decide) (by omega) (fun h_206 => ?_) (fun h_206 => ?_)
    · refine j_iconst (pc := 233) dX12_readItem_233 ?_
      first
        | exact hsu I3 a c v p1 p2 p3 (by omega) e1 e2 e3 (by omega) (by omega) (by omega) hA3 ((k3 0 (by omega)).trans v1') ((k3 1 (by omega)).trans v2) v3 ((f1.tr f2).tr f3)
        | (obtain ⟨s', e3, s3⟩ := or0 o3 (by omega)
           exact hfl I3 s' (by rw [pItem_sl hw0 hw, pSleep_3 (by omega) e1 e2 e3]) s3 ((f1.tr f2).tr f3).ft)
        | (obtain ⟨s', e2, s2⟩ := or0 o2 (by omega)
           exact hfl I2 s' (by rw [pItem_sl hw0 hw, pSleep_2 (by omega) e1 e2]) s2 (f1.tr f2).ft)
        | (obtain ⟨s', e1, s1⟩ := or0 o1 (by omega)
           exact hfl I1 s' (by rw [pItem_sl hw0 hw, pSleep_1 (by omega) e1]) s1 f1.ft)
        | (exact hfl I s (by rw [pItem_sl hw0 hw, pSleep_0 (by omega)]) h.1 frT.rf)
    · obtain ⟨a, p1, e1, i1, v1, s1⟩ := or1 o1 (by omega)
      obtain ⟨a1, a2, a3, a4, -⟩ := pNum_ok hA.2.2.2.1 e1
      have hA1 := hA.mv f1 i1 a4
      refine j_aload_n (pc := 209) dX12_readItem_209 rfl ?_
      refine j_iconst (pc := 210) dX12_readItem_210 ?_
      refine j_bipush (pc := 211) dX12_readItem_211 (by decide) ?_
      refine j_goI (pc := 213) (j_runV k_X12_178 m_X12_reads (c_reads2 X I1 b p1 n 1 7 hA1 (by omega) (by omega)) dX12_readItem_213 rfl (by decide) rfl (by decide) (by decide) rfl rfl (Nat.le_of_ble_eq_true rfl)) (fun r2 I2 h2 => ?_)
      obtain ⟨f2, k2, o2⟩ := h2
      refine j_if_eq (pc := 216) 233 dX12_readItem_216 (by decide) (by omega) (fun h_216 => ?_) (fun h_216 => ?_)
      · refine j_iconst (pc := 233) dX12_readItem_233 ?_
        first
          | exact hsu I3 a c v p1 p2 p3 (by omega) e1 e2 e3 (by omega) (by omega) (by omega) hA3 ((k3 0 (by omega)).trans v1') ((k3 1 (by omega)).trans v2) v3 ((f1.tr f2).tr f3)
          | (obtain ⟨s', e3, s3⟩ := or0 o3 (by omega)
             exact hfl I3 s' (by rw [pItem_sl hw0 hw, pSleep_3 (by omega) e1 e2 e3]) s3 ((f1.tr f2).tr f3).ft)
          | (obtain ⟨s', e2, s2⟩ := or0 o2 (by omega)
             exact hfl I2 s' (by rw [pItem_sl hw0 hw, pSleep_2 (by omega) e1 e2]) s2 (f1.tr f2).ft)
          | (obtain ⟨s', e1, s1⟩ := or0 o1 (by omega)
             exact hfl I1 s' (by rw [pItem_sl hw0 hw, pSleep_1 (by omega) e1]) s1 f1.ft)
          | (exact hfl I s (by rw [pItem_sl hw0 hw, pSleep_0 (by omega)]) h.1 frT.rf)
      · obtain ⟨c, p2, e2, i2, v2, s2⟩ := or1 o2 (by omega)
        obtain ⟨c1, c2, c3, c4, -⟩ := pNum_ok a4 e2
        have hA2 := hA1.mv f2 i2 c4
        have v1' : I2 109 0 = a := (k2 0 (by omega)).trans v1
        refine j_aload_n (pc := 219) dX12_readItem_219 rfl ?_
        refine j_iconst (pc := 220) dX12_readItem_220 ?_
        refine j_bipush (pc := 221) dX12_readItem_221 (by decide) ?_
        refine j_goI (pc := 223) (j_runV k_X12_178 m_X12_reads (c_reads2 X I2 b p2 n 2 9 hA2 (by omega) (by omega)) dX12_readItem_223 rfl (by decide) rfl (by decide) (by decide) rfl rfl (Nat.le_of_ble_eq_true rfl)) (fun r3 I3 h3 => ?_)
        obtain ⟨f3, k3, o3⟩ := h3
        refine j_if_eq (pc := 226) 233 dX12_readItem_226 (by decide) (by omega) (fun h_226 => ?_) (fun h_226 => ?_)
        · refine j_iconst (pc := 233) dX12_readItem_233 ?_
          first
            | exact hsu I3 a c v p1 p2 p3 (by omega) e1 e2 e3 (by omega) (by omega) (by omega) hA3 ((k3 0 (by omega)).trans v1') ((k3 1 (by omega)).trans v2) v3 ((f1.tr f2).tr f3)
            | (obtain ⟨s', e3, s3⟩ := or0 o3 (by omega)
               exact hfl I3 s' (by rw [pItem_sl hw0 hw, pSleep_3 (by omega) e1 e2 e3]) s3 ((f1.tr f2).tr f3).ft)
            | (obtain ⟨s', e2, s2⟩ := or0 o2 (by omega)
               exact hfl I2 s' (by rw [pItem_sl hw0 hw, pSleep_2 (by omega) e1 e2]) s2 (f1.tr f2).ft)
            | (obtain ⟨s', e1, s1⟩ := or0 o1 (by omega)
               exact hfl I1 s' (by rw [pItem_sl hw0 hw, pSleep_1 (by omega) e1]) s1 f1.ft)
            | (exact hfl I s (by rw [pItem_sl hw0 hw, pSleep_0 (by omega)]) h.1 frT.rf)
        · obtain ⟨v, p3, e3, i3, v3, s3⟩ := or1 o3 (by omega)
          obtain ⟨d1, d2, d3, d4, -⟩ := pNum_ok c4 e3
          have hA3 := hA2.mv f3 i3 d4
          refine j_iconst (pc := 229) dX12_readItem_229 ?_
          refine j_goto (pc := 230) 234 dX12_readItem_230 (by decide) ?_
          first
            | exact hsu I3 a c v p1 p2 p3 (by omega) e1 e2 e3 (by omega) (by omega) (by omega) hA3 ((k3 0 (by omega)).trans v1') ((k3 1 (by omega)).trans v2) v3 ((f1.tr f2).tr f3)
            | (obtain ⟨s', e3, s3⟩ := or0 o3 (by omega)
               exact hfl I3 s' (by rw [pItem_sl hw0 hw, pSleep_3 (by omega) e1 e2 e3]) s3 ((f1.tr f2).tr f3).ft)
            | (obtain ⟨s', e2, s2⟩ := or0 o2 (by omega)
               exact hfl I2 s' (by rw [pItem_sl hw0 hw, pSleep_2 (by omega) e1 e2]) s2 (f1.tr f2).ft)
            | (obtain ⟨s', e1, s1⟩ := or0 o1 (by omega)
               exact hfl I1 s' (by rw [pItem_sl hw0 hw, pSleep_1 (by omega) e1]) s1 f1.ft)
            | (exact hfl I s (by rw [pItem_sl hw0 hw, pSleep_0 (by omega)]) h.1 frT.rf)
set_option maxHeartbeats 4000000 in
theorem c_itThing (X : jX) (I : jMI) (b : Nat → Int) (n s : Nat) (it ap : Int) (f : Nat → Int) (h : rdT b n s I) (hw0 : ¬ isWd b n s wStair) (hw1 : ¬ isWd b n s wSleep) (hw : isWd b n s wThing) (hok : okSt f) (hap : ap = 0 ∨ ap = 1) (h12 : I 105 12 = f 5) (h13 : I 105 13 = f 21) (h106 : ap = 1 → I 106 = f) : S_X12_readItem X 314 [some (jR 105), some (jI it), some (jI ap), none, none, none] [] I (itQ b n s ap f I) := by
  have hA := h.wd hw.1
  obtain ⟨m, hm, hm5⟩ := okSt_21 hok
  have hfl : ∀ (J : jMI) (s' : Nat), pItem b n s f = .error s' → J 105 9 = (s' : Nat) → frT I J → S_X12_readItem X 337 [some (jR 105), some (jI it), some (jI ap), none, none, none] [jI 0] J (itQ b n s ap f I) := by
    intro J s' he h9 hfr
    refine j_istore_n3 (pc := 337) dX12_readItem_337 (by decide) rfl ?_
    refine j_aload_n (pc := 338) dX12_readItem_338 rfl ?_
    refine j_dupR (pc := 339) dX12_readItem_339 ?_
    refine j_getI (pc := 340) f_X12_185 dX12_readItem_340 rfl rfl (by decide) ?_
    refine j_iconst (pc := 343) dX12_readItem_343 ?_
    refine j_iadd (pc := 344) dX12_readItem_344 ?_
    refine j_putI_b (pc := 345) f_X12_185 dX12_readItem_345 rfl rfl rfl (by decide) ?_
    refine j_iload_n (pc := 348) dX12_readItem_348 rfl ?_
    refine j_if_ne (pc := 349) 354 dX12_readItem_349 (by decide) (by omega) (fun h_349 => ?_) (fun h_349 => ?_)
    · exact absurd rfl h_349
    · refine j_iconst (pc := 352) dX12_readItem_352 ?_
      refine j_retz dX12_readItem_353 (by omega) (?_) rfl
      refine Or.inr ⟨rfl, s', he, ?_, fun _ => hfr.tr ⟨fun z z1 z2 => jSf_n z1, fun j a b c d e f g => ?_⟩⟩
      · rw [jSf_s, jU_n (by omega)]; exact h9
      · rw [jSf_s, jU_n g]
  have hsu : ∀ (J : jMI) (a : Int) (p1 : Nat), m < 5 → pNum b n (tE b n s) 7 = .ok (a, p1) → (0 ≤ a ∧ a ≤ 7) → rdA b n p1 J → J 109 0 = a → rdP I J → S_X12_readItem X 337 [some (jR 105), some (jI it), some (jI ap), none, none, none] [jI 1] J (itQ b n s ap f I) := by
    intro J a p1 hm4 e1 ha hJ j0 hrd
    have hpi : pItem b n s f = pOwn b n m 4 p1 (mAddTh f m a) := by
      rw [pItem_th hw0 hw1 hw, pThing_2 (by omega) e1, hm, Int.toNat_natCast]
    have hz27 : mAddTh f m a (27 + m) = 0 := by unfold mAddTh; rw [jU_n (by omega), jU_s]
    have h21 : mAddTh f m a 21 = f 21 + 1 := by unfold mAddTh; rw [jU_s]; omega
    have h5 : mAddTh f m a 5 = f 5 := by unfold mAddTh; rw [jU_n (by omega), jU_n (by omega), jU_n (by omega)]
    have k377 : ∀ (J2 : jMI) (c : Nat) (row : Nat → Int) (r : Int), c ≤ 4 → J2 109 = row → J2 105 11 = (c : Nat) → (r = 0 ∨ r = 1) → (∀ M : jMI, (∀ z, z ≠ 106 → M z = J2 z) → (ap = 1 → M 106 = adF (mAddTh f m a) m row c) → (ap = 0 → M 106 = I 106) → itQ b n s ap f I r M) → ∀ (k : Nat) (M : jMI), k ≤ c → (∀ z, z ≠ 106 → M z = J2 z) → (ap = 1 → M 106 = adF (mAddTh f m a) m row k) → (ap = 0 → M 106 = I 106) → S_X12_readItem X 377 [some (jR 105), some (jI it), some (jI ap), some (jI 1), some (jI r), some (jI k)] [] M (itQ b n s ap f I) := by
      intro J2 c row r hc hrow h11 hr hfin
      refine mu2 (fun k _ => 4 - k) _ (fun k M ih hk hM m1 m0 => ?_)
      refine j_iload (pc := 377) dX12_readItem_377 rfl ?_
      refine j_aload_n (pc := 379) dX12_readItem_379 rfl ?_
      refine j_getI (pc := 380) f_X12_163 dX12_readItem_380 rfl rfl (by decide) ?_
      rw [hM 105 (by omega), h11]
      refine j_icmp_ge (pc := 383) 418 dX12_readItem_383 (by decide) (by omega) (by omega) (fun h_383 => ?_) (fun h_383 => ?_)
      · refine j_iload (pc := 418) dX12_readItem_418 rfl ?_
        refine j_retz dX12_readItem_420 (by omega) (?_) rfl
        refine hfin M hM (fun h => ?_) m0
        obtain rfl : k = c := by omega
        exact m1 h
      · refine j_iload_n (pc := 386) dX12_readItem_386 rfl ?_
        refine j_if_eq (pc := 387) 418 dX12_readItem_387 (by decide) (by omega) (fun h_387 => ?_) (fun h_387 => ?_)
        · refine j_iload (pc := 418) dX12_readItem_418 rfl ?_
          refine j_retz dX12_readItem_420 (by omega) (?_) rfl
          refine hfin M hM (fun h => ?_) m0
          obtain rfl : k = c := by omega
          exact m1 h
        · refine j_aload_n (pc := 390) dX12_readItem_390 rfl ?_
          refine j_aload_n (pc := 391) dX12_readItem_391 rfl ?_
          refine j_getR (pc := 392) f_X12_7 dX12_readItem_392 rfl rfl (by decide) rfl ?_
          refine j_bipush (pc := 395) dX12_readItem_395 (by decide) ?_
          refine j_iald_b (pc := 397) (21) dX12_readItem_397 rfl (by decide) (by decide) (by omega) (by omega) ?_
          rw [m1 (by omega), adF_n (by omega), h21, hm]
          refine j_iconst (pc := 398) dX12_readItem_398 ?_
          refine j_isub (pc := 399) dX12_readItem_399 ?_
          rw [show (m : Int) + 1 - 1 = (m : Int) by omega]
          refine j_aload_n (pc := 400) dX12_readItem_400 rfl ?_
          refine j_getR (pc := 401) f_X12_23 dX12_readItem_401 rfl rfl (by decide) rfl ?_
          refine j_iload (pc := 404) dX12_readItem_404 rfl ?_
          refine j_iconst (pc := 406) dX12_readItem_406 ?_
          refine j_iadd (pc := 407) dX12_readItem_407 ?_
          refine j_iald_b (pc := 408) (k + 1) dX12_readItem_408 rfl (by decide) (by decide) (by omega) (by omega) ?_
          rw [hM 109 (by omega), hrow]
          refine j_goV (pc := 409) (j_runV k_X12_124 m_X12_addOwner (c_addOwner X M m k (row (k + 1)) hm4 (by rw [m1 (by omega)]; exact adF_27 hz27 hm4 k (by omega)) (by omega)) dX12_readItem_409 rfl (by decide) rfl (by decide) (by decide) rfl rfl (Nat.le_of_ble_eq_true rfl)) (fun I1 h1 => ?_)
          subst h1
          refine j_iinc5 (pc := 412) dX12_readItem_412 (by decide) rfl ?_
          refine j_goto (pc := 415) 377 dX12_readItem_415 (by decide) ?_
          refine ih (k + 1) _ (by omega) (by omega) (fun z hz => by rw [jSf_n hz]; exact hM z hz) (fun h => ?_) (fun h => by omega)
          rw [jSf_s, m1 h]
          rfl
    have k368 : ∀ (M : jMI), rdA b n p1 M → frU I M → M 105 12 = f 5 → M 105 13 = f 21 + 1 → (ap = 1 → M 106 = mAddTh f m a) → (ap = 0 → M 106 = I 106 ∧ frT I M) → S_X12_readItem X 368 [some (jR 105), some (jI it), some (jI ap), some (jI 1), none, none] [] M (itQ b n s ap f I) := by
      intro M hM hfu m12 m13 m1 m0
      refine j_aload_n (pc := 368) dX12_readItem_368 rfl ?_
      refine j_goI (pc := 369) (j_runV k_X12_188 m_X12_readOwners (c_readOwners X M b p1 n hM.1 hM.2.1 hM.2.2.1 hM.2.2.2.1 hM.2.2.2.2.1 hM.2.2.2.2.2) dX12_readItem_369 rfl (by decide) rfl (by decide) (by decide) rfl rfl (Nat.le_of_ble_eq_true rfl)) (fun r1 I1 h1 => ?_)
      obtain ⟨c, hc, i11, hrow, hfr, o1⟩ := h1
      refine j_istore4 (pc := 372) dX12_readItem_372 (by decide) rfl ?_
      refine j_iconst (pc := 374) dX12_readItem_374 ?_
      refine j_istore5 (pc := 375) dX12_readItem_375 (by decide) rfl ?_
      refine k377 I1 c (I1 109) r1 hc rfl i11 (by rcases o1 with ⟨h, -⟩ | ⟨h, -⟩ <;> omega) (fun N hN n1 n0 => ?_) 0 I1 (by omega) (fun z hz => rfl) (fun h => by rw [hfr.1 106 (by omega) (by omega)]; exact m1 h) (fun h => by rw [hfr.1 106 (by omega) (by omega)]; exact (m0 h).1)
      have hMN : frU M N := ⟨fun z z1 z2 z3 => (hN z z3).trans (hfr.1 z z1 z2), fun j a b c d e f g => by rw [hN 105 (by omega)]; exact hfr.2 j a b c d e⟩
      have e12 : N 105 12 = f 5 := by rw [hN 105 (by omega), hfr.2 12 (by omega) (by omega) (by omega) (by omega) (by omega)]; exact m12
      have e13 : N 105 13 = f 21 + 1 := by rw [hN 105 (by omega), hfr.2 13 (by omega) (by omega) (by omega) (by omega) (by omega)]; exact m13
      rcases o1 with ⟨er, p', e5, e6⟩ | ⟨er, s', e5, e6⟩
      · have e7 := e5 (mAddTh f m a) m hz27 hm4
        obtain ⟨-, -, e9, -⟩ := pOwn_ok hm4 _ _ _ (by omega) hM.2.2.2.1 (okSt_th hok hm4 ha) e7
        refine Or.inl ⟨er, p', _, by rw [hpi]; exact e7, ⟨by rw [hN 105 (by omega)]; exact e6, ?_, hM.2.2.1, e9, ?_, hM.2.2.2.2.2⟩, ?_, ?_, n1, n0, hfu.tr hMN⟩
        · rw [hN 105 (by omega), hfr.2 5 (by omega) (by omega) (by omega) (by omega) (by omega)]; exact hM.2.1
        · rw [hN 108 (by omega), hfr.1 108 (by omega) (by omega)]; exact hM.2.2.2.2.1
        · rw [adF_n (by omega), h5]; exact e12
        · rw [adF_n (by omega), h21]; exact e13
      · refine Or.inr ⟨er, s', by rw [hpi]; exact e5 (mAddTh f m a) m hz27 hm4, by rw [hN 105 (by omega)]; exact e6, fun h => (m0 h).2.tr ⟨fun z z1 z2 => ?_, hMN.2⟩⟩
        by_cases hz : z = 106
        · subst hz; rw [n0 h, (m0 h).1]
        · exact hMN.1 z z1 z2 hz
    have j12 : J 105 12 = f 5 := by rw [hrd.2 12 (by omega) (by omega) (by omega) (by omega)]; exact h12
    have j13 : J 105 13 = f 21 := by rw [hrd.2 13 (by omega) (by omega) (by omega) (by omega)]; exact h13
    have j106 : J 106 = I 106 := hrd.1 106 (by omega) (by omega)
    have hT : frT I (jSf J 105 (jU (J 105) 13 (J 105 13 + 1))) := hrd.ft.tr ⟨fun z z1 z2 => jSf_n z1, fun j a b c d e f g => by rw [jSf_s, jU_n g]⟩
    have hAM : rdA b n p1 (jSf J 105 (jU (J 105) 13 (J 105 13 + 1))) := ⟨by rw [jSf_s, jU_n (by omega)]; exact hJ.1, by rw [jSf_s, jU_n (by omega)]; exact hJ.2.1, hJ.2.2.1, hJ.2.2.2.1, by rw [jSf_n (by decide)]; exact hJ.2.2.2.2.1, hJ.2.2.2.2.2⟩
    refine j_istore_n3 (pc := 337) dX12_readItem_337 (by decide) rfl ?_
    refine j_aload_n (pc := 338) dX12_readItem_338 rfl ?_
    refine j_dupR (pc := 339) dX12_readItem_339 ?_
    refine j_getI (pc := 340) f_X12_185 dX12_readItem_340 rfl rfl (by decide) ?_
    refine j_iconst (pc := 343) dX12_readItem_343 ?_
    refine j_iadd (pc := 344) dX12_readItem_344 ?_
    refine j_putI_b (pc := 345) f_X12_185 dX12_readItem_345 rfl rfl rfl (by decide) ?_
    refine j_iload_n (pc := 348) dX12_readItem_348 rfl ?_
    refine j_if_ne (pc := 349) 354 dX12_readItem_349 (by decide) (by omega) (fun h_349 => ?_) (fun h_349 => ?_)
    · refine j_iload_n (pc := 354) dX12_readItem_354 rfl ?_
      refine j_if_eq (pc := 355) 368 dX12_readItem_355 (by decide) (by omega) (fun h_355 => ?_) (fun h_355 => ?_)
      · first
          | (have e1 : ap = 1 := by omega
             refine k368 _ ⟨?_, ?_, hJ.2.2.1, hJ.2.2.2.1, ?_, hJ.2.2.2.2.2⟩ ?_ ?_ ?_ (fun _ => ?_) (fun h => by omega)
             · rw [jSf_n (by decide)]; exact hAM.1
             · rw [jSf_n (by decide)]; exact hAM.2.1
             · rw [jSf_n (by decide)]; exact hAM.2.2.2.2.1
             · exact ⟨fun z z1 z2 z3 => by rw [jSf_n z3]; exact hT.1 z z1 z2, fun j a b c d e f g => by rw [jSf_n (by decide)]; exact hT.2 j a b c d e f g⟩
             · rw [jSf_n (by decide), jSf_s, jU_n (by omega)]; exact j12
             · rw [jSf_n (by decide), jSf_s, jU_s, j13]
             · rw [jSf_s, jSf_n (by decide), j106, h106 e1])
          | (refine k368 _ hAM hT.fu ?_ ?_ (fun h => by omega) (fun _ => ⟨by rw [jSf_n (by decide)]; exact j106, hT⟩)
             · rw [jSf_s, jU_n (by omega)]; exact j12
             · rw [jSf_s, jU_s, j13])
      · refine j_aload_n (pc := 358) dX12_readItem_358 rfl ?_
        refine j_aload_n (pc := 359) dX12_readItem_359 rfl ?_
        refine j_getR (pc := 360) f_X12_23 dX12_readItem_360 rfl rfl (by decide) rfl ?_
        refine j_iconst (pc := 363) dX12_readItem_363 ?_
        refine j_iald_c (pc := 364) (0) dX12_readItem_364 rfl (by decide) (by decide) (by omega) (by omega) (by decide) ?_
        rw [j0]
        refine j_goV (pc := 365) (j_runV k_X12_111 m_X12_addThing (c_addThing X (jSf J 105 (jU (J 105) 13 (J 105 13 + 1))) m a (by rw [jSf_n (by decide), j106, h106 (by omega)]; exact hm) hm4) dX12_readItem_365 rfl (by decide) rfl (by decide) (by decide) rfl rfl (Nat.le_of_ble_eq_true rfl)) (fun I1 h1 => ?_)
        subst h1
        first
          | (have e1 : ap = 1 := by omega
             refine k368 _ ⟨?_, ?_, hJ.2.2.1, hJ.2.2.2.1, ?_, hJ.2.2.2.2.2⟩ ?_ ?_ ?_ (fun _ => ?_) (fun h => by omega)
             · rw [jSf_n (by decide)]; exact hAM.1
             · rw [jSf_n (by decide)]; exact hAM.2.1
             · rw [jSf_n (by decide)]; exact hAM.2.2.2.2.1
             · exact ⟨fun z z1 z2 z3 => by rw [jSf_n z3]; exact hT.1 z z1 z2, fun j a b c d e f g => by rw [jSf_n (by decide)]; exact hT.2 j a b c d e f g⟩
             · rw [jSf_n (by decide), jSf_s, jU_n (by omega)]; exact j12
             · rw [jSf_n (by decide), jSf_s, jU_s, j13]
             · rw [jSf_s, jSf_n (by decide), j106, h106 e1])
          | (refine k368 _ hAM hT.fu ?_ ?_ (fun h => by omega) (fun _ => ⟨by rw [jSf_n (by decide)]; exact j106, hT⟩)
             · rw [jSf_s, jU_n (by omega)]; exact j12
             · rw [jSf_s, jU_s, j13])
    · exact absurd h_349 (by decide)
  refine j_aload_n (pc := 314) dX12_readItem_314 rfl ?_
  refine j_getI (pc := 315) f_X12_185 dX12_readItem_315 rfl rfl (by decide) ?_
  rw [h13, hm]
  refine j_iconst (pc := 318) dX12_readItem_318 ?_
  refine j_icmp_ge (pc := 319) 336 dX12_readItem_319 (by decide) (by omega) (by omega) (fun h_319 => ?_) (fun h_319 => ?_)
  · refine j_iconst (pc := 336) dX12_readItem_336 ?_
    first
      | exact hsu I1 a p1 (by omega) e1 (by omega) hA1 v1 f1
      | (obtain ⟨s', e1, s1⟩ := or0 o1 (by omega)
         exact hfl I1 s' (by rw [pItem_th hw0 hw1 hw, pThing_1 (by omega) e1]) s1 f1.ft)
      | (exact hfl I s (by rw [pItem_th hw0 hw1 hw, pThing_0 (by omega)]) h.1 frT.rf)
  · refine j_aload_n (pc := 322) dX12_readItem_322 rfl ?_
    refine j_iconst (pc := 323) dX12_readItem_323 ?_
    refine j_bipush (pc := 324) dX12_readItem_324 (by decide) ?_
    refine j_goI (pc := 326) (j_runV k_X12_178 m_X12_reads (c_reads2 X I b (tE b n s) n 0 7 hA (by omega) (by omega)) dX12_readItem_326 rfl (by decide) rfl (by decide) (by decide) rfl rfl (Nat.le_of_ble_eq_true rfl)) (fun r1 I1 h1 => ?_)
    obtain ⟨f1, k1, o1⟩ := h1
    refine j_if_eq (pc := 329) 336 dX12_readItem_329 (by decide) (by omega) (fun h_329 => ?_) (fun h_329 => ?_)
    · refine j_iconst (pc := 336) dX12_readItem_336 ?_
      first
        | exact hsu I1 a p1 (by omega) e1 (by omega) hA1 v1 f1
        | (obtain ⟨s', e1, s1⟩ := or0 o1 (by omega)
           exact hfl I1 s' (by rw [pItem_th hw0 hw1 hw, pThing_1 (by omega) e1]) s1 f1.ft)
        | (exact hfl I s (by rw [pItem_th hw0 hw1 hw, pThing_0 (by omega)]) h.1 frT.rf)
    · obtain ⟨a, p1, e1, i1, v1, s1⟩ := or1 o1 (by omega)
      obtain ⟨a1, a2, a3, a4, -⟩ := pNum_ok hA.2.2.2.1 e1
      have hA1 := hA.mv f1 i1 a4
      refine j_iconst (pc := 332) dX12_readItem_332 ?_
      refine j_goto (pc := 333) 337 dX12_readItem_333 (by decide) ?_
      first
        | exact hsu I1 a p1 (by omega) e1 (by omega) hA1 v1 f1
        | (obtain ⟨s', e1, s1⟩ := or0 o1 (by omega)
           exact hfl I1 s' (by rw [pItem_th hw0 hw1 hw, pThing_1 (by omega) e1]) s1 f1.ft)
        | (exact hfl I s (by rw [pItem_th hw0 hw1 hw, pThing_0 (by omega)]) h.1 frT.rf)
