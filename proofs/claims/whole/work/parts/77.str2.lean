/-! ===== String.length, String.charAt ===== -/
section JS
variable {X : jX} {own nm : String} {cc : ByteArray} {nL : Nat} {ret : Option FieldType} {d bc bs pc : Nat} {L : List (Option jV)} {st : List jV} {I : jMI} {R : jMR} {n : Nat} {Q : Option jV → jMI → jMR → Nat → Prop}
variable {y : MethodName} {cy : ByteArray} {ny na dy mc ms idx : Nat} {ry : Option FieldType} {As rest : List jV} {Qc : Option jV → jMI → jMR → Nat → Prop}
theorem j_runVs {i : Nat} (hi : i < 4) (lk : jLV own idx y) (md : jMd y cy ny ry na) (hM : CG X y cy ny ry dy mc ms (jR (1001 + i) :: As) I R n Qc) (hd : decode cc pc = .ok (.invokevirtual idx, 3)) (hnm : y.cls = "java/lang/String") (hdy : dy + 1 ≤ d) (hn : As.length = na) (hst : st = As.reverse ++ jR (1001 + i) :: rest) (hw : jws rest ≤ 8) : jRun X own nm cc nL ret d mc ms pc st rest I R n Qc := by
  intro p l e RR s m args below meth c H locs cells slots ls C hc hs1 hH hls
  obtain ⟨cx, cb, cm, co, cr, clk, cf, cl, cK, cn⟩ := C
  have hts := jhts cK args
  have hE := cK.2.2
  obtain ⟨cell, g1, g2, g3, g4⟩ := ((hE.2.2.2.2.1.1 i hi).1).kept (jH_base hH hE)
  have e1 : jad X (1001 + i) = jex X (1 + i) := by unfold jad; rw [if_neg (by omega), show 1001 + i - 1000 = 1 + i by omega]
  have hrec : ∃ cell : Cell, H[jad X (1001 + i)]? = some cell ∧ cell.vm.isStatics = false ∧ s.vm.findClass y.cls = some cell.cls := by
    rw [e1, hnm]
    first
      | exact ⟨cell, g1, g2, g3⟩
      | exact ⟨cell, g1, g3, g2⟩
  refine ⟨_, va_runV (As := As.map (jv X)) (b := jad X (1001 + i)) (n := na) (bytes := cy) (maxL := ny) (ret := ry) (Ts := []) (own := own) (C := y.cls) ⟨cx, cb, cm, co, fun w h => by cases h⟩ (hM l) ⟨⟨rfl, rfl, ?_, ?_, fun w hw a' U hW => ?_, List.mem_cons_self, hts _ md.1, hts _ md.2.1, md.2.2.1, jlen md, hts _ lk.1⟩, hts _ lk.2.1, hts _ lk.2.2⟩ ⟨jPc_blind, hrec, fun U hU hW => ⟨rfl, by rw [hU]; exact hH.1, jK.moved hW cK⟩⟩ rfl (by rw [List.length_map]; exact hn) hls ?_ ?_ hd ⟨hc, hs1⟩⟩
  · show dy + 1 ≤ RR.frames; omega
  · show 8 + (ny + 11) + 36 * dy ≤ RR.locals; have := md.2.2.2.2; omega
  · rw [List.mem_singleton.mp hw]; exact cK.1 _ md.1 a' U hW
  · show st.map (jv X) = _; rw [hst, List.map_append, List.map_reverse]; rfl
  · show 2 * 0 + _ ≤ 8; rw [jws_ok]; omega
end JS
theorem c_coder (X : jX) (I : jMI) (i : Nat) (hi : i < 4) : C_J0_coder_7d493 X [jR (1001 + i)] I (fun r I' => r = 0 ∧ I' = I) := by
  refine CG.ofJ (by decide +kernel) [some (jR (1001 + i))] rfl (Nat.le_of_ble_eq_true rfl) ?_
  refine j_cmpS (pc := 0) dJ0_coder_7d493_0 rfl ?_
  refine j_if_eq (pc := 3) 13 dJ0_coder_7d493_3 (by decide) (by omega) (fun h => ?_) (fun h => ?_)
  · omega
  · refine j_aload_n (pc := 6) dJ0_coder_7d493_6 rfl ?_
    refine j_strC (pc := 7) hi dJ0_coder_7d493_7 rfl ?_
    refine j_goto (pc := 10) 14 dJ0_coder_7d493_10 (by decide) ?_
    exact j_nret .byte dJ0_coder_7d493_14 (by decide) ⟨0, rfl, ⟨rfl, rfl⟩, rfl, rfl⟩ rfl
theorem c_latin (X : jX) (I : jMI) (i : Nat) (hi : i < 4) : C_J0_isLatin1_aae02 X [jR (1001 + i)] I (fun r I' => r = 1 ∧ I' = I) := by
  refine CG.ofJ (by decide +kernel) [some (jR (1001 + i))] rfl (Nat.le_of_ble_eq_true rfl) ?_
  refine j_cmpS (pc := 0) dJ0_isLatin1_aae02_0 rfl ?_
  refine j_if_eq (pc := 3) 17 dJ0_isLatin1_aae02_3 (by decide) (by omega) (fun h => ?_) (fun h => ?_)
  · omega
  · refine j_aload_n (pc := 6) dJ0_isLatin1_aae02_6 rfl ?_
    refine j_strC (pc := 7) hi dJ0_isLatin1_aae02_7 rfl ?_
    refine j_if_ne (pc := 10) 17 dJ0_isLatin1_aae02_10 (by decide) (by omega) (fun h => ?_) (fun h => ?_)
    · omega
    · refine j_iconst (pc := 13) dJ0_isLatin1_aae02_13 ?_
      refine j_goto (pc := 14) 18 dJ0_isLatin1_aae02_14 (by decide) ?_
      exact j_retz dJ0_isLatin1_aae02_18 (by omega) ⟨rfl, rfl⟩ rfl
theorem sLen_le (i : Nat) (hi : i < 4) : sLen.getD i 0 ≤ 7 := by
  rcases (show i = 0 ∨ i = 1 ∨ i = 2 ∨ i = 3 by omega) with rfl | rfl | rfl | rfl <;> decide
theorem c_len (X : jX) (I : jMI) (i : Nat) (hi : i < 4) : C_J0_length_8abf5 X [jR (1001 + i)] I (fun r I' => r = ((sLen.getD i 0 : Nat) : Int) ∧ I' = I) := by
  refine CG.ofJ (by decide +kernel) [some (jR (1001 + i))] rfl (Nat.le_of_ble_eq_true rfl) ?_
  refine j_aload_n (pc := 0) dJ0_length_8abf5_0 rfl ?_
  refine j_strV (pc := 1) hi dJ0_length_8abf5_1 rfl ?_
  refine j_strL (pc := 4) hi dJ0_length_8abf5_4 ?_
  refine j_aload_n (pc := 5) dJ0_length_8abf5_5 rfl ?_
  refine j_goI (pc := 6) (j_runVs hi k_J0_335 m_J0_coder_7d493 (c_coder X I i hi) dJ0_length_8abf5_6 rfl (by decide) rfl rfl (Nat.le_of_ble_eq_true rfl)) (fun r1 I1 h1 => ?_)
  obtain ⟨rfl, rfl⟩ := h1
  refine j_ishr (pc := 9) dJ0_length_8abf5_9 ?_
  have e : jshr ((sLen.getD i 0 : Nat) : Int) 0 = ((sLen.getD i 0 : Nat) : Int) := by
    rcases (show i = 0 ∨ i = 1 ∨ i = 2 ∨ i = 3 by omega) with rfl | rfl | rfl | rfl <;> decide +kernel
  rw [e]
  exact j_reti dJ0_length_8abf5_10 ⟨rfl, rfl⟩ rfl
theorem c_chk3 (X : jX) (I : jMI) (a m : Int) (v : jV) (hv : v = jN ∨ v = jR 1021) (ha : 0 ≤ a ∧ a < m ∧ m < 100) : C_J3_checkIndex_8e157 X [jI a, jI m, v] I (fun r I' => r = a ∧ I' = I) := by
  rcases hv with rfl | rfl
  · refine CG.ofJ (by decide +kernel) [some (jI a), some (jI m), some jN] rfl (Nat.le_of_ble_eq_true rfl) ?_
    refine j_iload_n (pc := 0) dJ3_checkIndex_8e157_0 rfl ?_
    refine j_if_lt (pc := 1) 9 dJ3_checkIndex_8e157_1 (by decide) (by omega) (fun h => ?_) (fun h => ?_)
    · omega
    · refine j_iload_n (pc := 4) dJ3_checkIndex_8e157_4 rfl ?_
      refine j_iload_n (pc := 5) dJ3_checkIndex_8e157_5 rfl ?_
      refine j_icmp_lt (pc := 6) 16 dJ3_checkIndex_8e157_6 (by decide) (by omega) (by omega) (fun h => ?_) (fun h => ?_)
      · refine j_iload_n (pc := 16) dJ3_checkIndex_8e157_16 rfl ?_
        exact j_reti dJ3_checkIndex_8e157_17 ⟨rfl, rfl⟩ rfl
      · omega
  · refine CG.ofJ (by decide +kernel) [some (jI a), some (jI m), some (jR 1021)] rfl (Nat.le_of_ble_eq_true rfl) ?_
    refine j_iload_n (pc := 0) dJ3_checkIndex_8e157_0 rfl ?_
    refine j_if_lt (pc := 1) 9 dJ3_checkIndex_8e157_1 (by decide) (by omega) (fun h => ?_) (fun h => ?_)
    · omega
    · refine j_iload_n (pc := 4) dJ3_checkIndex_8e157_4 rfl ?_
      refine j_iload_n (pc := 5) dJ3_checkIndex_8e157_5 rfl ?_
      refine j_icmp_lt (pc := 6) 16 dJ3_checkIndex_8e157_6 (by decide) (by omega) (by omega) (fun h => ?_) (fun h => ?_)
      · refine j_iload_n (pc := 16) dJ3_checkIndex_8e157_16 rfl ?_
        exact j_reti dJ3_checkIndex_8e157_17 ⟨rfl, rfl⟩ rfl
      · omega
theorem c_chk0 (X : jX) (I : jMI) (a m : Int) (ha : 0 ≤ a ∧ a < m ∧ m < 100) : C_J0_checkIndex_df160 X [jI a, jI m] I (fun I' => I' = I) := by
  refine CG.ofJ (by decide +kernel) [some (jI a), some (jI m)] rfl (Nat.le_of_ble_eq_true rfl) ?_
  refine j_iload_n (pc := 0) dJ0_checkIndex_df160_0 rfl ?_
  refine j_iload_n (pc := 1) dJ0_checkIndex_df160_1 rfl ?_
  refine j_sio (pc := 2) dJ0_checkIndex_df160_2 rfl ?_ ?_
  · refine j_goI (pc := 5) (j_runS k_J0_1059 m_J3_checkIndex_8e157 (c_chk3 X I a m jN (Or.inl rfl) ha) dJ0_checkIndex_df160_5 (by decide) rfl rfl (Nat.le_of_ble_eq_true rfl)) (fun r1 I1 h1 => ?_)
    obtain ⟨rfl, rfl⟩ := h1
    refine j_pop (pc := 8) dJ0_checkIndex_df160_8 ?_
    exact j_retv dJ0_checkIndex_df160_9 rfl rfl
  · refine j_goI (pc := 5) (j_runS k_J0_1059 m_J3_checkIndex_8e157 (c_chk3 X I a m (jR 1021) (Or.inr rfl) ha) dJ0_checkIndex_df160_5 (by decide) rfl rfl (Nat.le_of_ble_eq_true rfl)) (fun r1 I1 h1 => ?_)
    obtain ⟨rfl, rfl⟩ := h1
    refine j_pop (pc := 8) dJ0_checkIndex_df160_8 ?_
    exact j_retv dJ0_checkIndex_df160_9 rfl rfl
theorem c_chr1 (X : jX) (I : jMI) (i j : Nat) (hi : i < 4) (hj : j < sLen.getD i 0) : C_J1_charAt_3b067 X [jR (1011 + i), jI j] I (fun r I' => r = (sByt.getD i []).getD j 0 ∧ I' = I) := by
  refine CG.ofJ (by decide +kernel) [some (jR (1011 + i)), some (jI j)] rfl (Nat.le_of_ble_eq_true rfl) ?_
  have hl := sLen_le i hi
  refine j_iload_n (pc := 0) dJ1_charAt_3b067_0 rfl ?_
  refine j_aload_n (pc := 1) dJ1_charAt_3b067_1 rfl ?_
  refine j_strL (pc := 2) hi dJ1_charAt_3b067_2 ?_
  refine j_goV (pc := 3) (j_runS k_J1_9 m_J0_checkIndex_df160 (c_chk0 X I j ((sLen.getD i 0 : Nat) : Int) ⟨by omega, by omega, by omega⟩) dJ1_charAt_3b067_3 (by decide) rfl rfl (Nat.le_of_ble_eq_true rfl)) (fun I1 h1 => ?_)
  obtain rfl := h1
  refine j_aload_n (pc := 6) dJ1_charAt_3b067_6 rfl ?_
  refine j_iload_n (pc := 7) dJ1_charAt_3b067_7 rfl ?_
  refine j_strB (pc := 8) hi hj dJ1_charAt_3b067_8 ?_
  refine j_sipush (pc := 9) dJ1_charAt_3b067_9 (by decide) ?_
  refine j_iand (pc := 12) dJ1_charAt_3b067_12 ?_
  refine j_i2c (pc := 13) dJ1_charAt_3b067_13 ?_
  have hb : ∀ i : Fin 4, ∀ j : Fin 7, ji2c (jband ((sByt.getD i []).getD j 0) 255) = (sByt.getD i []).getD j 0 ∧ narrow .char (.int (Int32.ofInt ((sByt.getD i []).getD j 0))) = .int (Int32.ofInt ((sByt.getD i []).getD j 0)) := by decide +kernel
  have hbb := hb ⟨i, hi⟩ ⟨j, by omega⟩
  rw [hbb.1]
  exact j_nret .char dJ1_charAt_3b067_14 hbb.2 ⟨_, rfl, ⟨rfl, rfl⟩, rfl, rfl⟩ rfl
theorem c_charAt (X : jX) (I : jMI) (i j : Nat) (hi : i < 4) (hj : j < sLen.getD i 0) : C_J0_charAt_5068e X [jR (1001 + i), jI j] I (fun r I' => r = (sByt.getD i []).getD j 0 ∧ I' = I) := by
  refine CG.ofJ (by decide +kernel) [some (jR (1001 + i)), some (jI j)] rfl (Nat.le_of_ble_eq_true rfl) ?_
  have hl := sLen_le i hi
  refine j_aload_n (pc := 0) dJ0_charAt_5068e_0 rfl ?_
  refine j_goI (pc := 1) (j_runVs hi k_J0_492 m_J0_isLatin1_aae02 (c_latin X I i hi) dJ0_charAt_5068e_1 rfl (by decide) rfl rfl (Nat.le_of_ble_eq_true rfl)) (fun r1 I1 h1 => ?_)
  obtain ⟨rfl, rfl⟩ := h1
  refine j_if_eq (pc := 4) 16 dJ0_charAt_5068e_4 (by decide) (by omega) (fun h => ?_) (fun h => ?_)
  · omega
  refine j_aload_n (pc := 7) dJ0_charAt_5068e_7 rfl ?_
  refine j_strV (pc := 8) hi dJ0_charAt_5068e_8 rfl ?_
  refine j_iload_n (pc := 11) dJ0_charAt_5068e_11 rfl ?_
  refine j_goI (pc := 12) (j_runS k_J0_495 m_J1_charAt_3b067 (c_chr1 X I1 i j hi hj) dJ0_charAt_5068e_12 (by decide) rfl rfl (Nat.le_of_ble_eq_true rfl)) (fun r1 I1 h1 => ?_)
  obtain ⟨rfl, rfl⟩ := h1
  have hb : ∀ i : Fin 4, ∀ j : Fin 7, narrow .char (.int (Int32.ofInt ((sByt.getD i []).getD j 0))) = .int (Int32.ofInt ((sByt.getD i []).getD j 0)) := by decide +kernel
  exact j_nret .char dJ0_charAt_5068e_15 (hb ⟨i, hi⟩ ⟨j, by omega⟩) ⟨_, rfl, ⟨rfl, rfl⟩, rfl, rfl⟩ rfl
/-- the word of a number -/
theorem sByt_len (i : Nat) (hi : i < 4) : (sByt.getD i []).length = sLen.getD i 0 := by
  rcases (show i = 0 ∨ i = 1 ∨ i = 2 ∨ i = 3 by omega) with rfl | rfl | rfl | rfl <;> decide
theorem c_isWord (X : jX) (I : jMI) (b : Nat → Int) (n s i : Nat) (hi : i < 4) (hT : rtA b n I) (h2 : I 78 2 = (s : Nat)) (hs : s ≤ n) (h3 : I 78 3 = (tE b n s : Nat)) (h4 : I 78 4 = (tSo b n s : Nat)) : C_X8_isWord X [jR 78, jR (1001 + i)] I (fun r I' => ((r = 1 ∧ isWd b n s (sByt.getD i [])) ∨ (r = 0 ∧ ¬ isWd b n s (sByt.getD i []))) ∧ I' = I) := by
  refine CG.of (by decide) [some (jR 78), some (jR (1001 + i)), none] rfl (Nat.le_of_ble_eq_true rfl) ?_
  have hl := sLen_le i hi
  have hbl := sByt_len i hi
  have hle := tSo_le b n s
  have hE := tE_rng (b := b) hs
  have hn := hT.2.1
  have key : ∀ (x : Nat), x ≤ sLen.getD i 0 → tSo b n s = 1 → tE b n s - s = sLen.getD i 0 → (∀ z, z < x → b (s + z) = (sByt.getD i [])[z]?.getD 0) → S_X8_isWord X 28 [some (jR 78), some (jR (1001 + i)), some (jI x)] [] I (fun r I' => ((r = 1 ∧ isWd b n s (sByt.getD i [])) ∨ (r = 0 ∧ ¬ isWd b n s (sByt.getD i []))) ∧ I' = I) := by
    refine mu1 (fun x => 10 - x) _ (fun x ih hx h1 hlen hp => ?_)
    refine j_iload_n (pc := 28) dX8_isWord_28 rfl ?_
    refine j_aload_n (pc := 29) dX8_isWord_29 rfl ?_
    refine j_goI (pc := 30) (j_runVs hi k_X8_92 m_J0_length_8abf5 (c_len X I i hi) dX8_isWord_30 rfl (by decide) rfl rfl (Nat.le_of_ble_eq_true rfl)) (fun r1 I1 h1 => ?_)
    obtain ⟨rfl, rfl⟩ := h1
    refine j_icmp_ge (pc := 33) 63 dX8_isWord_33 (by decide) (by omega) (by omega) (fun h_33 => ?_) (fun h_33 => ?_)
    · refine j_iconst (pc := 63) dX8_isWord_63 ?_
      refine j_retz dX8_isWord_64 (by omega) (?_) rfl
      refine ⟨Or.inl ⟨rfl, h1, by omega, fun z hz => hp z (by omega)⟩, rfl⟩
    · refine j_aload_n (pc := 36) dX8_isWord_36 rfl ?_
      refine j_getR (pc := 37) f_X8_9 dX8_isWord_37 rfl rfl (by decide) rfl ?_
      refine j_aload_n (pc := 40) dX8_isWord_40 rfl ?_
      refine j_getI (pc := 41) f_X8_47 dX8_isWord_41 rfl rfl (by decide) ?_
      rw [h2]
      refine j_iload_n (pc := 44) dX8_isWord_44 rfl ?_
      refine j_iadd (pc := 45) dX8_isWord_45 ?_
      refine j_bald_b (pc := 46) (s + x) dX8_isWord_46 rfl (by decide) (by decide) (by omega) (by omega) ?_
      rw [hT.2.2.1 (s + x) (by omega)]
      have hbx := hT.2.2.2 (s + x) (by omega)
      refine j_aload_n (pc := 47) dX8_isWord_47 rfl ?_
      refine j_iload_n (pc := 48) dX8_isWord_48 rfl ?_
      refine j_goI (pc := 49) (j_runVs hi k_X8_97 m_J0_charAt_5068e (c_charAt X I1 i x hi (by omega)) dX8_isWord_49 rfl (by decide) rfl rfl (Nat.le_of_ble_eq_true rfl)) (fun r1 I1 h1 => ?_)
      obtain ⟨rfl, rfl⟩ := h1
      have hsb : ∀ i : Fin 4, ∀ j : Fin 7, 0 ≤ (sByt.getD i []).getD j 0 ∧ (sByt.getD i []).getD j 0 ≤ 200 := by decide +kernel
      have hsbb := hsb ⟨i, hi⟩ ⟨x, by omega⟩
      have hgd : (sByt.getD i []).getD x 0 = (sByt.getD i [])[x]?.getD 0 := List.getD_eq_getElem?_getD
      simp only at hsbb
      refine j_icmp_eq (pc := 52) 57 dX8_isWord_52 (by decide) (by omega) (by omega) (fun h_52 => ?_) (fun h_52 => ?_)
      · refine j_iinc2 (pc := 57) dX8_isWord_57 (by decide) rfl ?_
        refine j_goto (pc := 60) 28 dX8_isWord_60 (by decide) ?_
        refine ih (x + 1) (by omega) (by omega) h1 hlen (fun z hz => ?_)
        by_cases hzx : z = x
        · rw [hzx]; omega
        · exact hp z (by omega)
      · refine j_iconst (pc := 55) dX8_isWord_55 ?_
        refine j_retz dX8_isWord_56 (by omega) (?_) rfl
        refine ⟨Or.inr ⟨rfl, fun hw => ?_⟩, rfl⟩
        have := hw.2.2 x (by omega)
        omega
  refine j_aload_n (pc := 0) dX8_isWord_0 rfl ?_
  refine j_getI (pc := 1) f_X8_40 dX8_isWord_1 rfl rfl (by decide) ?_
  rw [h4]
  refine j_iconst (pc := 4) dX8_isWord_4 ?_
  refine j_icmp_ne (pc := 5) 24 dX8_isWord_5 (by decide) (by omega) (by omega) (fun h_5 => ?_) (fun h_5 => ?_)
  · refine j_iconst (pc := 24) dX8_isWord_24 ?_
    refine j_retz dX8_isWord_25 (by omega) (?_) rfl
    refine ⟨Or.inr ⟨rfl, fun hw => ?_⟩, rfl⟩
    have h1 := hw.1
    have h2' := hw.2.1
    omega
  · refine j_aload_n (pc := 8) dX8_isWord_8 rfl ?_
    refine j_getI (pc := 9) f_X8_24 dX8_isWord_9 rfl rfl (by decide) ?_
    rw [h3]
    refine j_aload_n (pc := 12) dX8_isWord_12 rfl ?_
    refine j_getI (pc := 13) f_X8_47 dX8_isWord_13 rfl rfl (by decide) ?_
    rw [h2]
    refine j_isub (pc := 16) dX8_isWord_16 ?_
    refine j_aload_n (pc := 17) dX8_isWord_17 rfl ?_
    refine j_goI (pc := 18) (j_runVs hi k_X8_92 m_J0_length_8abf5 (c_len X I i hi) dX8_isWord_18 rfl (by decide) rfl rfl (Nat.le_of_ble_eq_true rfl)) (fun r1 I1 h1 => ?_)
    obtain ⟨rfl, rfl⟩ := h1
    refine j_icmp_eq (pc := 21) 26 dX8_isWord_21 (by decide) (by omega) (by omega) (fun h_21 => ?_) (fun h_21 => ?_)
    · refine j_iconst (pc := 26) dX8_isWord_26 ?_
      refine j_istore_n2 (pc := 27) dX8_isWord_27 (by decide) rfl ?_
      exact key 0 (by omega) (by omega) (by omega) (fun z hz => by omega)
    · refine j_iconst (pc := 24) dX8_isWord_24 ?_
      refine j_retz dX8_isWord_25 (by omega) (?_) rfl
      refine ⟨Or.inr ⟨rfl, fun hw => ?_⟩, rfl⟩
      have h1 := hw.1
      have h2' := hw.2.1
      omega
