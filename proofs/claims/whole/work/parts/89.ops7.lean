/-! ===== one call of both: the night goes on ===== -/
theorem okSt_hear {f : Nat → Int} (hok : okSt f) {h : Nat} (hh : h < 6) {s m i : Int} (hs : 0 ≤ s ∧ s ≤ 4) (hm : 0 ≤ m ∧ m ≤ 12) (hi : 0 ≤ i ∧ i ≤ 1) : okSt (mHear f h s m i) := by
  unfold mHear
  have l1 : stLo (53 + 3 * h) = 0 ∧ stLo (54 + 3 * h) = 0 ∧ stLo (55 + 3 * h) = 0 := by
    unfold stLo
    refine ⟨?_, ?_, ?_⟩
    all_goals exact if_pos (by omega)
  have l2 : ∀ h : Fin 6, stHi (53 + 3 * h) = 4 ∧ stHi (54 + 3 * h) = 12 ∧ stHi (55 + 3 * h) = 1 := by decide +kernel
  obtain ⟨k1, k2, k3⟩ := l2 ⟨h, hh⟩
  simp only at k1 k2 k3
  refine okSt_U (okSt_U (okSt_U (okSt_U hok ?_) ?_) ?_) ?_
  · rw [k1, l1.1]; exact hs
  · rw [k2, l1.2.1]; exact hm
  · rw [k3, l1.2.2]; exact hi
  · show (0 : Int) ≤ (h : Int) + 1 ∧ (h : Int) + 1 ≤ 6
    omega
/-- the night is another, the house stays: what both then hold -/
theorem Inv_g {I I1 I2 : jMI} (hI : Inv I) {u' : Nat} (h1 : ∀ z, z = 0 ∨ (27 ≤ z ∧ z ≤ 79) ∨ 104 < z → I1 z = I z) (hN : nR (I2 106) (I2 111) u' I1 1) (hz : ∀ z, z ≠ 105 → (z < 106 ∨ z = 107 ∨ z = 108 ∨ 119 < z) → I2 z = I1 z) (h16 : I2 105 16 = (u' : Nat)) (h5 : ∀ j, j ≠ 16 → I2 105 j = I1 105 j) (hok : nOK (I2 106) (I2 111) u') : Inv I2 := by
  have e105 := h1 105 (by omega)
  refine Inv_n hI (u := u') h16 hok (nR_fr hN (fun z q => hz z (by omega) (by omega))) (fun z q => (hz z (by omega) (by omega)).trans (h1 z (by omega))) ?_ ?_ ?_ ?_
  · rw [hz 78 (by omega) (by omega), h1 78 (by omega)]
  · rw [h5 1 (by omega), e105]
  · rw [h5 2 (by omega), e105]
  · rw [h5 5 (by omega), e105]
set_option maxHeartbeats 1000000 in
theorem o_heard (X : jX) (I : jMI) (s m i : Int) (hI : Inv I) (hs : -2147483648 ≤ s ∧ s < 2147483648) (hm : -2147483648 ≤ m ∧ m < 2147483648) (hi : -2147483648 ≤ i ∧ i < 2147483648) : C_X11_heard X [jR 0, jI s, jI m, jI i] I (fun v I1 => C_X12_heard X [jR 105, jI s, jI m, jI i] I1 (fun v' I2 => v' = v ∧ Inv I2)) := by
  refine CG.of (by decide) [some (jR 0), some (jI s), some (jI m), some (jI i)] rfl (Nat.le_of_ble_eq_true rfl) ?_
  have hok := hI.ok
  have hH := hI.hR
  obtain ⟨u, u1, u2, u3⟩ := hI.1
  obtain ⟨S, hS, hS5⟩ := okSt_5 hok
  obtain ⟨H, hH52, hH6⟩ := okSt_52 hok
  have h9 : I 2 9 = (S : Int) := hH.1.trans hS
  have h12 : I 1 12 = (H : Int) := u3.2.2.2.2.1.trans hH52
  have e21 : ∀ k, cRef I k 106 = I 106 := fun k => by unfold cRef; rw [jSf_n (by omega)]
  refine j_aload_n (pc := 0) dX11_heard_0 rfl ?_
  refine j_iload_n (pc := 1) dX11_heard_1 rfl ?_
  refine j_goI (pc := 2) (j_runV k_X11_168 m_X11_isSleeper (c_xsl X I s S hs h9 (by omega)) dX11_heard_2 rfl (by decide) rfl (by decide) (by decide) rfl rfl (Nat.le_of_ble_eq_true rfl)) (fun r1 I1 h1 => ?_)
  obtain ⟨h1, rfl⟩ := h1
  refine j_if_eq (pc := 5) 25 dX11_heard_5 (by decide) (by omega) (fun h_5 => ?_) (fun h_5 => ?_)
  · refine j_aload_n (pc := 25) dX11_heard_25 rfl ?_
    refine j_bipush (pc := 26) dX11_heard_26 (by decide) ?_
    refine j_goI (pc := 28) (j_runV k_X11_84 m_X11_refuseBad (c_xbad X _ (-2)) dX11_heard_28 rfl (by decide) rfl (by decide) (by decide) rfl rfl (Nat.le_of_ble_eq_true rfl)) (fun r4 I4 h4 => ?_)
    obtain ⟨rfl, rfl⟩ := h4
    refine j_reti dX11_heard_31 (?_) rfl
    exact c_mheard X _ s m i _ hs hm hi H (by rw [e21]; exact hH52) hH6 (ok_ref hI 0) (fun _ => ⟨rfl, Inv_ref hI (by omega)⟩) (fun h _ _ _ => by rw [e21] at h; omega) (fun h _ _ _ => by rw [e21] at h; omega)
  · refine j_iload_n (pc := 8) dX11_heard_8 rfl ?_
    refine j_bipush (pc := 9) dX11_heard_9 (by decide) ?_
    refine j_goI (pc := 11) (j_runS k_X11_80 m_X11_within (c_xin X I1 m 12 hm (by omega)) dX11_heard_11 (by decide) rfl rfl (Nat.le_of_ble_eq_true rfl)) (fun r2 I2 h2 => ?_)
    obtain ⟨h2, rfl⟩ := h2
    refine j_if_eq (pc := 14) 25 dX11_heard_14 (by decide) (by omega) (fun h_14 => ?_) (fun h_14 => ?_)
    · refine j_aload_n (pc := 25) dX11_heard_25 rfl ?_
      refine j_bipush (pc := 26) dX11_heard_26 (by decide) ?_
      refine j_goI (pc := 28) (j_runV k_X11_84 m_X11_refuseBad (c_xbad X _ (-2)) dX11_heard_28 rfl (by decide) rfl (by decide) (by decide) rfl rfl (Nat.le_of_ble_eq_true rfl)) (fun r4 I4 h4 => ?_)
      obtain ⟨rfl, rfl⟩ := h4
      refine j_reti dX11_heard_31 (?_) rfl
      exact c_mheard X _ s m i _ hs hm hi H (by rw [e21]; exact hH52) hH6 (ok_ref hI 0) (fun _ => ⟨rfl, Inv_ref hI (by omega)⟩) (fun h _ _ _ => by rw [e21] at h; omega) (fun h _ _ _ => by rw [e21] at h; omega)
    · refine j_iload_n (pc := 17) dX11_heard_17 rfl ?_
      refine j_iconst (pc := 18) dX11_heard_18 ?_
      refine j_goI (pc := 19) (j_runS k_X11_80 m_X11_within (c_xin X I2 i 1 hi (by omega)) dX11_heard_19 (by decide) rfl rfl (Nat.le_of_ble_eq_true rfl)) (fun r3 I3 h3 => ?_)
      obtain ⟨h3, rfl⟩ := h3
      refine j_if_ne (pc := 22) 32 dX11_heard_22 (by decide) (by omega) (fun h_22 => ?_) (fun h_22 => ?_)
      · refine j_aload_n (pc := 32) dX11_heard_32 rfl ?_
        refine j_getR (pc := 33) f_X11_10 dX11_heard_33 rfl rfl (by decide) rfl ?_
        refine j_getI (pc := 36) f_X11_219 dX11_heard_36 rfl rfl (by decide) ?_
        rw [h12]
        refine j_bipush (pc := 39) dX11_heard_39 (by decide) ?_
        refine j_icmp_lt (pc := 41) 49 dX11_heard_41 (by decide) (by omega) (by omega) (fun h_41 => ?_) (fun h_41 => ?_)
        · refine j_aload_n (pc := 49) dX11_heard_49 rfl ?_
          refine j_getR (pc := 50) f_X11_10 dX11_heard_50 rfl rfl (by decide) rfl ?_
          refine j_iload_n (pc := 53) dX11_heard_53 rfl ?_
          refine j_iload_n (pc := 54) dX11_heard_54 rfl ?_
          refine j_iload_n (pc := 55) dX11_heard_55 rfl ?_
          refine j_goI (pc := 56) (j_runV k_X11_222 m_X4_addHeard (c_nHear X I3 (I3 106) (I3 111) u H s m i u3 hok hH52 (by omega)) dX11_heard_56 rfl (by decide) rfl (by decide) (by decide) rfl rfl (Nat.le_of_ble_eq_true rfl)) (fun r6 I6 h6 => ?_)
          obtain ⟨e6, hN6, z6⟩ := h6
          refine j_reti dX11_heard_59 (?_) rfl
          have x6 := z6 106 (by omega) (by omega) (by omega) (by omega)
          have x11 := z6 111 (by omega) (by omega) (by omega) (by omega)
          have x5 := z6 105 (by omega) (by omega) (by omega) (by omega)
          refine c_mheard X _ s m i _ hs hm hi H (by rw [x6]; exact hH52) hH6 (by rw [x6]; exact hok) (fun h => by rw [x6] at h; omega) (fun h _ _ _ => by omega) (fun q1 q2 q3 q4 => ⟨by omega, ?_⟩)
          rw [x6] at q1 ⊢
          generalize hI7 : jSf I6 106 (mHear (I3 106) H s m i) = I7
          have y6 : I7 106 = mHear (I3 106) H s m i := by rw [← hI7, jSf_s]
          have yz : ∀ z, z ≠ 106 → I7 z = I6 z := fun z q => by rw [← hI7, jSf_n q]
          have y11 : I7 111 = I3 111 := (yz 111 (by omega)).trans x11
          have hm1 : ∀ k, k < 52 → mHear (I3 106) H s m i k = I3 106 k := by
            intro k hk
            unfold mHear
            rw [jU_n (by omega), jU_n (by omega), jU_n (by omega), jU_n (by omega)]
          refine Inv_g hI (I1 := I6) (u' := u) (fun z q => z6 z (by omega) (by omega) (by omega) (by omega)) (by rw [y6, y11]; exact hN6) (fun z w1 w2 => yz z (by omega)) (by rw [yz 105 (by omega), x5]; exact u1) (fun j hj => by rw [yz 105 (by omega)]) ?_
          rw [y6, y11]
          exact nOK_h u2 (okSt_hear hok q4 (by omega) q2 q3) (hm1 1 (by omega)) (by rw [hm1 5 (by omega)]; exact Int.le_refl _)
        · refine j_aload_n (pc := 44) dX11_heard_44 rfl ?_
          refine j_goI (pc := 45) (j_runV k_X11_92 m_X11_refuseFull (c_xfull X _) dX11_heard_45 rfl (by decide) rfl (by decide) (by decide) rfl rfl (Nat.le_of_ble_eq_true rfl)) (fun r5 I5 h5 => ?_)
          obtain ⟨rfl, rfl⟩ := h5
          refine j_reti dX11_heard_48 (?_) rfl
          exact c_mheard X _ s m i _ hs hm hi H (by rw [e21]; exact hH52) hH6 (ok_ref hI 2) (fun h => by rw [e21] at h; omega) (fun h _ _ _ => ⟨rfl, Inv_ref hI (by omega)⟩) (fun h _ _ _ => by omega)
      · refine j_aload_n (pc := 25) dX11_heard_25 rfl ?_
        refine j_bipush (pc := 26) dX11_heard_26 (by decide) ?_
        refine j_goI (pc := 28) (j_runV k_X11_84 m_X11_refuseBad (c_xbad X _ (-2)) dX11_heard_28 rfl (by decide) rfl (by decide) (by decide) rfl rfl (Nat.le_of_ble_eq_true rfl)) (fun r4 I4 h4 => ?_)
        obtain ⟨rfl, rfl⟩ := h4
        refine j_reti dX11_heard_31 (?_) rfl
        exact c_mheard X _ s m i _ hs hm hi H (by rw [e21]; exact hH52) hH6 (ok_ref hI 0) (fun _ => ⟨rfl, Inv_ref hI (by omega)⟩) (fun h _ _ _ => by rw [e21] at h; omega) (fun h _ _ _ => by rw [e21] at h; omega)
set_option maxHeartbeats 1000000 in
theorem o_forget (X : jX) (I : jMI) (hI : Inv I) : C_X11_forget X [jR 0] I (fun v I1 => C_X12_forget X [jR 105] I1 (fun v' I2 => v' = v ∧ Inv I2)) := by
  refine CG.of (by decide) [some (jR 0), none] rfl (Nat.le_of_ble_eq_true rfl) ?_
  have hok := hI.ok
  obtain ⟨u, u1, u2, u3⟩ := hI.1
  refine j_aload_n (pc := 0) dX11_forget_0 rfl ?_
  refine j_getR (pc := 1) f_X11_10 dX11_forget_1 rfl rfl (by decide) rfl ?_
  refine j_getI (pc := 4) f_X11_219 dX11_forget_4 rfl rfl (by decide) ?_
  refine j_istore_n1 (pc := 7) dX11_forget_7 (by decide) rfl ?_
  refine j_aload_n (pc := 8) dX11_forget_8 rfl ?_
  refine j_getR (pc := 9) f_X11_10 dX11_forget_9 rfl rfl (by decide) rfl ?_
  refine j_iconst (pc := 12) dX11_forget_12 ?_
  refine j_putI_b (pc := 13) f_X11_219 dX11_forget_13 rfl rfl rfl (by decide) ?_
  refine j_iload_n (pc := 16) dX11_forget_16 rfl ?_
  refine j_reti dX11_forget_17 (?_) rfl
  generalize hI6 : jSf I 1 (jU (I 1) 12 0) = I6
  have x1 : I6 1 = jU (I 1) 12 0 := by rw [← hI6, jSf_s]
  have z6 : ∀ z, z ≠ 1 → I6 z = I z := fun z q => by rw [← hI6, jSf_n q]
  have x6 := z6 106 (by omega)
  have x11 := z6 111 (by omega)
  refine c_mforget X _ _ ⟨by rw [x6]; exact u3.2.2.2.2.1.symm, ?_⟩
  rw [x6]
  generalize hI7 : jSf I6 106 (jU (I 106) 52 0) = I7
  have y6 : I7 106 = jU (I 106) 52 0 := by rw [← hI7, jSf_s]
  have yz : ∀ z, z ≠ 106 → I7 z = I6 z := fun z q => by rw [← hI7, jSf_n q]
  have y11 : I7 111 = I 111 := (yz 111 (by omega)).trans x11
  obtain ⟨n1, n2, n3, n4, n5, n6, n7, n8⟩ := u3
  refine Inv_g hI (I1 := I6) (u' := u) (fun z q => z6 z (by omega)) ?_ (fun z w1 w2 => yz z (by omega)) (by rw [yz 105 (by omega), z6 105 (by omega)]; exact u1) (fun j hj => by rw [yz 105 (by omega)]) ?_
  · rw [y6, y11]
    refine ⟨hR_cg (hR_fr n1 (fun z q => z6 z (by omega))) hok (fun k hk => (jU_n (by omega)).symm), by rw [x1, jU_n (by omega), jU_n (by omega)]; exact n2, by rw [x1, jU_n (by omega), jU_n (by omega)]; exact n3, by rw [x1, jU_n (by omega)]; exact n4, by rw [x1, jU_s, jU_s], fun p hp => by rw [z6 (1 + 17) (by omega), jU_n (by omega)]; exact n6 p hp, fun i hi => ?_, fun i hi => by rw [jU_s] at hi; omega⟩
    rw [z6 (1 + 19) (by omega), z6 (1 + 20) (by omega), z6 (1 + 21) (by omega)]
    exact n7 i hi
  · rw [y6, y11]
    refine nOK_h u2 (okSt_U hok ?_) (jU_n (by omega)) (by rw [jU_n (by omega)]; exact Int.le_refl _)
    show (0 : Int) ≤ 0 ∧ (0 : Int) ≤ 6
    omega
theorem noteB_le {u : Nat} (h : u ≤ 8) : noteB u + 1 ≤ 8 := by unfold noteB; split <;> omega
/-- the row that is noted -/
theorem note_ok {f ah : Nat → Int} {u : Nat} (h : nOK f ah u) : okAh (noteA ah f u) (noteB u + 1) ∧ ∀ i, i < noteB u + 1 → awB f (noteA ah f u (5 * i + 1)) := by
  obtain ⟨h1, h2, h3, h4, h5⟩ := h
  have key : ∀ i, i < noteB u + 1 → (∀ c, c < 5 → noteA ah f u (5 * i + c) = f c) ∨ ∃ j, j < u ∧ ∀ c, c < 5 → noteA ah f u (5 * i + c) = ah (5 * j + c) := by
    intro i hi
    by_cases hb : i = noteB u
    · left
      intro c hc
      unfold noteA
      rw [if_pos (by omega)]
      congr 1
      omega
    · right
      by_cases h8 : u = 8
      · have e7 : noteB u = 7 := by unfold noteB; rw [if_pos h8]
        refine ⟨i + 1, by omega, fun c hc => ?_⟩
        unfold noteA
        rw [if_neg (by omega), if_pos (by omega)]
        congr 1
        omega
      · have e7 : noteB u = u := by unfold noteB; rw [if_neg h8]
        refine ⟨i, by omega, fun c hc => ?_⟩
        unfold noteA
        rw [if_neg (by omega), if_neg (by omega)]
  refine ⟨fun i hi => ?_, fun i hi => ?_⟩
  · have a0 := okSt_0 h1
    obtain ⟨aw, a1, a1'⟩ := okSt_1 h1
    obtain ⟨p0, b0, b0'⟩ := okSt_2 h1 (p := 0) (by omega)
    obtain ⟨p1, b1, b1'⟩ := okSt_2 h1 (p := 1) (by omega)
    obtain ⟨p2, b2, b2'⟩ := okSt_2 h1 (p := 2) (by omega)
    rcases key i hi with k | ⟨j, hj, k⟩
    · rw [show 5 * i = 5 * i + 0 from rfl, k 0 (by omega), show 5 * i + 0 + 1 = 5 * i + 1 from rfl, k 1 (by omega), show 5 * i + 0 + 2 = 5 * i + 2 from rfl, k 2 (by omega), show 5 * i + 0 + 3 = 5 * i + 3 from rfl, k 3 (by omega), show 5 * i + 0 + 4 = 5 * i + 4 from rfl, k 4 (by omega)]
      rw [show f 2 = (p0 : Int) from b0, show f 3 = (p1 : Int) from b1, show f 4 = (p2 : Int) from b2]
      omega
    · have := h3 j hj
      rw [show 5 * i = 5 * i + 0 from rfl, k 0 (by omega), show 5 * i + 0 + 1 = 5 * i + 1 from rfl, k 1 (by omega), show 5 * i + 0 + 2 = 5 * i + 2 from rfl, k 2 (by omega), show 5 * i + 0 + 3 = 5 * i + 3 from rfl, k 3 (by omega), show 5 * i + 0 + 4 = 5 * i + 4 from rfl, k 4 (by omega)]
      exact this
  · rcases key i hi with k | ⟨j, hj, k⟩
    · rw [k 1 (by omega)]; exact h4
    · rw [k 1 (by omega)]; exact h5 j hj
theorem nOK_note {f f' ah : Nat → Int} {u : Nat} (h : nOK f ah u) (hok : okSt f') (h5 : f' 5 = f 5) (h1 : awB f' (f' 1)) : nOK f' (noteA ah f u) (noteB u + 1) := by
  obtain ⟨n1, n2⟩ := note_ok h
  refine ⟨hok, noteB_le h.2.1, n1, h1, fun i hi s hs => ?_⟩
  rw [h5]
  exact n2 i hi s hs
set_option maxHeartbeats 1000000 in
theorem o_waits (X : jX) (I : jMI) (n : Int) (hI : Inv I) (hn : -2147483648 ≤ n ∧ n < 2147483648) : C_X11_waits X [jR 0, jI n] I (fun v I1 => C_X12_waits X [jR 105, jI n] I1 (fun v' I2 => v' = v ∧ Inv I2)) := by
  refine CG.of (by decide) [some (jR 0), some (jI n)] rfl (Nat.le_of_ble_eq_true rfl) ?_
  have hok := hI.ok
  obtain ⟨u, u1, u2, u3⟩ := hI.1
  have hf0 := okSt_0 hok
  refine j_iload_n (pc := 0) dX11_waits_0 rfl ?_
  refine j_iconst (pc := 1) dX11_waits_1 ?_
  refine j_icmp_lt (pc := 2) 11 dX11_waits_2 (by decide) (by omega) (by omega) (fun h_2 => ?_) (fun h_2 => ?_)
  · refine j_aload_n (pc := 11) dX11_waits_11 rfl ?_
    refine j_bipush (pc := 12) dX11_waits_12 (by decide) ?_
    refine j_goI (pc := 14) (j_runV k_X11_84 m_X11_refuseBad (c_xbad X _ (-2)) dX11_waits_14 rfl (by decide) rfl (by decide) (by decide) rfl rfl (Nat.le_of_ble_eq_true rfl)) (fun r4 I4 h4 => ?_)
    obtain ⟨rfl, rfl⟩ := h4
    refine j_reti dX11_waits_17 (?_) rfl
    exact c_mwaits X _ n _ hn u (by unfold cRef; rw [jSf_n (by omega)]; exact u1) u2.2.1 (ok_ref hI 0) (fun _ => ⟨rfl, Inv_ref hI (by omega)⟩) (fun h => by omega)
  · refine j_iload_n (pc := 5) dX11_waits_5 rfl ?_
    refine j_bipush (pc := 6) dX11_waits_6 (by decide) ?_
    refine j_icmp_le (pc := 8) 18 dX11_waits_8 (by decide) (by omega) (by omega) (fun h_8 => ?_) (fun h_8 => ?_)
    · refine j_aload_n (pc := 18) dX11_waits_18 rfl ?_
      refine j_getR (pc := 19) f_X11_10 dX11_waits_19 rfl rfl (by decide) rfl ?_
      refine j_goV (pc := 22) (j_runV k_X11_154 m_X4_remember (c_nRem X I (I 106) (I 111) u u3 hok u2.2.1) dX11_waits_22 rfl (by decide) rfl (by decide) (by decide) rfl rfl (Nat.le_of_ble_eq_true rfl)) (fun I1 h1 => ?_)
      obtain ⟨hN1, z1⟩ := h1
      have x9 : I1 1 9 = I 106 0 := hN1.2.1
      refine j_aload_n (pc := 25) dX11_waits_25 rfl ?_
      refine j_getR (pc := 26) f_X11_10 dX11_waits_26 rfl rfl (by decide) rfl ?_
      refine j_aload_n (pc := 29) dX11_waits_29 rfl ?_
      refine j_getR (pc := 30) f_X11_10 dX11_waits_30 rfl rfl (by decide) rfl ?_
      refine j_getI (pc := 33) f_X11_157 dX11_waits_33 rfl rfl (by decide) ?_
      rw [x9]
      refine j_iload_n (pc := 36) dX11_waits_36 rfl ?_
      refine j_iadd (pc := 37) dX11_waits_37 ?_
      refine j_bipush (pc := 38) dX11_waits_38 (by decide) ?_
      refine j_goI (pc := 40) (j_runS k_X11_160 m_J9_min_7cf53 (c_min X I1 (I 106 0 + n) 59 (by omega) (by omega)) dX11_waits_40 (by decide) rfl rfl (Nat.le_of_ble_eq_true rfl)) (fun r2 I2 h2 => ?_)
      obtain ⟨e2, rfl⟩ := h2
      have e2' : r2 = min59 (I 106 0 + n) := by rw [e2]; unfold min59; split <;> split <;> omega
      refine j_putI_b (pc := 43) f_X11_157 dX11_waits_43 rfl rfl rfl (by decide) ?_
      refine j_aload_n (pc := 46) dX11_waits_46 rfl ?_
      refine j_getR (pc := 47) f_X11_10 dX11_waits_47 rfl rfl (by decide) rfl ?_
      refine j_getI_a (pc := 50) f_X11_157 dX11_waits_50 rfl rfl (by decide) ?_
      rw [jU_s]
      refine j_reti dX11_waits_53 (?_) rfl
      have x6 : I2 106 = I 106 := z1 106 (by omega) (by omega) (by omega) (by omega)
      have x11 : I2 111 = I 111 := z1 111 (by omega) (by omega) (by omega) (by omega)
      have x5 : I2 105 = I 105 := z1 105 (by omega) (by omega) (by omega) (by omega)
      generalize hI6 : jSf I2 1 (jU (I2 1) 9 r2) = I6
      have w1 : I6 1 = jU (I2 1) 9 r2 := by rw [← hI6, jSf_s]
      have z6 : ∀ z, z ≠ 1 → I6 z = I2 z := fun z q => by rw [← hI6, jSf_n q]
      have y6 : I6 106 = I 106 := (z6 106 (by omega)).trans x6
      have y11 : I6 111 = I 111 := (z6 111 (by omega)).trans x11
      have y5 : I6 105 = I 105 := (z6 105 (by omega)).trans x5
      refine c_mwaits X _ n _ hn u (by rw [y5]; exact u1) u2.2.1 (by rw [y6]; exact hok) (fun h => by omega) (fun h => ⟨by rw [y6, e2'], ?_⟩)
      have hmi : 0 ≤ min59 (I 106 0 + n) ∧ min59 (I 106 0 + n) ≤ 59 := by unfold min59; split <;> omega
      have hN6 : nR (jU (I 106) 0 (min59 (I 106 0 + n))) (noteA (I 111) (I 106) u) (noteB u + 1) I6 1 := by
        refine nR_up hN1 hok (fun k hk => jU_n (by omega)) (fun z q1 q2 q3 => z6 z q1) (by rw [w1, jU_s, jU_s]; exact e2') (by rw [w1, jU_n (by omega), jU_n (by omega)]; exact hN1.2.2.1) (by rw [w1, jU_n (by omega)]; exact hN1.2.2.2.1) (by rw [w1, jU_n (by omega)]) (fun p hp => by rw [z6 18 (by omega), jU_n (by omega)]; exact hN1.2.2.2.2.2.1 p hp)
      rw [y6]
      generalize hI7 : jSf (mNote I6 u) 106 (jU (I 106) 0 (min59 (I 106 0 + n))) = I7
      have v6 : I7 106 = jU (I 106) 0 (min59 (I 106 0 + n)) := by rw [← hI7, jSf_s]
      have v5 : I7 105 = jU (I 105) 16 ((noteB u : Nat) + 1) := by rw [← hI7, jSf_n (by omega)]; unfold mNote; rw [jSf_s, y5]
      have v11 : I7 111 = noteA (I 111) (I 106) u := by rw [← hI7, jSf_n (by omega)]; unfold mNote; rw [jSf_n (by omega), jSf_s, y11, y6]
      have vz : ∀ z, z ≠ 105 → z ≠ 106 → z ≠ 111 → I7 z = I6 z := fun z q1 q2 q3 => by rw [← hI7, jSf_n q2]; unfold mNote; rw [jSf_n q1, jSf_n q3]
      refine Inv_g hI (I1 := I6) (u' := noteB u + 1) (fun z q => (z6 z (by omega)).trans (z1 z (by omega) (by omega) (by omega) (by omega))) (by rw [v6, v11]; exact hN6) (fun z q1 q2 => vz z q1 (by omega) (by omega)) (by rw [v5, jU_s]; rfl) (fun j hj => by rw [v5, jU_n hj, y5]) ?_
      rw [v6, v11]
      refine nOK_note u2 (okSt_mi hok hmi) (jU_n (by omega)) (fun s hs => ?_)
      rw [jU_n (by omega)] at hs
      rw [jU_n (by omega)]
      exact u2.2.2.2.1 s hs
    · refine j_aload_n (pc := 11) dX11_waits_11 rfl ?_
      refine j_bipush (pc := 12) dX11_waits_12 (by decide) ?_
      refine j_goI (pc := 14) (j_runV k_X11_84 m_X11_refuseBad (c_xbad X _ (-2)) dX11_waits_14 rfl (by decide) rfl (by decide) (by decide) rfl rfl (Nat.le_of_ble_eq_true rfl)) (fun r4 I4 h4 => ?_)
      obtain ⟨rfl, rfl⟩ := h4
      refine j_reti dX11_waits_17 (?_) rfl
      exact c_mwaits X _ n _ hn u (by unfold cRef; rw [jSf_n (by omega)]; exact u1) u2.2.1 (ok_ref hI 0) (fun _ => ⟨rfl, Inv_ref hI (by omega)⟩) (fun h => by omega)
set_option maxHeartbeats 1000000 in
theorem o_undo (X : jX) (I : jMI) (hI : Inv I) : C_X11_undo X [jR 0] I (fun v I1 => C_X12_undo X [jR 105] I1 (fun v' I2 => v' = v ∧ Inv I2)) := by
  refine CG.of (by decide) [some (jR 0)] rfl (Nat.le_of_ble_eq_true rfl) ?_
  have hok := hI.ok
  obtain ⟨u, u1, u2, u3⟩ := hI.1
  have h8 := u2.2.1
  have h11 : I 1 11 = (u : Int) := u3.2.2.2.1
  refine j_aload_n (pc := 0) dX11_undo_0 rfl ?_
  refine j_getR (pc := 1) f_X11_10 dX11_undo_1 rfl rfl (by decide) rfl ?_
  refine j_getI (pc := 4) f_X11_96 dX11_undo_4 rfl rfl (by decide) ?_
  rw [h11]
  refine j_if_gt (pc := 7) 15 dX11_undo_7 (by decide) (by omega) (fun h_7 => ?_) (fun h_7 => ?_)
  · obtain ⟨w, rfl⟩ : ∃ w, u = w + 1 := ⟨u - 1, by omega⟩
    refine j_aload_n (pc := 15) dX11_undo_15 rfl ?_
    refine j_getR (pc := 16) f_X11_10 dX11_undo_16 rfl rfl (by decide) rfl ?_
    refine j_goI (pc := 19) (j_runV k_X11_165 m_X4_goBack (c_nBack X I (I 106) (I 111) w u3 hok (by omega) u2.2.2.1) dX11_undo_19 rfl (by decide) rfl (by decide) (by decide) rfl rfl (Nat.le_of_ble_eq_true rfl)) (fun r5 I5 h5 => ?_)
    obtain ⟨e5, hN5, z5⟩ := h5
    refine j_reti dX11_undo_22 (?_) rfl
    have x6 := z5 106 (by omega) (by omega)
    have x11 := z5 111 (by omega) (by omega)
    have x5 := z5 105 (by omega) (by omega)
    refine c_mundo X _ _ (w + 1) (by rw [x5]; exact u1) h8 (fun h => by omega) (fun h => ⟨by rw [x11, e5]; rfl, ?_⟩)
    generalize hI7 : mUndo I5 (w + 1) = I7
    have v6 : I7 106 = bkF (I 106) (I 111) w := by
      rw [← hI7]; unfold mUndo; rw [jSf_s]
      funext j
      unfold bkF
      rw [x11, x6]
      rfl
    have v5 : I7 105 = jU (I 105) 16 (w : Nat) := by
      rw [← hI7]; unfold mUndo; rw [jSf_n (by omega), jSf_s, x5]
      congr 1
      omega
    have vz : ∀ z, z ≠ 105 → z ≠ 106 → I7 z = I5 z := fun z q1 q2 => by rw [← hI7]; unfold mUndo; rw [jSf_n q2, jSf_n q1]
    have v11 : I7 111 = I 111 := (vz 111 (by omega) (by omega)).trans x11
    obtain ⟨o1, o2, o3, o4, o5⟩ := u2
    have ow := o3 w (by omega)
    refine Inv_g hI (I1 := I5) (u' := w) (fun z q => z5 z (by omega) (by omega)) (by rw [v6, v11]; exact hN5) (fun z q1 q2 => vz z q1 (by omega)) (by rw [v5, jU_s]) (fun j hj => by rw [v5, jU_n hj, x5]) ?_
    rw [v6, v11]
    have b5 : ∀ k, 5 ≤ k → bkF (I 106) (I 111) w k = I 106 k := fun k hk => by unfold bkF; rw [if_neg (by omega)]
    have b0 : ∀ k, k < 5 → bkF (I 106) (I 111) w k = I 111 (5 * w + k) := fun k hk => by unfold bkF; rw [if_pos hk]
    refine ⟨fun k hk => ?_, by omega, fun i hi => o3 i (by omega), fun s hs => ?_, fun i hi s hs => ?_⟩
    · by_cases hk5 : k < 5
      · rw [b0 k hk5]
        rcases (show k = 0 ∨ k = 1 ∨ k = 2 ∨ k = 3 ∨ k = 4 by omega) with rfl | rfl | rfl | rfl | rfl
        · exact ow.1
        · exact ow.2.1
        · exact ow.2.2.1
        · exact ow.2.2.2.1
        · exact ow.2.2.2.2
      · rw [b5 k (by omega)]; exact o1 k hk
    · rw [b0 1 (by omega)] at hs
      rw [b5 5 (by omega)]
      exact o5 w (by omega) s hs
    · rw [b5 5 (by omega)]
      exact o5 i (by omega) s hs
  · refine j_aload_n (pc := 10) dX11_undo_10 rfl ?_
    refine j_goI (pc := 11) (j_runV k_X11_148 m_X11_refuseNo (c_xno X _) dX11_undo_11 rfl (by decide) rfl (by decide) (by decide) rfl rfl (Nat.le_of_ble_eq_true rfl)) (fun r4 I4 h4 => ?_)
    obtain ⟨rfl, rfl⟩ := h4
    refine j_reti dX11_undo_14 (?_) rfl
    exact c_mundo X _ _ u (by unfold cRef; rw [jSf_n (by omega)]; exact u1) h8 (fun _ => ⟨rfl, Inv_ref hI (by omega)⟩) (fun h => by omega)
set_option maxHeartbeats 1000000 in
theorem o_step (X : jX) (I : jMI) (p r : Int) (hI : Inv I) (hp : -2147483648 ≤ p ∧ p < 2147483648) (hr : -2147483648 ≤ r ∧ r < 2147483648) : C_X11_step X [jR 0, jI p, jI r] I (fun v I1 => C_X12_step X [jR 105, jI p, jI r] I1 (fun v' I2 => v' = v ∧ Inv I2)) := by
  refine CG.of (by decide) [some (jR 0), some (jI p), some (jI r), none] rfl (Nat.le_of_ble_eq_true rfl) ?_
  have hok := hI.ok
  have hH := hI.hR
  obtain ⟨u, u1, u2, u3⟩ := hI.1
  refine j_iload_n (pc := 0) dX11_step_0 rfl ?_
  refine j_goI (pc := 1) (j_runS k_X11_111 m_X11_isPupil (c_xpupil X I p hp) dX11_step_1 (by decide) rfl rfl (Nat.le_of_ble_eq_true rfl)) (fun r1 I1 h1 => ?_)
  obtain ⟨h1, rfl⟩ := h1
  refine j_if_eq (pc := 4) 14 dX11_step_4 (by decide) (by omega) (fun h_4 => ?_) (fun h_4 => ?_)
  · refine j_aload_n (pc := 14) dX11_step_14 rfl ?_
    refine j_bipush (pc := 15) dX11_step_15 (by decide) ?_
    refine j_goI (pc := 17) (j_runV k_X11_84 m_X11_refuseBad (c_xbad X _ (-2)) dX11_step_17 rfl (by decide) rfl (by decide) (by decide) rfl rfl (Nat.le_of_ble_eq_true rfl)) (fun r4 I4 h4 => ?_)
    obtain ⟨rfl, rfl⟩ := h4
    refine j_reti dX11_step_20 (?_) rfl
    exact c_mstep X _ p r _ hp hr u (by unfold cRef; rw [jSf_n (by omega)]; exact u1) u2.2.1 (ok_ref hI 0) (fun _ => ⟨rfl, Inv_ref hI (by omega)⟩) (fun i j a _ _ _ _ _ _ _ => by omega) (fun i j a aw w I' _ _ _ _ _ _ _ _ _ _ _ => by omega)
  · refine j_iload_n (pc := 7) dX11_step_7 rfl ?_
    refine j_goI (pc := 8) (j_runS k_X11_76 m_X11_isRoom (c_xroom X I1 r hr) dX11_step_8 (by decide) rfl rfl (Nat.le_of_ble_eq_true rfl)) (fun r2 I2 h2 => ?_)
    obtain ⟨h2, rfl⟩ := h2
    refine j_if_ne (pc := 11) 21 dX11_step_11 (by decide) (by omega) (fun h_11 => ?_) (fun h_11 => ?_)
    · obtain ⟨i, rfl⟩ := Int.eq_ofNat_of_zero_le (show 0 ≤ p by omega)
      obtain ⟨j, rfl⟩ := Int.eq_ofNat_of_zero_le (show 0 ≤ r by omega)
      obtain ⟨a, ha, ha8⟩ := okSt_2 hok (p := i) (by omega)
      have h18 : I2 18 i = (a : Int) := (u3.2.2.2.2.2.1 i (by omega)).trans ha
      have hcr := cr_rng hok (a := a) (b := j) ha8 (by omega)
      refine j_aload_n (pc := 21) dX11_step_21 rfl ?_
      refine j_getR (pc := 22) f_X11_10 dX11_step_22 rfl rfl (by decide) rfl ?_
      refine j_getR (pc := 25) f_X11_63 dX11_step_25 rfl rfl (by decide) rfl ?_
      refine j_getR (pc := 28) f_X11_139 dX11_step_28 rfl rfl (by decide) rfl ?_
      refine j_aload_n (pc := 31) dX11_step_31 rfl ?_
      refine j_getR (pc := 32) f_X11_10 dX11_step_32 rfl rfl (by decide) rfl ?_
      refine j_getR (pc := 35) f_X11_142 dX11_step_35 rfl rfl (by decide) rfl ?_
      refine j_iload_n (pc := 38) dX11_step_38 rfl ?_
      refine j_iald_b (pc := 39) (i) dX11_step_39 rfl (by decide) (by decide) (by omega) (by omega) ?_
      rw [h18]
      refine j_iload_n (pc := 40) dX11_step_40 rfl ?_
      refine j_goI (pc := 41) (j_runS k_X11_145 m_X11_pair (c_pair X I2 a j) dX11_step_41 (by decide) rfl rfl (Nat.le_of_ble_eq_true rfl)) (fun r3 I3 h3 => ?_)
      obtain ⟨rfl, rfl⟩ := h3
      refine j_iald_b (pc := 44) (8 * a + j) dX11_step_44 rfl (by decide) (by decide) (by omega) (by omega) ?_
      rw [show I3 10 (8 * a + j) = cr (I3 106) a j from hH.2.2.1 a j ha8 (by omega)]
      refine j_istore_n3 (pc := 45) dX11_step_45 (by decide) rfl ?_
      refine j_iload_n (pc := 46) dX11_step_46 rfl ?_
      refine j_if_ge (pc := 47) 55 dX11_step_47 (by decide) (by omega) (fun h_47 => ?_) (fun h_47 => ?_)
      · refine j_aload_n (pc := 55) dX11_step_55 rfl ?_
        refine j_getR (pc := 56) f_X11_10 dX11_step_56 rfl rfl (by decide) rfl ?_
        refine j_iload_n (pc := 59) dX11_step_59 rfl ?_
        refine j_iload_n (pc := 60) dX11_step_60 rfl ?_
        refine j_iload_n (pc := 61) dX11_step_61 rfl ?_
        refine j_goI (pc := 62) (j_runV k_X11_151 m_X4_go (c_nGo X I3 (I3 106) (I3 111) u i j (cr (I3 106) a j) u3 hok u2.2.1 (by omega) (by omega) (by omega)) dX11_step_62 rfl (by decide) rfl (by decide) (by decide) rfl rfl (Nat.le_of_ble_eq_true rfl)) (fun r6 I6 h6 => ?_)
        obtain ⟨w, aw, rfl, haw, hW, hN6, z6⟩ := h6
        refine j_reti dX11_step_65 (?_) rfl
        have x6 := z6 106 (by omega) (by omega) (by omega) (by omega) (by omega)
        have x11 := z6 111 (by omega) (by omega) (by omega) (by omega) (by omega)
        have x5 := z6 105 (by omega) (by omega) (by omega) (by omega) (by omega)
        refine c_mstep X _ i j _ hp hr u (by rw [x5]; exact u1) u2.2.1 (by rw [x6]; exact hok) (fun h => by omega) (fun i' j' a' q1 q2 q3 q4 q5 q6 q7 => ?_) (fun i' j' a' aw' w' I' q1 q2 q3 q4 q5 q6 q7 q8 q9 q10 hsc => ?_)
        · obtain rfl : i = i' := by omega
          obtain rfl : j = j' := by omega
          rw [x6] at q5 q7
          obtain rfl : a = a' := by omega
          omega
        · obtain rfl : i = i' := by omega
          obtain rfl : j = j' := by omega
          rw [x6] at q5 q7 q9 q10
          obtain rfl : a = a' := by omega
          obtain rfl : aw = aw' := by omega
          obtain rfl : w = w' := isW_uniq hW q10
          rw [x6] at hsc
          refine ⟨rfl, Inv_sc (I := jSf (mNote I6 u) 106 (jU (mGo (I3 106) i j w aw) 0 (min59 (I3 106 0 + 1)))) ?_ hsc⟩
          have hf0 := okSt_0 hok
          have hmi : 0 ≤ min59 (I3 106 0 + 1) ∧ min59 (I3 106 0 + 1) ≤ 59 := by unfold min59; split <;> omega
          generalize hF : jU (mGo (I3 106) i j w aw) 0 (min59 (I3 106 0 + 1)) = F at *
          generalize hI7 : jSf (mNote I6 u) 106 F = I7
          have v6 : I7 106 = F := by rw [← hI7, jSf_s]
          have v5 : I7 105 = jU (I3 105) 16 ((noteB u : Nat) + 1) := by rw [← hI7, jSf_n (by omega)]; unfold mNote; rw [jSf_s, x5]
          have v11 : I7 111 = noteA (I3 111) (I3 106) u := by rw [← hI7, jSf_n (by omega)]; unfold mNote; rw [jSf_n (by omega), jSf_s, x11, x6]
          have vz : ∀ z, z ≠ 105 → z ≠ 106 → z ≠ 111 → I7 z = I6 z := fun z q1 q2 q3 => by rw [← hI7, jSf_n q2]; unfold mNote; rw [jSf_n q1, jSf_n q3]
          refine Inv_g hI (I1 := I6) (u' := noteB u + 1) (fun z q => z6 z (by omega) (by omega) (by omega) (by omega) (by omega)) (by rw [v6, v11]; exact hN6) (fun z q1 q2 => vz z q1 (by omega) (by omega)) (by rw [v5, jU_s]; rfl) (fun z hz => by rw [v5, jU_n hz, x5]) ?_
          rw [v6, v11]
          have hF5 : F 5 = I3 106 5 := by rw [← hF, jU_n (by omega)]; unfold mGo; rw [jU_n (by omega), jU_n (by omega)]
          have hF1 : F 1 = ((aw ||| w : Nat) : Int) := by rw [← hF, jU_n (by omega)]; unfold mGo; rw [jU_s]
          refine nOK_note u2 (by rw [← hF]; exact okSt_mi (okSt_go hok q3 q4 hW.1 q8) hmi) hF5 (fun s hs => ?_)
          rw [hF1, Int.toNat_natCast, tb_or] at hs
          rw [hF5]
          rcases hs with hs | hs
          · refine u2.2.2.2.1 s ?_
            rw [haw, Int.toNat_natCast]
            exact hs
          · exact ((hW.2 s).mp hs).1
      · refine j_aload_n (pc := 50) dX11_step_50 rfl ?_
        refine j_goI (pc := 51) (j_runV k_X11_148 m_X11_refuseNo (c_xno X _) dX11_step_51 rfl (by decide) rfl (by decide) (by decide) rfl rfl (Nat.le_of_ble_eq_true rfl)) (fun r5 I5 h5 => ?_)
        obtain ⟨rfl, rfl⟩ := h5
        refine j_reti dX11_step_54 (?_) rfl
        have e21 : cRef I3 1 106 = I3 106 := by unfold cRef; rw [jSf_n (by omega)]
        refine c_mstep X _ i j _ hp hr u (by unfold cRef; rw [jSf_n (by omega)]; exact u1) u2.2.1 (ok_ref hI 1) (fun h => by omega) (fun i' j' a' _ _ _ _ _ _ _ => ⟨rfl, Inv_ref hI (by omega)⟩) (fun i' j' a' aw w I' q1 q2 q3 q4 q5 q6 q7 q8 q9 _ _ => ?_)
        obtain rfl : i = i' := by omega
        obtain rfl : j = j' := by omega
        rw [e21] at q5 q9
        obtain rfl : a = a' := by omega
        omega
    · refine j_aload_n (pc := 14) dX11_step_14 rfl ?_
      refine j_bipush (pc := 15) dX11_step_15 (by decide) ?_
      refine j_goI (pc := 17) (j_runV k_X11_84 m_X11_refuseBad (c_xbad X _ (-2)) dX11_step_17 rfl (by decide) rfl (by decide) (by decide) rfl rfl (Nat.le_of_ble_eq_true rfl)) (fun r4 I4 h4 => ?_)
      obtain ⟨rfl, rfl⟩ := h4
      refine j_reti dX11_step_20 (?_) rfl
      exact c_mstep X _ p r _ hp hr u (by unfold cRef; rw [jSf_n (by omega)]; exact u1) u2.2.1 (ok_ref hI 0) (fun _ => ⟨rfl, Inv_ref hI (by omega)⟩) (fun i j a _ _ _ _ _ _ _ => by omega) (fun i j a aw w I' _ _ _ _ _ _ _ _ _ _ _ => by omega)
