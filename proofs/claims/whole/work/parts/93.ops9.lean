/-! ===== one call of both: stopped clocks ===== -/
theorem cl_le : ∀ M : Fin 6, ∀ sure : Fin 32, (sure : Nat) < 2 ^ (M : Nat) → ∀ c : Fin 11, ∀ n : Fin 6, csum c sure M (n + 1) ≤ 10 ^ ((M : Nat) - pop5 sure) := by decide +kernel
theorem cl_fr {u p m : Nat} (hp : p ≤ m) : (u * 10 ^ p) / Nat.gcd (u * 10 ^ p) (10 ^ m) = u / Nat.gcd u (10 ^ (m - p)) ∧ 10 ^ m / Nat.gcd (u * 10 ^ p) (10 ^ m) = 10 ^ (m - p) / Nat.gcd u (10 ^ (m - p)) := by
  have e : 10 ^ m = 10 ^ (m - p) * 10 ^ p := by rw [← Nat.pow_add]; congr 1; omega
  rw [e, Nat.gcd_mul_right]
  have h0 : 0 < 10 ^ p := Nat.pow_pos (by omega)
  exact ⟨Nat.mul_div_mul_right _ _ h0, Nat.mul_div_mul_right _ _ h0⟩
set_option maxHeartbeats 1000000 in
theorem k_cl (X : jX) (J : jMI) (a c n sure M : Nat) (hch : ∀ up, up ≤ 5 → J 104 up = (ch c sure M up : Nat)) (hM : J 2 9 = (M : Nat)) (hM5 : M ≤ 5) (hs : sure < 2 ^ M) (hc : c ≤ 10) (hn : n ≤ 5) (q : Int → jMI → Prop) (hq : q 1 (cFr J (csum c sure M (n + 1)) (10 ^ (M - pop5 sure)))) : S_X11_clocks X 68 [some (jR 0), some (jI a), some (jI c), some (jI n), some (jI sure), none, none, none, none, none] [] J q := by
  have h32 : sure < 32 := Nat.lt_of_lt_of_le hs (by
    have : (2 : Nat) ^ M ≤ 2 ^ 5 := Nat.pow_le_pow_right (by omega) hM5
    omega)
  obtain ⟨hp, -⟩ := cl_eq ⟨M, by omega⟩ ⟨sure, h32⟩ hs
  have hle := cl_le ⟨M, by omega⟩ ⟨sure, h32⟩ hs ⟨c, by omega⟩ ⟨n, by omega⟩
  simp only at hp hle
  have hd2 : 10 ^ (M - pop5 sure) ≤ 10 ^ 5 := Nat.pow_le_pow_right (by omega) (by omega)
  have hd0 : 0 < 10 ^ (M - pop5 sure) := Nat.pow_pos (by omega)
  have e105 : (10 : Nat) ^ 5 = 100000 := by decide
  have key2 : ∀ (p : Nat), pop5 sure ≤ p → p ≤ M → S_X11_clocks X 108 [some (jR 0), some (jI a), some (jI c), some (jI n), some (jI sure), some (jL (csum c sure M (n + 1) : Nat)), none, some (jL (10 ^ (p - pop5 sure) : Nat)), none, some (jI p)] [] J q := by
    refine mu1 (fun p => 5 - p) _ (fun p ih hp1 hp2 => ?_)
    refine j_iload (pc := 108) dX11_clocks_108 rfl ?_
    refine j_aload_n (pc := 110) dX11_clocks_110 rfl ?_
    refine j_getR (pc := 111) f_X11_10 dX11_clocks_111 rfl rfl (by decide) rfl ?_
    refine j_getR (pc := 114) f_X11_63 dX11_clocks_114 rfl rfl (by decide) rfl ?_
    refine j_getI (pc := 117) f_X11_66 dX11_clocks_117 rfl rfl (by decide) ?_
    rw [hM]
    refine j_icmp_ge (pc := 120) 137 dX11_clocks_120 (by decide) (by omega) (by omega) (fun h_120 => ?_) (fun h_120 => ?_)
    · obtain rfl : p = M := by omega
      refine j_aload_n (pc := 137) dX11_clocks_137 rfl ?_
      refine j_lload (pc := 138) dX11_clocks_138 rfl ?_
      refine j_lload (pc := 140) dX11_clocks_140 rfl ?_
      refine j_goV (pc := 142) (j_runV k_X11_251 m_X11_keepFraction (c_keep X J (csum c sure p (n + 1)) (10 ^ (p - pop5 sure)) (by omega) hd0 (by omega) hle) dX11_clocks_142 rfl (by decide) rfl (by decide) (by decide) rfl rfl (Nat.le_of_ble_eq_true rfl)) (fun I6 h6 => ?_)
      subst h6
      refine j_iconst (pc := 145) dX11_clocks_145 ?_
      refine j_reti dX11_clocks_146 (?_) rfl
      exact hq
    · refine j_lload (pc := 123) dX11_clocks_123 rfl ?_
      refine j_ldc2 (pc := 125) cl_X11_249 dX11_clocks_125 ?_
      refine j_lmul (pc := 128) dX11_clocks_128 ?_
      refine j_lstore7 (pc := 129) dX11_clocks_129 (by decide) rfl ?_
      refine j_iinc9 (pc := 131) dX11_clocks_131 (by decide) rfl ?_
      refine j_goto (pc := 134) 108 dX11_clocks_134 (by decide) ?_
      have e9 : ((10 ^ (p - pop5 sure) : Nat) : Int) * 10 = ((10 ^ (p + 1 - pop5 sure) : Nat) : Int) := by
        rw [show p + 1 - pop5 sure = (p - pop5 sure) + 1 by omega, Nat.pow_succ]
        push_cast
        rfl
      rw [e9]
      exact ih (p + 1) (by omega) (by omega) (by omega)
  have key1 : ∀ (up : Nat), up ≤ n + 1 → S_X11_clocks X 74 [some (jR 0), some (jI a), some (jI c), some (jI n), some (jI sure), some (jL (csum c sure M up : Nat)), none, some (jI up), none, none] [] J q := by
    refine mu1 (fun up => 8 - up) _ (fun up ih hup => ?_)
    refine j_iload (pc := 74) dX11_clocks_74 rfl ?_
    refine j_iload_n (pc := 76) dX11_clocks_76 rfl ?_
    refine j_icmp_gt (pc := 77) 98 dX11_clocks_77 (by decide) (by omega) (by omega) (fun h_77 => ?_) (fun h_77 => ?_)
    · obtain rfl : up = n + 1 := by omega
      refine j_lconst1 (pc := 98) dX11_clocks_98 ?_
      refine j_lstore7 (pc := 99) dX11_clocks_99 (by decide) rfl ?_
      refine j_iload (pc := 101) dX11_clocks_101 rfl ?_
      refine j_goI (pc := 103) (j_runS k_X11_244 m_J6_bitCount_0f7a4 (c_bitCount X J sure h32) dX11_clocks_103 (by decide) rfl rfl (Nat.le_of_ble_eq_true rfl)) (fun r1 I1 h1 => ?_)
      obtain ⟨rfl, rfl⟩ := h1
      refine j_istore9 (pc := 106) dX11_clocks_106 (by decide) rfl ?_
      have := key2 (pop5 sure) (Nat.le_refl _) hp
      rw [Nat.sub_self] at this
      exact this
    · refine j_lload (pc := 80) dX11_clocks_80 rfl ?_
      refine j_aload_n (pc := 82) dX11_clocks_82 rfl ?_
      refine j_getR (pc := 83) f_X11_52 dX11_clocks_83 rfl rfl (by decide) rfl ?_
      refine j_iload (pc := 86) dX11_clocks_86 rfl ?_
      refine j_lald_b (pc := 88) (up) dX11_clocks_88 rfl (by decide) (by decide) (by omega) (by omega) ?_
      rw [hch up (by omega)]
      refine j_ladd (pc := 89) dX11_clocks_89 ?_
      refine j_lstore5 (pc := 90) dX11_clocks_90 (by decide) rfl ?_
      refine j_iinc7 (pc := 92) dX11_clocks_92 (by decide) rfl ?_
      refine j_goto (pc := 95) 74 dX11_clocks_95 (by decide) ?_
      have e9 : ((csum c sure M up : Nat) : Int) + ((ch c sure M up : Nat) : Int) = ((csum c sure M (up + 1) : Nat) : Int) := rfl
      rw [e9]
      exact ih (up + 1) (by omega) (by omega)
  refine j_lconst0 (pc := 68) dX11_clocks_68 ?_
  refine j_lstore5 (pc := 69) dX11_clocks_69 (by decide) rfl ?_
  refine j_iconst (pc := 71) dX11_clocks_71 ?_
  refine j_istore7 (pc := 72) dX11_clocks_72 (by decide) rfl ?_
  exact key1 0 (by omega)
theorem Inv_frac {I I6 : jMI} (hI : Inv I) (hz : ∀ z, z ≠ 104 → I6 z = I z) {u d U D : Nat} (e1 : U / Nat.gcd U D = u / Nat.gcd u d) (e2 : D / Nat.gcd U D = d / Nat.gcd u d) : Inv (mFr (cFr I6 u d) U D) := by
  obtain ⟨⟨w, u1, u2, u3⟩, ⟨n, t1, t2, t3, t4, t5⟩, ⟨c1, c2⟩, ⟨d1, d2, d3⟩, f1, f2⟩ := hI
  generalize hI7 : mFr (cFr I6 u d) U D = I7
  have y0 : I7 0 = jU (jU (I 0) 8 ((u / Nat.gcd u d : Nat) : Int)) 9 ((d / Nat.gcd u d : Nat) : Int) := by rw [← hI7]; unfold mFr cFr; rw [jSf_n (by omega), jSf_s, hz 0 (by omega)]
  have y5 : I7 105 = jU (jU (I 105) 1 ((U / Nat.gcd U D : Nat) : Int)) 2 ((D / Nat.gcd U D : Nat) : Int) := by rw [← hI7]; unfold mFr cFr; rw [jSf_s, jSf_n (by omega), hz 105 (by omega)]
  have yz : ∀ z, z ≠ 0 → z ≠ 105 → z ≠ 104 → I7 z = I z := fun z a b c => by rw [← hI7]; unfold mFr cFr; rw [jSf_n b, jSf_n a, hz z c]
  have x106 := yz 106 (by omega) (by omega) (by omega)
  have x107 := yz 107 (by omega) (by omega) (by omega)
  have x108 := yz 108 (by omega) (by omega) (by omega)
  have x111 := yz 111 (by omega) (by omega) (by omega)
  refine ⟨⟨w, by rw [y5, jU_n (by omega), jU_n (by omega)]; exact u1, by rw [x106, x111]; exact u2, by rw [x106, x111]; exact nR_fr u3 (fun z q => yz z (by omega) (by omega) (by omega))⟩, ⟨n, t1, by rw [yz 78 (by omega) (by omega) (by omega)]; exact t2, by rw [y5, jU_n (by omega), jU_n (by omega)]; exact t3, by rw [yz 79 (by omega) (by omega) (by omega), x108]; exact t4, by rw [x108]; exact t5⟩, ⟨?_, ?_⟩, ⟨?_, ?_, ?_⟩, ?_, ?_⟩
  · rw [y0, y5, jU_n (by omega), jU_s, jU_n (by omega), jU_s, e1]
  · rw [y0, y5, jU_s, jU_s, e2]
  · rw [y0, jU_n (by omega), jU_n (by omega), x107]; exact d1
  · rw [y0, jU_n (by omega), jU_n (by omega), x107]; exact d2
  · rw [y0, jU_n (by omega), jU_n (by omega), x107]; exact d3
  · exact imR_fr f1 (by rw [yz 77 (by omega) (by omega) (by omega)]) (by rw [yz 120 (by omega) (by omega) (by omega)]) (fun j _ => by rw [yz 121 (by omega) (by omega) (by omega)]) (fun j _ => by rw [yz 122 (by omega) (by omega) (by omega)]) (by rw [yz 123 (by omega) (by omega) (by omega)]) (fun z a b => yz z (by omega) (by omega) (by omega))
  · exact imR_fr f2 (by rw [yz 77 (by omega) (by omega) (by omega)]) (by rw [yz 120 (by omega) (by omega) (by omega)]) (fun j _ => by rw [yz 121 (by omega) (by omega) (by omega)]) (fun j _ => by rw [yz 122 (by omega) (by omega) (by omega)]) (by rw [yz 123 (by omega) (by omega) (by omega)]) (fun z a b => yz z (by omega) (by omega) (by omega))
set_option maxHeartbeats 1000000 in
theorem o_clocks (X : jX) (I : jMI) (a c n : Int) (hI : Inv I) (ha : -2147483648 ≤ a ∧ a < 2147483648) (hc : -2147483648 ≤ c ∧ c < 2147483648) (hn : -2147483648 ≤ n ∧ n < 2147483648) : C_X11_clocks X [jR 0, jI a, jI c, jI n] I (fun v I1 => C_X12_clocks X [jR 105, jI a, jI c, jI n] I1 (fun v' I2 => v' = v ∧ Inv I2)) := by
  refine CG.of (by decide) [some (jR 0), some (jI a), some (jI c), some (jI n), none, none, none, none, none, none] rfl (Nat.le_of_ble_eq_true rfl) ?_
  have hok := hI.ok
  have hH := hI.hR
  obtain ⟨u, u1, u2, u3⟩ := hI.1
  obtain ⟨M, hM, hM5⟩ := okSt_5 hok
  obtain ⟨aw, haw, haw32⟩ := okSt_1 hok
  have h29 : I 2 9 = (M : Int) := hH.1.trans hM
  have h10 : I 1 10 = (aw : Int) := u3.2.2.1.trans haw
  have h9 : I 1 9 = I 106 0 := u3.2.1
  have hf0 := okSt_0 hok
  refine j_iload_n (pc := 0) dX11_clocks_0 rfl ?_
  refine j_goI (pc := 1) (j_runS k_X11_76 m_X11_isRoom (c_xroom X I a ha) dX11_clocks_1 (by decide) rfl rfl (Nat.le_of_ble_eq_true rfl)) (fun r1 I1 h1 => ?_)
  obtain ⟨h1, rfl⟩ := h1
  refine j_if_eq (pc := 4) 24 dX11_clocks_4 (by decide) (by omega) (fun h_4 => ?_) (fun h_4 => ?_)
  · refine j_aload_n (pc := 24) dX11_clocks_24 rfl ?_
    refine j_bipush (pc := 25) dX11_clocks_25 (by decide) ?_
    refine j_goI (pc := 27) (j_runV k_X11_84 m_X11_refuseBad (c_xbad X _ (-2)) dX11_clocks_27 rfl (by decide) rfl (by decide) (by decide) rfl rfl (Nat.le_of_ble_eq_true rfl)) (fun r4 I4 h4 => ?_)
    obtain ⟨rfl, rfl⟩ := h4
    refine j_reti dX11_clocks_30 (?_) rfl
    exact c_mclocks X _ a c n _ ha hc hn (ok_ref hI 0) M (by unfold cRef; rw [jSf_n (by omega)]; exact hM) hM5 (fun _ => ⟨rfl, Inv_ref hI (by omega)⟩) (fun i j k aw w I' _ _ _ _ _ _ _ _ _ _ => by omega)
  · refine j_iload_n (pc := 7) dX11_clocks_7 rfl ?_
    refine j_bipush (pc := 8) dX11_clocks_8 (by decide) ?_
    refine j_goI (pc := 10) (j_runS k_X11_80 m_X11_within (c_xin X I1 c 10 hc (by omega)) dX11_clocks_10 (by decide) rfl rfl (Nat.le_of_ble_eq_true rfl)) (fun r2 I2 h2 => ?_)
    obtain ⟨h2, rfl⟩ := h2
    refine j_if_eq (pc := 13) 24 dX11_clocks_13 (by decide) (by omega) (fun h_13 => ?_) (fun h_13 => ?_)
    · refine j_aload_n (pc := 24) dX11_clocks_24 rfl ?_
      refine j_bipush (pc := 25) dX11_clocks_25 (by decide) ?_
      refine j_goI (pc := 27) (j_runV k_X11_84 m_X11_refuseBad (c_xbad X _ (-2)) dX11_clocks_27 rfl (by decide) rfl (by decide) (by decide) rfl rfl (Nat.le_of_ble_eq_true rfl)) (fun r4 I4 h4 => ?_)
      obtain ⟨rfl, rfl⟩ := h4
      refine j_reti dX11_clocks_30 (?_) rfl
      exact c_mclocks X _ a c n _ ha hc hn (ok_ref hI 0) M (by unfold cRef; rw [jSf_n (by omega)]; exact hM) hM5 (fun _ => ⟨rfl, Inv_ref hI (by omega)⟩) (fun i j k aw w I' _ _ _ _ _ _ _ _ _ _ => by omega)
    · refine j_iload_n (pc := 16) dX11_clocks_16 rfl ?_
      refine j_iconst (pc := 17) dX11_clocks_17 ?_
      refine j_goI (pc := 18) (j_runS k_X11_80 m_X11_within (c_xin X I2 n 5 hn (by omega)) dX11_clocks_18 (by decide) rfl rfl (Nat.le_of_ble_eq_true rfl)) (fun r3 I3 h3 => ?_)
      obtain ⟨h3, rfl⟩ := h3
      refine j_if_ne (pc := 21) 31 dX11_clocks_21 (by decide) (by omega) (fun h_21 => ?_) (fun h_21 => ?_)
      · obtain ⟨i, rfl⟩ := Int.eq_ofNat_of_zero_le (show 0 ≤ a by omega)
        obtain ⟨j, rfl⟩ := Int.eq_ofNat_of_zero_le (show 0 ≤ c by omega)
        obtain ⟨k, rfl⟩ := Int.eq_ofNat_of_zero_le (show 0 ≤ n by omega)
        refine j_aload_n (pc := 31) dX11_clocks_31 rfl ?_
        refine j_getR (pc := 32) f_X11_10 dX11_clocks_32 rfl rfl (by decide) rfl ?_
        refine j_getI (pc := 35) f_X11_180 dX11_clocks_35 rfl rfl (by decide) ?_
        rw [h10]
        refine j_aload_n (pc := 38) dX11_clocks_38 rfl ?_
        refine j_getR (pc := 39) f_X11_10 dX11_clocks_39 rfl rfl (by decide) rfl ?_
        refine j_getR (pc := 42) f_X11_63 dX11_clocks_42 rfl rfl (by decide) rfl ?_
        refine j_bipush (pc := 45) dX11_clocks_45 (by decide) ?_
        refine j_iload_n (pc := 47) dX11_clocks_47 rfl ?_
        refine j_aload_n (pc := 48) dX11_clocks_48 rfl ?_
        refine j_getR (pc := 49) f_X11_10 dX11_clocks_49 rfl rfl (by decide) rfl ?_
        refine j_getI (pc := 52) f_X11_157 dX11_clocks_52 rfl rfl (by decide) ?_
        rw [h9]
        refine j_goI (pc := 55) (j_runV k_X11_189 m_X2_wakers (c_wakers X I3 (I3 106) 9 i (I3 106 0) hH hok (by omega) (by omega) (by omega)) dX11_clocks_55 rfl (by decide) rfl (by decide) (by decide) rfl rfl (Nat.le_of_ble_eq_true rfl)) (fun r5 I5 h5 => ?_)
        obtain ⟨w, rfl, hw, rfl⟩ := h5
        have hw32 := hw.1
        refine j_ior (pc := 58) dX11_clocks_58 ?_
        rw [jbor_n (by omega) (by omega)]
        have hsure : (aw ||| w) < 2 ^ M := by
          refine Nat.lt_pow_two_of_testBit _ (fun b hb => ?_)
          cases hq : (aw ||| w).testBit b with
          | false => rfl
          | true =>
            exfalso
            rcases tb_or.mp hq with hs | hs
            · have := u2.2.2.2.1 b (by rw [haw, Int.toNat_natCast]; exact hs)
              omega
            · have := ((hw.2 b).mp hs).1
              omega
        have h32 : (aw ||| w) < 32 := Nat.lt_of_lt_of_le hsure (by
          have : (2 : Nat) ^ M ≤ 2 ^ 5 := Nat.pow_le_pow_right (by omega) hM5
          omega)
        refine j_istore4 (pc := 59) dX11_clocks_59 (by decide) rfl ?_
        refine j_aload_n (pc := 61) dX11_clocks_61 rfl ?_
        refine j_iload (pc := 62) dX11_clocks_62 rfl ?_
        refine j_iload_n (pc := 64) dX11_clocks_64 rfl ?_
        refine j_goV (pc := 65) (j_runV k_X11_240 m_X11_weighClocks (c_weigh X I5 (aw ||| w) j M h29 hM5 h32 (by omega)) dX11_clocks_65 rfl (by decide) rfl (by decide) (by decide) rfl rfl (Nat.le_of_ble_eq_true rfl)) (fun I6 h6 => ?_)
        obtain ⟨hch, hz⟩ := h6
        refine k_cl X I6 i j k (aw ||| w) M hch (by rw [hz 2 (by omega)]; exact h29) hM5 hsure (by omega) (by omega) _ ?_
        generalize hJ : cFr I6 (csum j (aw ||| w) M (k + 1)) (10 ^ (M - pop5 (aw ||| w))) = J
        have x6 : J 106 = I5 106 := by rw [← hJ]; unfold cFr; rw [jSf_n (by omega), hz 106 (by omega)]
        refine c_mclocks X _ i j k _ ha hc hn (by rw [x6]; exact hok) M (by rw [x6]; exact hM) hM5 (fun h => by omega) (fun i' j' k' aw' w' I' q1 q2 q3 q4 q5 q6 q7 q8 q9 hsc => ⟨rfl, ?_⟩)
        obtain rfl : i = i' := by omega
        obtain rfl : j = j' := by omega
        obtain rfl : k = k' := by omega
        rw [x6] at q7 q9
        obtain rfl : aw = aw' := by omega
        obtain rfl : w = w' := isW_uniq hw q9
        refine Inv_sc ?_ hsc
        obtain ⟨hp, hcl⟩ := cl_eq ⟨M, by omega⟩ ⟨aw ||| w, h32⟩ hsure
        have hcl2 := hcl ⟨j, by omega⟩ ⟨k, by omega⟩
        simp only at hp hcl2
        obtain ⟨g1, g2⟩ := cl_fr (u := csum j (aw ||| w) M (k + 1)) hp
        rw [hcl2] at g1 g2
        rw [← hJ]
        exact Inv_frac hI hz g1 g2
      · refine j_aload_n (pc := 24) dX11_clocks_24 rfl ?_
        refine j_bipush (pc := 25) dX11_clocks_25 (by decide) ?_
        refine j_goI (pc := 27) (j_runV k_X11_84 m_X11_refuseBad (c_xbad X _ (-2)) dX11_clocks_27 rfl (by decide) rfl (by decide) (by decide) rfl rfl (Nat.le_of_ble_eq_true rfl)) (fun r4 I4 h4 => ?_)
        obtain ⟨rfl, rfl⟩ := h4
        refine j_reti dX11_clocks_30 (?_) rfl
        exact c_mclocks X _ a c n _ ha hc hn (ok_ref hI 0) M (by unfold cRef; rw [jSf_n (by omega)]; exact hM) hM5 (fun _ => ⟨rfl, Inv_ref hI (by omega)⟩) (fun i j k aw w I' _ _ _ _ _ _ _ _ _ _ => by omega)
