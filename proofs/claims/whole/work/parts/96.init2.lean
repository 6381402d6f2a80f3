/-! ===== the constructors of both ===== -/
theorem jSr_s {R : jMR} {k j : Nat} {a : Option Nat} : jSr R k j a k j = a := by
  unfold jSr
  rw [if_pos ⟨rfl, rfl⟩]
def nrf (k : Nat) : Bool := match jsh k with
  | .inl (ty, _) => jkd ty != 2
  | .inr ci => jnF ci == 0
theorem jen_nr {X : jX} {I : jMI} {R R' : jMR} {k : Nat} (h : nrf k = true) : jen X I R k = jen X I R' k := by
  unfold nrf at h
  unfold jen
  cases hs : jsh k with
  | inl q =>
    obtain ⟨ty, len⟩ := q
    rw [hs] at h
    have h2 : jkd ty ≠ 2 := by simpa using h
    show Sum.inl (jcA X ty, len, jac X I R ty k) = Sum.inl (jcA X ty, len, jac X I R' ty k)
    congr 3
    unfold jac
    cases ty <;> first | rfl | (exact absurd rfl h2)
  | inr ci =>
    rw [hs] at h
    have h2 : jnF ci = 0 := by simpa using h
    show Sum.inr (ci, jfs X I R ci k) = Sum.inr (ci, jfs X I R' ci k)
    unfold jfs
    rw [h2]
    rfl
def refL : List Nat := [0, 1, 2, 3, 26, 27, 28, 29, 52, 53, 54, 78, 80, 81, 96, 100, 105]
theorem nrf_ok : ∀ k : Fin 124, (k : Nat) ∉ refL → nrf k = true := by decide +kernel
theorem ref_rows {X : jX} {I : jMI} {R : jMR} (h : ∀ k, k ∈ refL → R k = RF k) : ∀ k, k < 124 → jen X I R k = jen X I RF k := by
  intro k hk
  by_cases hm : k ∈ refL
  · exact jen_c (fun _ => rfl) (fun j => by rw [h k hm])
  · exact jen_nr (nrf_ok ⟨k, hk⟩ hm)
def X11Q (I : jMI) : Option jV → jMI → jMR → Nat → Prop := fun v I' R' n' => v = none ∧ n' = 105 ∧ (I' 0 8 = 0 ∧ I' 0 9 = 1 ∧ I' 0 10 = 0 ∧ I' 0 11 = 0 ∧ I' 0 12 = 0) ∧ (∀ f, isE f → hR f I' 2) ∧ (∀ j, I' 1 j = 0) ∧ (∀ j, I' 18 j = 0) ∧ (∀ j, I' 77 j = 0) ∧ (∀ j, I' 78 j = 0) ∧ ∀ k, k ∈ refL → k < 105 → R' k = RF k
set_option maxHeartbeats 4000000 in
theorem i_X11 (X : jX) (I : jMI) (R : jMR) (hR0 : ∀ j, R 0 j = none) (hI0 : ∀ j, I 0 j = 0) : CG X yX11_init cX11_init 1 none 6 104 1442 [jR 0] I R 1 (X11Q I) := by
  refine CG.of (by decide) [some (jR 0)] rfl (Nat.le_of_ble_eq_true rfl) ?_
  refine j_aload_n (pc := 0) dX11_init_0 rfl ?_
  refine j_objI (pc := 1) k_X11_1 dX11_init_1 (by decide) (Nat.le_of_ble_eq_true rfl) ?_
  refine j_aload_n (pc := 4) dX11_init_4 rfl ?_
  refine j_newc (pc := 5) (ci := 4) 2 103 1429 nc_X11_7 ni_X4 nz_X4 (by decide) dX11_init_5 rfl rfl (by decide) (by decide) ?_
  refine j_dupR (pc := 8) dX11_init_8 ?_
  refine j_goQ 79 1191 (j_runIN k_X11_9 m_X4_init (i_X4_1 X _ _ (fun j => jNr_s)) dX11_init_9 (by decide) rfl rfl (Nat.le_of_ble_eq_true rfl)) rfl rfl (fun v1 I1 R1 n1 h1 => ?_)
  obtain ⟨rfl, rfl, aI1, aH1, aZ1, aR1, aA1, aB1, aC1⟩ := h1
  have gR1 : ∀ k, k < 1 → ∀ j, R1 k j = _ := fun k hk j => congrFun (aR1 k hk) j
  refine j_putF (pc := 12) f_X11_10 dX11_init_12 rfl rfl rfl rfl rfl (by decide) ?_
  refine j_aload_n (pc := 15) dX11_init_15 rfl ?_
  refine j_iconst (pc := 16) dX11_init_16 ?_
  refine j_newq (pc := 17) (E := RX4) (len := 2) (t0 := 5) 27 78 1189 nc_X11_7 no_X4 rfl dX11_init_17 rfl rfl (by decide) rfl (by decide) (by decide) ?_
  refine j_dupR (pc := 20) dX11_init_20 ?_
  refine j_iconst (pc := 21) dX11_init_21 ?_
  refine j_newc (pc := 22) (ci := 4) 28 77 1176 nc_X11_7 ni_X4 nz_X4 (by decide) dX11_init_22 rfl rfl (by decide) (by decide) ?_
  refine j_dupR (pc := 25) dX11_init_25 ?_
  refine j_goQ 53 938 (j_runIN k_X11_9 m_X4_init (i_X4_27 X _ _ (fun j => jNr_s)) dX11_init_26 (by decide) rfl rfl (Nat.le_of_ble_eq_true rfl)) rfl rfl (fun v2 I2 R2 n2 h2 => ?_)
  obtain ⟨rfl, rfl, aI2, aH2, aZ2, aR2, aA2, aB2, aC2⟩ := h2
  have gR2 : ∀ k, k < 27 → ∀ j, R2 k j = _ := fun k hk j => congrFun (aR2 k hk) j
  refine j_aast (pc := 29) (ci := 4) (t0 := 5) 0 rfl dX11_init_29 rfl (by decide) rfl (by decide) (by decide) (Or.inl rfl) rfl (by decide) (by decide) ?_
  refine j_dupR (pc := 30) dX11_init_30 ?_
  refine j_iconst (pc := 31) dX11_init_31 ?_
  refine j_newc (pc := 32) (ci := 4) 53 52 925 nc_X11_7 ni_X4 nz_X4 (by decide) dX11_init_32 rfl rfl (by decide) (by decide) ?_
  refine j_dupR (pc := 35) dX11_init_35 ?_
  refine j_goQ 28 687 (j_runIN k_X11_9 m_X4_init (i_X4_52 X _ _ (fun j => jNr_s)) dX11_init_36 (by decide) rfl rfl (Nat.le_of_ble_eq_true rfl)) rfl rfl (fun v3 I3 R3 n3 h3 => ?_)
  obtain ⟨rfl, rfl, aI3, aH3, aZ3, aR3, aA3, aB3, aC3⟩ := h3
  have gR3 : ∀ k, k < 52 → ∀ j, R3 k j = _ := fun k hk j => congrFun (aR3 k hk) j
  refine j_aast (pc := 39) (ci := 4) (t0 := 5) 1 rfl dX11_init_39 rfl (by decide) rfl (by decide) (by decide) (Or.inl rfl) rfl (by decide) (by decide) ?_
  refine j_putF (pc := 40) f_X11_16 dX11_init_40 rfl rfl rfl rfl rfl (by decide) ?_
  refine j_aload_n (pc := 43) dX11_init_43 rfl ?_
  refine j_iconst (pc := 44) dX11_init_44 ?_
  refine j_newa (pc := 45) (len := 2) (t0 := 3) (at0 := .boolean) (ty := .boolean) 78 27 685 rfl na_boolean rfl (fun _ _ h => h) (Or.inl ⟨rfl, rfl⟩) (by decide) dX11_init_45 rfl rfl (by decide) rfl (by decide) (by decide) ?_
  refine j_putF (pc := 47) f_X11_20 dX11_init_47 rfl rfl rfl rfl rfl (by decide) ?_
  refine j_aload_n (pc := 50) dX11_init_50 rfl ?_
  refine j_newc (pc := 51) (ci := 8) 79 26 680 nc_X11_24 ni_X8 nz_X8 (by decide) dX11_init_51 rfl rfl (by decide) (by decide) ?_
  refine j_dupR (pc := 54) dX11_init_54 ?_
  refine j_goQ 25 530 (j_runIN k_X11_26 m_X8_init (i_X8_78 X _ _ (fun j => jNr_s)) dX11_init_55 (by decide) rfl rfl (Nat.le_of_ble_eq_true rfl)) rfl rfl (fun v4 I4 R4 n4 h4 => ?_)
  obtain ⟨rfl, rfl, aI4, aR4, aA4⟩ := h4
  have gR4 : ∀ k, k < 78 → ∀ j, R4 k j = _ := fun k hk j => congrFun (aR4 k hk) j
  refine j_putF (pc := 58) f_X11_27 dX11_init_58 rfl rfl rfl rfl rfl (by decide) ?_
  refine j_aload_n (pc := 61) dX11_init_61 rfl ?_
  refine j_newc (pc := 62) (ci := 2) 81 24 519 nc_X11_31 ni_X2 nz_X2 (by decide) dX11_init_62 rfl rfl (by decide) (by decide) ?_
  refine j_dupR (pc := 65) dX11_init_65 ?_
  refine j_goQ 9 340 (j_runI k_X11_33 m_X2_init (i_X2_80 X _ _ (fun j => jNr_s)) dX11_init_66 (by decide) rfl rfl (Nat.le_of_ble_eq_true rfl)) rfl rfl (fun v5 I5 R5 n5 h5 => ?_)
  obtain ⟨rfl, rfl, aI5, aH5, aR5, aA5, aB5⟩ := h5
  have gR5 : ∀ k, k < 80 → ∀ j, R5 k j = _ := fun k hk j => congrFun (aR5 k hk) j
  refine j_putF (pc := 69) f_X11_34 dX11_init_69 rfl rfl rfl rfl rfl (by decide) ?_
  refine j_aload_n (pc := 72) dX11_init_72 rfl ?_
  refine j_newc (pc := 73) (ci := 1) 97 8 337 nc_X11_38 ni_X1 nz_X1 (by decide) dX11_init_73 rfl rfl (by decide) (by decide) ?_
  refine j_dupR (pc := 76) dX11_init_76 ?_
  refine j_goQ 5 313 (j_runIN k_X11_40 m_X1_init (i_X1_96 X _ _ (fun j => jNr_s)) dX11_init_77 (by decide) rfl rfl (Nat.le_of_ble_eq_true rfl)) rfl rfl (fun v6 I6 R6 n6 h6 => ?_)
  obtain ⟨rfl, rfl, aI6, aR6, aA6⟩ := h6
  have gR6 : ∀ k, k < 96 → ∀ j, R6 k j = _ := fun k hk j => congrFun (aR6 k hk) j
  refine j_putF (pc := 80) f_X11_41 dX11_init_80 rfl rfl rfl rfl rfl (by decide) ?_
  refine j_aload_n (pc := 83) dX11_init_83 rfl ?_
  refine j_newc (pc := 84) (ci := 9) 101 4 310 nc_X11_45 ni_X9 nz_X9 (by decide) dX11_init_84 rfl rfl (by decide) (by decide) ?_
  refine j_dupR (pc := 87) dX11_init_87 ?_
  refine j_goQ 1 6 (j_runIN k_X11_47 m_X9_init (i_X9_100 X _ _ (fun j => jNr_s)) dX11_init_88 (by decide) rfl rfl (Nat.le_of_ble_eq_true rfl)) rfl rfl (fun v7 I7 R7 n7 h7 => ?_)
  obtain ⟨rfl, rfl, aI7, aR7, aA7⟩ := h7
  have gR7 : ∀ k, k < 100 → ∀ j, R7 k j = _ := fun k hk j => congrFun (aR7 k hk) j
  refine j_putF (pc := 91) f_X11_48 dX11_init_91 rfl rfl rfl rfl rfl (by decide) ?_
  refine j_aload_n (pc := 94) dX11_init_94 rfl ?_
  refine j_bipush (pc := 95) dX11_init_95 (by decide) ?_
  refine j_newa (pc := 97) (len := 6) (t0 := 1) (at0 := .long) (ty := .long) 105 0 0 rfl na_long rfl (fun _ _ h => h) (Or.inr ⟨rfl, rfl⟩) (by decide) dX11_init_97 rfl rfl (by decide) rfl (by decide) (by decide) ?_
  refine j_putF (pc := 99) f_X11_52 dX11_init_99 rfl rfl rfl rfl rfl (by decide) ?_
  refine j_aload_n (pc := 102) dX11_init_102 rfl ?_
  refine j_lconst0 (pc := 103) dX11_init_103 ?_
  refine j_putL_b (pc := 104) f_X11_56 dX11_init_104 rfl rfl rfl (by decide) ?_
  refine j_aload_n (pc := 107) dX11_init_107 rfl ?_
  refine j_lconst1 (pc := 108) dX11_init_108 ?_
  refine j_putL_b (pc := 109) f_X11_60 dX11_init_109 rfl rfl rfl (by decide) ?_
  refine j_vret dX11_init_112 ⟨rfl, rfl, ?_, ?_, ?_, ?_, ?_, ?_, ?_⟩ rfl
  · have e0 : ∀ I9 : jMI, jSf (jSf I9 0 (jU (I9 0) 8 0)) 0 (jU (jSf I9 0 (jU (I9 0) 8 0) 0) 9 1) 0 = jU (jU (I9 0) 8 0) 9 1 := fun I9 => by rw [jSf_s, jSf_s]
    rw [e0]
    repeat first | rw [jSf_n (by omega)] | rw [jNw_r (by omega)] | rw [aI7 _ (by omega)] | rw [aI6 _ (by omega)] | rw [aI5 _ (by omega)] | rw [aI4 _ (by omega)] | rw [aI3 _ (by omega)] | rw [aI2 _ (by omega)] | rw [aI1 _ (by omega)]
    refine ⟨rfl, rfl, ?_, ?_, ?_⟩
    all_goals
      rw [jU_n (by omega), jU_n (by omega)]
      exact hI0 _
  · intro f hf
    refine hR_fr (aH1 f hf) (fun z hz => ?_)
    repeat first | rw [jSf_n (by omega)] | rw [jNw_r (by omega)] | rw [aI7 _ (by omega)] | rw [aI6 _ (by omega)] | rw [aI5 _ (by omega)] | rw [aI4 _ (by omega)] | rw [aI3 _ (by omega)] | rw [aI2 _ (by omega)] | rw [aI1 _ (by omega)]
  · intro j
    repeat first | rw [jSf_n (by omega)] | rw [jNw_r (by omega)] | rw [aI7 _ (by omega)] | rw [aI6 _ (by omega)] | rw [aI5 _ (by omega)] | rw [aI4 _ (by omega)] | rw [aI3 _ (by omega)] | rw [aI2 _ (by omega)] | rw [aI1 _ (by omega)]
    first | exact jNw_s | exact aZ1 j
  · intro j
    repeat first | rw [jSf_n (by omega)] | rw [jNw_r (by omega)] | rw [aI7 _ (by omega)] | rw [aI6 _ (by omega)] | rw [aI5 _ (by omega)] | rw [aI4 _ (by omega)] | rw [aI3 _ (by omega)] | rw [aI2 _ (by omega)] | rw [aI1 _ (by omega)]
    first | exact jNw_s | exact aZ1 j
  · intro j
    repeat first | rw [jSf_n (by omega)] | rw [jNw_r (by omega)] | rw [aI7 _ (by omega)] | rw [aI6 _ (by omega)] | rw [aI5 _ (by omega)] | rw [aI4 _ (by omega)] | rw [aI3 _ (by omega)] | rw [aI2 _ (by omega)] | rw [aI1 _ (by omega)]
    first | exact jNw_s | exact aZ1 j
  · intro j
    repeat first | rw [jSf_n (by omega)] | rw [jNw_r (by omega)] | rw [aI7 _ (by omega)] | rw [aI6 _ (by omega)] | rw [aI5 _ (by omega)] | rw [aI4 _ (by omega)] | rw [aI3 _ (by omega)] | rw [aI2 _ (by omega)] | rw [aI1 _ (by omega)]
    first | exact jNw_s | exact aZ1 j
  · intro k hk hk5
    have hk2 : k = 0 ∨ k = 1 ∨ k = 2 ∨ k = 3 ∨ k = 26 ∨ k = 27 ∨ k = 28 ∨ k = 29 ∨ k = 52 ∨ k = 53 ∨ k = 54 ∨ k = 78 ∨ k = 80 ∨ k = 81 ∨ k = 96 ∨ k = 100 := by
      unfold refL at hk
      simp only [List.mem_cons, List.not_mem_nil, or_false] at hk
      omega
    rcases hk2 with rfl | rfl | rfl | rfl | rfl | rfl | rfl | rfl | rfl | rfl | rfl | rfl | rfl | rfl | rfl | rfl
    · funext j
      by_cases hj : j < 8
      · rcases (show j = 0 ∨ j = 1 ∨ j = 2 ∨ j = 3 ∨ j = 4 ∨ j = 5 ∨ j = 6 ∨ j = 7 by omega) with rfl | rfl | rfl | rfl | rfl | rfl | rfl | rfl
        all_goals
          repeat first | rw [jSr_x (by omega)] | rw [jNr_n (by omega)] | rw [jSr_s] | rw [gR7 _ (by omega)] | rw [gR6 _ (by omega)] | rw [gR5 _ (by omega)] | rw [gR4 _ (by omega)] | rw [gR3 _ (by omega)] | rw [gR2 _ (by omega)] | rw [gR1 _ (by omega)]
          first | done | rfl
      · rw [show RF 0 j = none from row_d (l := jRFL.getD 0 []) (by show 8 ≤ j; omega)]
        repeat first | rw [jSr_x (by omega)] | rw [jNr_n (by omega)] | rw [jSr_s] | rw [gR7 _ (by omega)] | rw [gR6 _ (by omega)] | rw [gR5 _ (by omega)] | rw [gR4 _ (by omega)] | rw [gR3 _ (by omega)] | rw [gR2 _ (by omega)] | rw [gR1 _ (by omega)]
        first | done | exact hR0 j
    · repeat first | rw [jSr_r (by omega)] | rw [jNr_r (by omega)] | rw [aR7 _ (by omega)] | rw [aR6 _ (by omega)] | rw [aR5 _ (by omega)] | rw [aR4 _ (by omega)] | rw [aR3 _ (by omega)] | rw [aR2 _ (by omega)] | rw [aR1 _ (by omega)]
      first | exact aA1 | exact aB1 | exact aC1 | exact aA2 | exact aB2 | exact aC2 | exact aA3 | exact aB3 | exact aC3 | exact aA4 | exact aA5 | exact aB5 | exact aA6 | exact aA7
    · repeat first | rw [jSr_r (by omega)] | rw [jNr_r (by omega)] | rw [aR7 _ (by omega)] | rw [aR6 _ (by omega)] | rw [aR5 _ (by omega)] | rw [aR4 _ (by omega)] | rw [aR3 _ (by omega)] | rw [aR2 _ (by omega)] | rw [aR1 _ (by omega)]
      first | exact aA1 | exact aB1 | exact aC1 | exact aA2 | exact aB2 | exact aC2 | exact aA3 | exact aB3 | exact aC3 | exact aA4 | exact aA5 | exact aB5 | exact aA6 | exact aA7
    · repeat first | rw [jSr_r (by omega)] | rw [jNr_r (by omega)] | rw [aR7 _ (by omega)] | rw [aR6 _ (by omega)] | rw [aR5 _ (by omega)] | rw [aR4 _ (by omega)] | rw [aR3 _ (by omega)] | rw [aR2 _ (by omega)] | rw [aR1 _ (by omega)]
      first | exact aA1 | exact aB1 | exact aC1 | exact aA2 | exact aB2 | exact aC2 | exact aA3 | exact aB3 | exact aC3 | exact aA4 | exact aA5 | exact aB5 | exact aA6 | exact aA7
    · funext j
      by_cases hj : j < 2
      · rcases (show j = 0 ∨ j = 1 by omega) with rfl | rfl
        all_goals
          repeat first | rw [jSr_x (by omega)] | rw [jNr_n (by omega)] | rw [jSr_s] | rw [gR7 _ (by omega)] | rw [gR6 _ (by omega)] | rw [gR5 _ (by omega)] | rw [gR4 _ (by omega)] | rw [gR3 _ (by omega)] | rw [gR2 _ (by omega)] | rw [gR1 _ (by omega)]
          first | done | rfl
      · rw [show RF 26 j = none from row_d (l := jRFL.getD 26 []) (by show 2 ≤ j; omega)]
        repeat first | rw [jSr_x (by omega)] | rw [jNr_n (by omega)] | rw [jSr_s] | rw [gR7 _ (by omega)] | rw [gR6 _ (by omega)] | rw [gR5 _ (by omega)] | rw [gR4 _ (by omega)] | rw [gR3 _ (by omega)] | rw [gR2 _ (by omega)] | rw [gR1 _ (by omega)]
        first | done | exact jNr_s
    · repeat first | rw [jSr_r (by omega)] | rw [jNr_r (by omega)] | rw [aR7 _ (by omega)] | rw [aR6 _ (by omega)] | rw [aR5 _ (by omega)] | rw [aR4 _ (by omega)] | rw [aR3 _ (by omega)] | rw [aR2 _ (by omega)] | rw [aR1 _ (by omega)]
      first | exact aA1 | exact aB1 | exact aC1 | exact aA2 | exact aB2 | exact aC2 | exact aA3 | exact aB3 | exact aC3 | exact aA4 | exact aA5 | exact aB5 | exact aA6 | exact aA7
    · repeat first | rw [jSr_r (by omega)] | rw [jNr_r (by omega)] | rw [aR7 _ (by omega)] | rw [aR6 _ (by omega)] | rw [aR5 _ (by omega)] | rw [aR4 _ (by omega)] | rw [aR3 _ (by omega)] | rw [aR2 _ (by omega)] | rw [aR1 _ (by omega)]
      first | exact aA1 | exact aB1 | exact aC1 | exact aA2 | exact aB2 | exact aC2 | exact aA3 | exact aB3 | exact aC3 | exact aA4 | exact aA5 | exact aB5 | exact aA6 | exact aA7
    · repeat first | rw [jSr_r (by omega)] | rw [jNr_r (by omega)] | rw [aR7 _ (by omega)] | rw [aR6 _ (by omega)] | rw [aR5 _ (by omega)] | rw [aR4 _ (by omega)] | rw [aR3 _ (by omega)] | rw [aR2 _ (by omega)] | rw [aR1 _ (by omega)]
      first | exact aA1 | exact aB1 | exact aC1 | exact aA2 | exact aB2 | exact aC2 | exact aA3 | exact aB3 | exact aC3 | exact aA4 | exact aA5 | exact aB5 | exact aA6 | exact aA7
    · repeat first | rw [jSr_r (by omega)] | rw [jNr_r (by omega)] | rw [aR7 _ (by omega)] | rw [aR6 _ (by omega)] | rw [aR5 _ (by omega)] | rw [aR4 _ (by omega)] | rw [aR3 _ (by omega)] | rw [aR2 _ (by omega)] | rw [aR1 _ (by omega)]
      first | exact aA1 | exact aB1 | exact aC1 | exact aA2 | exact aB2 | exact aC2 | exact aA3 | exact aB3 | exact aC3 | exact aA4 | exact aA5 | exact aB5 | exact aA6 | exact aA7
    · repeat first | rw [jSr_r (by omega)] | rw [jNr_r (by omega)] | rw [aR7 _ (by omega)] | rw [aR6 _ (by omega)] | rw [aR5 _ (by omega)] | rw [aR4 _ (by omega)] | rw [aR3 _ (by omega)] | rw [aR2 _ (by omega)] | rw [aR1 _ (by omega)]
      first | exact aA1 | exact aB1 | exact aC1 | exact aA2 | exact aB2 | exact aC2 | exact aA3 | exact aB3 | exact aC3 | exact aA4 | exact aA5 | exact aB5 | exact aA6 | exact aA7
    · repeat first | rw [jSr_r (by omega)] | rw [jNr_r (by omega)] | rw [aR7 _ (by omega)] | rw [aR6 _ (by omega)] | rw [aR5 _ (by omega)] | rw [aR4 _ (by omega)] | rw [aR3 _ (by omega)] | rw [aR2 _ (by omega)] | rw [aR1 _ (by omega)]
      first | exact aA1 | exact aB1 | exact aC1 | exact aA2 | exact aB2 | exact aC2 | exact aA3 | exact aB3 | exact aC3 | exact aA4 | exact aA5 | exact aB5 | exact aA6 | exact aA7
    · repeat first | rw [jSr_r (by omega)] | rw [jNr_r (by omega)] | rw [aR7 _ (by omega)] | rw [aR6 _ (by omega)] | rw [aR5 _ (by omega)] | rw [aR4 _ (by omega)] | rw [aR3 _ (by omega)] | rw [aR2 _ (by omega)] | rw [aR1 _ (by omega)]
      first | exact aA1 | exact aB1 | exact aC1 | exact aA2 | exact aB2 | exact aC2 | exact aA3 | exact aB3 | exact aC3 | exact aA4 | exact aA5 | exact aB5 | exact aA6 | exact aA7
    · repeat first | rw [jSr_r (by omega)] | rw [jNr_r (by omega)] | rw [aR7 _ (by omega)] | rw [aR6 _ (by omega)] | rw [aR5 _ (by omega)] | rw [aR4 _ (by omega)] | rw [aR3 _ (by omega)] | rw [aR2 _ (by omega)] | rw [aR1 _ (by omega)]
      first | exact aA1 | exact aB1 | exact aC1 | exact aA2 | exact aB2 | exact aC2 | exact aA3 | exact aB3 | exact aC3 | exact aA4 | exact aA5 | exact aB5 | exact aA6 | exact aA7
    · repeat first | rw [jSr_r (by omega)] | rw [jNr_r (by omega)] | rw [aR7 _ (by omega)] | rw [aR6 _ (by omega)] | rw [aR5 _ (by omega)] | rw [aR4 _ (by omega)] | rw [aR3 _ (by omega)] | rw [aR2 _ (by omega)] | rw [aR1 _ (by omega)]
      first | exact aA1 | exact aB1 | exact aC1 | exact aA2 | exact aB2 | exact aC2 | exact aA3 | exact aB3 | exact aC3 | exact aA4 | exact aA5 | exact aB5 | exact aA6 | exact aA7
    · repeat first | rw [jSr_r (by omega)] | rw [jNr_r (by omega)] | rw [aR7 _ (by omega)] | rw [aR6 _ (by omega)] | rw [aR5 _ (by omega)] | rw [aR4 _ (by omega)] | rw [aR3 _ (by omega)] | rw [aR2 _ (by omega)] | rw [aR1 _ (by omega)]
      first | exact aA1 | exact aB1 | exact aC1 | exact aA2 | exact aB2 | exact aC2 | exact aA3 | exact aB3 | exact aC3 | exact aA4 | exact aA5 | exact aB5 | exact aA6 | exact aA7
    · repeat first | rw [jSr_r (by omega)] | rw [jNr_r (by omega)] | rw [aR7 _ (by omega)] | rw [aR6 _ (by omega)] | rw [aR5 _ (by omega)] | rw [aR4 _ (by omega)] | rw [aR3 _ (by omega)] | rw [aR2 _ (by omega)] | rw [aR1 _ (by omega)]
      first | exact aA1 | exact aB1 | exact aC1 | exact aA2 | exact aB2 | exact aC2 | exact aA3 | exact aB3 | exact aC3 | exact aA4 | exact aA5 | exact aB5 | exact aA6 | exact aA7
def X12Q (I : jMI) : jMI → Prop := fun I' => (∀ z, z < 105 → I' z = I z) ∧ (∃ g, I' 106 = st0 g) ∧ I' 105 16 = 0 ∧ I' 105 1 = 0 ∧ I' 105 2 = 1 ∧ I' 105 5 = 0 ∧ (∀ j, I' 107 j = 0) ∧ ∀ j, I' 120 j = 0
set_option maxHeartbeats 4000000 in
theorem i_X12 (X : jX) (I : jMI) (R : jMR) (hR0 : ∀ j, R 105 j = none) (hI0 : ∀ j, I 105 j = 0) (hR1 : ∀ k, k ∈ refL → k < 105 → R k = RF k) : CG X yX12_init cX12_init 1 none 1 18 2240 [jR 105] I R 106 (jQv (X12Q I)) := by
  refine CG.of (by decide) [some (jR 105)] rfl (Nat.le_of_ble_eq_true rfl) ?_
  refine j_aload_n (pc := 0) dX12_init_0 rfl ?_
  refine j_objI (pc := 1) k_X12_1 dX12_init_1 (by decide) (Nat.le_of_ble_eq_true rfl) ?_
  refine j_aload_n (pc := 4) dX12_init_4 rfl ?_
  refine j_bipush (pc := 5) dX12_init_5 (by decide) ?_
  refine j_newa (pc := 7) (len := 99) (t0 := 0) (at0 := .int) (ty := .int) 107 17 2141 rfl na_int rfl (fun _ _ h => h) (Or.inl ⟨rfl, rfl⟩) (by decide) dX12_init_7 rfl rfl (by decide) rfl (by decide) (by decide) ?_
  refine j_putF (pc := 9) f_X12_7 dX12_init_9 rfl rfl rfl rfl rfl (by decide) ?_
  refine j_aload_n (pc := 12) dX12_init_12 rfl ?_
  refine j_lconst1 (pc := 13) dX12_init_13 ?_
  refine j_putL_b (pc := 14) f_X12_13 dX12_init_14 rfl rfl rfl (by decide) ?_
  refine j_aload_n (pc := 17) dX12_init_17 rfl ?_
  refine j_iconst (pc := 18) dX12_init_18 ?_
  refine j_newa (pc := 19) (len := 3) (t0 := 0) (at0 := .int) (ty := .int) 108 16 2138 rfl na_int rfl (fun _ _ h => h) (Or.inl ⟨rfl, rfl⟩) (by decide) dX12_init_19 rfl rfl (by decide) rfl (by decide) (by decide) ?_
  refine j_putF (pc := 21) f_X12_17 dX12_init_21 rfl rfl rfl rfl rfl (by decide) ?_
  refine j_aload_n (pc := 24) dX12_init_24 rfl ?_
  refine j_sipush (pc := 25) dX12_init_25 (by decide) ?_
  refine j_newa (pc := 28) (len := 150) (t0 := 0) (at0 := .int) (ty := .int) 109 15 1988 rfl na_int rfl (fun _ _ h => h) (Or.inl ⟨rfl, rfl⟩) (by decide) dX12_init_28 rfl rfl (by decide) rfl (by decide) (by decide) ?_
  refine j_putF (pc := 30) f_X12_20 dX12_init_30 rfl rfl rfl rfl rfl (by decide) ?_
  refine j_aload_n (pc := 33) dX12_init_33 rfl ?_
  refine j_iconst (pc := 34) dX12_init_34 ?_
  refine j_newa (pc := 35) (len := 5) (t0 := 0) (at0 := .int) (ty := .int) 110 14 1983 rfl na_int rfl (fun _ _ h => h) (Or.inl ⟨rfl, rfl⟩) (by decide) dX12_init_35 rfl rfl (by decide) rfl (by decide) (by decide) ?_
  refine j_putF (pc := 37) f_X12_23 dX12_init_37 rfl rfl rfl rfl rfl (by decide) ?_
  refine j_aload_n (pc := 40) dX12_init_40 rfl ?_
  refine j_bipush (pc := 41) dX12_init_41 (by decide) ?_
  refine j_newa (pc := 43) (len := 8) (t0 := 0) (at0 := .int) (ty := .int) 111 13 1975 rfl na_int rfl (fun _ _ h => h) (Or.inl ⟨rfl, rfl⟩) (by decide) dX12_init_43 rfl rfl (by decide) rfl (by decide) (by decide) ?_
  refine j_putF (pc := 45) f_X12_26 dX12_init_45 rfl rfl rfl rfl rfl (by decide) ?_
  refine j_aload_n (pc := 48) dX12_init_48 rfl ?_
  refine j_bipush (pc := 49) dX12_init_49 (by decide) ?_
  refine j_newa (pc := 51) (len := 40) (t0 := 0) (at0 := .int) (ty := .int) 112 12 1935 rfl na_int rfl (fun _ _ h => h) (Or.inl ⟨rfl, rfl⟩) (by decide) dX12_init_51 rfl rfl (by decide) rfl (by decide) (by decide) ?_
  refine j_putF (pc := 53) f_X12_29 dX12_init_53 rfl rfl rfl rfl rfl (by decide) ?_
  refine j_aload_n (pc := 56) dX12_init_56 rfl ?_
  refine j_bipush (pc := 57) dX12_init_57 (by decide) ?_
  refine j_newa (pc := 59) (len := 64) (t0 := 3) (at0 := .boolean) (ty := .boolean) 113 11 1871 rfl na_boolean rfl (fun _ _ h => h) (Or.inl ⟨rfl, rfl⟩) (by decide) dX12_init_59 rfl rfl (by decide) rfl (by decide) (by decide) ?_
  refine j_putF (pc := 61) f_X12_32 dX12_init_61 rfl rfl rfl rfl rfl (by decide) ?_
  refine j_aload_n (pc := 64) dX12_init_64 rfl ?_
  refine j_sipush (pc := 65) dX12_init_65 (by decide) ?_
  refine j_newa (pc := 68) (len := 480) (t0 := 0) (at0 := .int) (ty := .int) 114 10 1391 rfl na_int rfl (fun _ _ h => h) (Or.inl ⟨rfl, rfl⟩) (by decide) dX12_init_68 rfl rfl (by decide) rfl (by decide) (by decide) ?_
  refine j_putF (pc := 70) f_X12_36 dX12_init_70 rfl rfl rfl rfl rfl (by decide) ?_
  refine j_aload_n (pc := 73) dX12_init_73 rfl ?_
  refine j_bipush (pc := 74) dX12_init_74 (by decide) ?_
  refine j_newa (pc := 76) (len := 64) (t0 := 3) (at0 := .boolean) (ty := .boolean) 115 9 1327 rfl na_boolean rfl (fun _ _ h => h) (Or.inl ⟨rfl, rfl⟩) (by decide) dX12_init_76 rfl rfl (by decide) rfl (by decide) (by decide) ?_
  refine j_putF (pc := 78) f_X12_39 dX12_init_78 rfl rfl rfl rfl rfl (by decide) ?_
  refine j_aload_n (pc := 81) dX12_init_81 rfl ?_
  refine j_bipush (pc := 82) dX12_init_82 (by decide) ?_
  refine j_newa (pc := 84) (len := 64) (t0 := 3) (at0 := .boolean) (ty := .boolean) 116 8 1263 rfl na_boolean rfl (fun _ _ h => h) (Or.inl ⟨rfl, rfl⟩) (by decide) dX12_init_84 rfl rfl (by decide) rfl (by decide) (by decide) ?_
  refine j_putF (pc := 86) f_X12_42 dX12_init_86 rfl rfl rfl rfl rfl (by decide) ?_
  refine j_aload_n (pc := 89) dX12_init_89 rfl ?_
  refine j_bipush (pc := 90) dX12_init_90 (by decide) ?_
  refine j_newa (pc := 92) (len := 104) (t0 := 1) (at0 := .long) (ty := .long) 117 7 1159 rfl na_long rfl (fun _ _ h => h) (Or.inr ⟨rfl, rfl⟩) (by decide) dX12_init_92 rfl rfl (by decide) rfl (by decide) (by decide) ?_
  refine j_putF (pc := 94) f_X12_45 dX12_init_94 rfl rfl rfl rfl rfl (by decide) ?_
  refine j_aload_n (pc := 97) dX12_init_97 rfl ?_
  refine j_bipush (pc := 98) dX12_init_98 (by decide) ?_
  refine j_newa (pc := 100) (len := 104) (t0 := 1) (at0 := .long) (ty := .long) 118 6 1055 rfl na_long rfl (fun _ _ h => h) (Or.inr ⟨rfl, rfl⟩) (by decide) dX12_init_100 rfl rfl (by decide) rfl (by decide) (by decide) ?_
  refine j_putF (pc := 102) f_X12_49 dX12_init_102 rfl rfl rfl rfl rfl (by decide) ?_
  refine j_aload_n (pc := 105) dX12_init_105 rfl ?_
  refine j_sipush (pc := 106) dX12_init_106 (by decide) ?_
  refine j_newa (pc := 109) (len := 768) (t0 := 3) (at0 := .boolean) (ty := .boolean) 119 5 287 rfl na_boolean rfl (fun _ _ h => h) (Or.inl ⟨rfl, rfl⟩) (by decide) dX12_init_109 rfl rfl (by decide) rfl (by decide) (by decide) ?_
  refine j_putF (pc := 111) f_X12_52 dX12_init_111 rfl rfl rfl rfl rfl (by decide) ?_
  refine j_aload_n (pc := 114) dX12_init_114 rfl ?_
  refine j_iconst (pc := 115) dX12_init_115 ?_
  refine j_newa (pc := 116) (len := 5) (t0 := 0) (at0 := .int) (ty := .int) 120 4 282 rfl na_int rfl (fun _ _ h => h) (Or.inl ⟨rfl, rfl⟩) (by decide) dX12_init_116 rfl rfl (by decide) rfl (by decide) (by decide) ?_
  refine j_putF (pc := 118) f_X12_55 dX12_init_118 rfl rfl rfl rfl rfl (by decide) ?_
  refine j_aload_n (pc := 121) dX12_init_121 rfl ?_
  refine j_iconst (pc := 122) dX12_init_122 ?_
  refine j_newa (pc := 123) (len := 2) (t0 := 3) (at0 := .boolean) (ty := .boolean) 121 3 280 rfl na_boolean rfl (fun _ _ h => h) (Or.inl ⟨rfl, rfl⟩) (by decide) dX12_init_123 rfl rfl (by decide) rfl (by decide) (by decide) ?_
  refine j_putF (pc := 125) f_X12_58 dX12_init_125 rfl rfl rfl rfl rfl (by decide) ?_
  refine j_aload_n (pc := 128) dX12_init_128 rfl ?_
  refine j_sipush (pc := 129) dX12_init_129 (by decide) ?_
  refine j_newa (pc := 132) (len := 198) (t0 := 0) (at0 := .int) (ty := .int) 122 2 82 rfl na_int rfl (fun _ _ h => h) (Or.inl ⟨rfl, rfl⟩) (by decide) dX12_init_132 rfl rfl (by decide) rfl (by decide) (by decide) ?_
  refine j_putF (pc := 134) f_X12_61 dX12_init_134 rfl rfl rfl rfl rfl (by decide) ?_
  refine j_aload_n (pc := 137) dX12_init_137 rfl ?_
  refine j_bipush (pc := 138) dX12_init_138 (by decide) ?_
  refine j_newa (pc := 140) (len := 80) (t0 := 0) (at0 := .int) (ty := .int) 123 1 2 rfl na_int rfl (fun _ _ h => h) (Or.inl ⟨rfl, rfl⟩) (by decide) dX12_init_140 rfl rfl (by decide) rfl (by decide) (by decide) ?_
  refine j_putF (pc := 142) f_X12_64 dX12_init_142 rfl rfl rfl rfl rfl (by decide) ?_
  refine j_aload_n (pc := 145) dX12_init_145 rfl ?_
  refine j_iconst (pc := 146) dX12_init_146 ?_
  refine j_newa (pc := 147) (len := 2) (t0 := 0) (at0 := .int) (ty := .int) 124 0 0 rfl na_int rfl (fun _ _ h => h) (Or.inl ⟨rfl, rfl⟩) (by decide) dX12_init_147 rfl rfl (by decide) rfl (by decide) (by decide) ?_
  refine j_putF (pc := 149) f_X12_67 dX12_init_149 rfl rfl rfl rfl rfl (by decide) ?_
  refine j_aload_n (pc := 152) dX12_init_152 rfl ?_
  refine j_chR (ref_rows (fun k hk => ?_)) ?_
  · by_cases hk5 : k < 105
    · rw [← hR1 k hk hk5]
      repeat first | rw [jSr_r (by omega)] | rw [jNr_r (by omega)]
    · obtain rfl : k = 105 := by
        unfold refL at hk
        simp only [List.mem_cons, List.not_mem_nil, or_false] at hk
        omega
      funext j
      by_cases hj : j < 29
      · rcases (show j = 0 ∨ j = 1 ∨ j = 2 ∨ j = 3 ∨ j = 4 ∨ j = 5 ∨ j = 6 ∨ j = 7 ∨ j = 8 ∨ j = 9 ∨ j = 10 ∨ j = 11 ∨ j = 12 ∨ j = 13 ∨ j = 14 ∨ j = 15 ∨ j = 16 ∨ j = 17 ∨ j = 18 ∨ j = 19 ∨ j = 20 ∨ j = 21 ∨ j = 22 ∨ j = 23 ∨ j = 24 ∨ j = 25 ∨ j = 26 ∨ j = 27 ∨ j = 28 by omega) with rfl | rfl | rfl | rfl | rfl | rfl | rfl | rfl | rfl | rfl | rfl | rfl | rfl | rfl | rfl | rfl | rfl | rfl | rfl | rfl | rfl | rfl | rfl | rfl | rfl | rfl | rfl | rfl | rfl
        all_goals
          repeat first | rw [jSr_x (by omega)] | rw [jNr_n (by omega)] | rw [jSr_s]
          first | done | rfl | exact hR0 _
      · rw [show RF 105 j = none from row_d (l := jRFL.getD 105 []) (by show 29 ≤ j; omega)]
        repeat first | rw [jSr_x (by omega)] | rw [jNr_n (by omega)]
        exact hR0 j
  refine j_goV (pc := 153) (j_runV k_X12_70 m_X12_anew (c_anew X _) dX12_init_153 rfl (by decide) rfl (by decide) (by decide) rfl rfl (Nat.le_of_ble_eq_true rfl)) (fun I9 h9 => ?_)
  subst h9
  refine j_retv dX12_init_156 ⟨?_, ?_, ?_, ?_, ?_, ?_, ?_, ?_⟩ rfl
  · intro z hz
    unfold mAnew
    repeat first | rw [jSf_n (by omega)] | rw [jNw_r (by omega)]
  · unfold mAnew
    rw [jSf_n (by omega), jSf_s]
    exact ⟨_, rfl⟩
  · unfold mAnew
    rw [jSf_s, jU_s]
  · unfold mAnew
    rw [jSf_s, jU_n (by omega)]
    repeat first | rw [jNw_r (by omega)] | rw [jSf_s]
    rw [jU_n (by omega)]
    repeat rw [jNw_r (by omega)]
    exact hI0 _
  · unfold mAnew
    rw [jSf_s, jU_n (by omega)]
    repeat first | rw [jNw_r (by omega)] | rw [jSf_s]
    rw [jU_s]
  · unfold mAnew
    rw [jSf_s, jU_n (by omega)]
    repeat first | rw [jNw_r (by omega)] | rw [jSf_s]
    rw [jU_n (by omega)]
    repeat rw [jNw_r (by omega)]
    exact hI0 _
  · intro j
    unfold mAnew
    repeat first | rw [jSf_n (by omega)] | rw [jNw_r (by omega)]
    exact jNw_s
  · intro j
    unfold mAnew
    repeat first | rw [jSf_n (by omega)] | rw [jNw_r (by omega)]
    exact jNw_s
