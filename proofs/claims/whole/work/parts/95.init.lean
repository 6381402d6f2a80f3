/-! ===== the constructors ===== -/
theorem nz_X11 : Cond.initialized (jnm 11) ∈ lw_good := List.mem_of_getElem? (i := 65) (by decide +kernel)
theorem nz_X4 : Cond.initialized (jnm 4) ∈ lw_good := List.mem_of_getElem? (i := 66) (by decide +kernel)
theorem nz_X2 : Cond.initialized (jnm 2) ∈ lw_good := List.mem_of_getElem? (i := 67) (by decide +kernel)
theorem nz_X7 : Cond.initialized (jnm 7) ∈ lw_good := List.mem_of_getElem? (i := 68) (by decide +kernel)
theorem nz_X3 : Cond.initialized (jnm 3) ∈ lw_good := List.mem_of_getElem? (i := 69) (by decide +kernel)
theorem nz_X5 : Cond.initialized (jnm 5) ∈ lw_good := List.mem_of_getElem? (i := 70) (by decide +kernel)
theorem nz_X0 : Cond.initialized (jnm 0) ∈ lw_good := List.mem_of_getElem? (i := 71) (by decide +kernel)
theorem nz_X6 : Cond.initialized (jnm 6) ∈ lw_good := List.mem_of_getElem? (i := 72) (by decide +kernel)
theorem nz_X10 : Cond.initialized (jnm 10) ∈ lw_good := List.mem_of_getElem? (i := 73) (by decide +kernel)
theorem nz_X8 : Cond.initialized (jnm 8) ∈ lw_good := List.mem_of_getElem? (i := 75) (by decide +kernel)
theorem nz_X1 : Cond.initialized (jnm 1) ∈ lw_good := List.mem_of_getElem? (i := 76) (by decide +kernel)
theorem nz_X9 : Cond.initialized (jnm 9) ∈ lw_good := List.mem_of_getElem? (i := 77) (by decide +kernel)
theorem nz_X12 : Cond.initialized (jnm 12) ∈ lw_good := List.mem_of_getElem? (i := 78) (by decide +kernel)
theorem nc_L_7 : Cond.classLink RL 7 (jnm 11) ∈ lw_good := List.mem_of_getElem? (i := 85) (by decide +kernel)
theorem ni_X11 : Cond.instantiable (jnm 11) (jnF 11) ∈ lw_good := List.mem_of_getElem? (i := 86) (by decide +kernel)
theorem nc_X11_7 : Cond.classLink RX11 7 (jnm 4) ∈ lw_good := List.mem_of_getElem? (i := 93) (by decide +kernel)
theorem ni_X4 : Cond.instantiable (jnm 4) (jnF 4) ∈ lw_good := List.mem_of_getElem? (i := 94) (by decide +kernel)
theorem nc_X4_9 : Cond.classLink RX4 9 (jnm 2) ∈ lw_good := List.mem_of_getElem? (i := 99) (by decide +kernel)
theorem ni_X2 : Cond.instantiable (jnm 2) (jnF 2) ∈ lw_good := List.mem_of_getElem? (i := 100) (by decide +kernel)
theorem nc_X2_9 : Cond.classLink RX2 9 (jnm 7) ∈ lw_good := List.mem_of_getElem? (i := 105) (by decide +kernel)
theorem no_X7 : Cond.arrayOver (.object RX7) ∈ lw_good := List.mem_of_getElem? (i := 106) (by decide +kernel)
theorem ni_X7 : Cond.instantiable (jnm 7) (jnF 7) ∈ lw_good := List.mem_of_getElem? (i := 107) (by decide +kernel)
theorem nc_X2_12 : Cond.classLink RX2 12 (jnm 3) ∈ lw_good := List.mem_of_getElem? (i := 113) (by decide +kernel)
theorem ni_X3 : Cond.instantiable (jnm 3) (jnF 3) ∈ lw_good := List.mem_of_getElem? (i := 114) (by decide +kernel)
theorem nc_X2_15 : Cond.classLink RX2 15 (jnm 5) ∈ lw_good := List.mem_of_getElem? (i := 120) (by decide +kernel)
theorem ni_X5 : Cond.instantiable (jnm 5) (jnF 5) ∈ lw_good := List.mem_of_getElem? (i := 121) (by decide +kernel)
theorem nc_X2_18 : Cond.classLink RX2 18 (jnm 0) ∈ lw_good := List.mem_of_getElem? (i := 127) (by decide +kernel)
theorem ni_X0 : Cond.instantiable (jnm 0) (jnF 0) ∈ lw_good := List.mem_of_getElem? (i := 128) (by decide +kernel)
theorem nc_X2_21 : Cond.classLink RX2 21 (jnm 6) ∈ lw_good := List.mem_of_getElem? (i := 134) (by decide +kernel)
theorem ni_X6 : Cond.instantiable (jnm 6) (jnF 6) ∈ lw_good := List.mem_of_getElem? (i := 135) (by decide +kernel)
theorem nc_X2_24 : Cond.classLink RX2 24 (jnm 10) ∈ lw_good := List.mem_of_getElem? (i := 141) (by decide +kernel)
theorem ni_X10 : Cond.instantiable (jnm 10) (jnF 10) ∈ lw_good := List.mem_of_getElem? (i := 142) (by decide +kernel)
theorem na_int : Cond.arrayClass .int ∈ lw_good := List.mem_of_getElem? (i := 215) (by decide +kernel)
theorem no_X4 : Cond.arrayOver (.object RX4) ∈ lw_good := List.mem_of_getElem? (i := 263) (by decide +kernel)
theorem nc_X11_24 : Cond.classLink RX11 24 (jnm 8) ∈ lw_good := List.mem_of_getElem? (i := 264) (by decide +kernel)
theorem ni_X8 : Cond.instantiable (jnm 8) (jnF 8) ∈ lw_good := List.mem_of_getElem? (i := 265) (by decide +kernel)
theorem na_boolean : Cond.arrayClass .boolean ∈ lw_good := List.mem_of_getElem? (i := 287) (by decide +kernel)
theorem na_byte : Cond.arrayClass .byte ∈ lw_good := List.mem_of_getElem? (i := 288) (by decide +kernel)
theorem nc_X11_31 : Cond.classLink RX11 31 (jnm 2) ∈ lw_good := List.mem_of_getElem? (i := 289) (by decide +kernel)
theorem nc_X11_38 : Cond.classLink RX11 38 (jnm 1) ∈ lw_good := List.mem_of_getElem? (i := 291) (by decide +kernel)
theorem ni_X1 : Cond.instantiable (jnm 1) (jnF 1) ∈ lw_good := List.mem_of_getElem? (i := 292) (by decide +kernel)
theorem nc_X11_45 : Cond.classLink RX11 45 (jnm 9) ∈ lw_good := List.mem_of_getElem? (i := 307) (by decide +kernel)
theorem ni_X9 : Cond.instantiable (jnm 9) (jnF 9) ∈ lw_good := List.mem_of_getElem? (i := 308) (by decide +kernel)
theorem na_long : Cond.arrayClass .long ∈ lw_good := List.mem_of_getElem? (i := 323) (by decide +kernel)
theorem nc_L_10 : Cond.classLink RL 10 (jnm 12) ∈ lw_good := List.mem_of_getElem? (i := 894) (by decide +kernel)
theorem ni_X12 : Cond.instantiable (jnm 12) (jnF 12) ∈ lw_good := List.mem_of_getElem? (i := 895) (by decide +kernel)
theorem nt_X3 : Cond.castable (jnm 3) RX7 ∈ lw_good := List.mem_of_getElem? (i := 1316) (by decide +kernel)
theorem nt_X5 : Cond.castable (jnm 5) RX7 ∈ lw_good := List.mem_of_getElem? (i := 1317) (by decide +kernel)
theorem nt_X0 : Cond.castable (jnm 0) RX7 ∈ lw_good := List.mem_of_getElem? (i := 1318) (by decide +kernel)
theorem nt_X6 : Cond.castable (jnm 6) RX7 ∈ lw_good := List.mem_of_getElem? (i := 1319) (by decide +kernel)
theorem nt_X10 : Cond.castable (jnm 10) RX7 ∈ lw_good := List.mem_of_getElem? (i := 1320) (by decide +kernel)
def kQ (I : jMI) (R : jMR) (n : Nat) : Option jV → jMI → jMR → Nat → Prop := fun v I' R' n' => v = none ∧ I' = I ∧ R' = R ∧ n' = n
theorem i_X7_init (X : jX) (I : jMI) (R : jMR) (n k : Nat) : CG X yX7_init cX7_init 1 none 1 0 0 [jR k] I R n (kQ I R n) := by
  refine CG.of (by decide) [some (jR k)] rfl (Nat.le_of_ble_eq_true rfl) ?_
  refine j_aload_n (pc := 0) dX7_init_0 rfl ?_
  refine j_objI (pc := 1) k_X7_1 dX7_init_1 (by decide) (Nat.le_of_ble_eq_true rfl) ?_
  exact j_vret dX7_init_4 ⟨rfl, rfl, rfl, rfl⟩ rfl
theorem i_X3_init (X : jX) (I : jMI) (R : jMR) (n k : Nat) : CG X yX3_init cX3_init 1 none 2 0 0 [jR k] I R n (kQ I R n) := by
  refine CG.of (by decide) [some (jR k)] rfl (Nat.le_of_ble_eq_true rfl) ?_
  refine j_aload_n (pc := 0) dX3_init_0 rfl ?_
  refine j_goQ 0 0 (j_runIN k_X3_1 m_X7_init (i_X7_init X I R n k) dX3_init_1 (by decide) rfl rfl (Nat.le_of_ble_eq_true rfl)) rfl rfl (fun v I1 R1 n1 h1 => ?_)
  obtain ⟨rfl, rfl, rfl, rfl⟩ := h1
  exact j_vret dX3_init_4 ⟨rfl, rfl, rfl, rfl⟩ rfl
theorem i_X5_init (X : jX) (I : jMI) (R : jMR) (n k : Nat) : CG X yX5_init cX5_init 1 none 2 0 0 [jR k] I R n (kQ I R n) := by
  refine CG.of (by decide) [some (jR k)] rfl (Nat.le_of_ble_eq_true rfl) ?_
  refine j_aload_n (pc := 0) dX5_init_0 rfl ?_
  refine j_goQ 0 0 (j_runIN k_X5_1 m_X7_init (i_X7_init X I R n k) dX5_init_1 (by decide) rfl rfl (Nat.le_of_ble_eq_true rfl)) rfl rfl (fun v I1 R1 n1 h1 => ?_)
  obtain ⟨rfl, rfl, rfl, rfl⟩ := h1
  exact j_vret dX5_init_4 ⟨rfl, rfl, rfl, rfl⟩ rfl
theorem i_X0_init (X : jX) (I : jMI) (R : jMR) (n k : Nat) : CG X yX0_init cX0_init 1 none 3 0 0 [jR k] I R n (kQ I R n) := by
  refine CG.of (by decide) [some (jR k)] rfl (Nat.le_of_ble_eq_true rfl) ?_
  refine j_aload_n (pc := 0) dX0_init_0 rfl ?_
  refine j_goQ 0 0 (j_runIN k_X0_1 m_X3_init (i_X3_init X I R n k) dX0_init_1 (by decide) rfl rfl (Nat.le_of_ble_eq_true rfl)) rfl rfl (fun v I1 R1 n1 h1 => ?_)
  obtain ⟨rfl, rfl, rfl, rfl⟩ := h1
  exact j_vret dX0_init_4 ⟨rfl, rfl, rfl, rfl⟩ rfl
theorem i_X6_init (X : jX) (I : jMI) (R : jMR) (n k : Nat) : CG X yX6_init cX6_init 1 none 3 0 0 [jR k] I R n (kQ I R n) := by
  refine CG.of (by decide) [some (jR k)] rfl (Nat.le_of_ble_eq_true rfl) ?_
  refine j_aload_n (pc := 0) dX6_init_0 rfl ?_
  refine j_goQ 0 0 (j_runIN k_X6_1 m_X3_init (i_X3_init X I R n k) dX6_init_1 (by decide) rfl rfl (Nat.le_of_ble_eq_true rfl)) rfl rfl (fun v I1 R1 n1 h1 => ?_)
  obtain ⟨rfl, rfl, rfl, rfl⟩ := h1
  exact j_vret dX6_init_4 ⟨rfl, rfl, rfl, rfl⟩ rfl
theorem i_X10_init (X : jX) (I : jMI) (R : jMR) (n k : Nat) : CG X yX10_init cX10_init 1 none 3 0 0 [jR k] I R n (kQ I R n) := by
  refine CG.of (by decide) [some (jR k)] rfl (Nat.le_of_ble_eq_true rfl) ?_
  refine j_aload_n (pc := 0) dX10_init_0 rfl ?_
  refine j_goQ 0 0 (j_runIN k_X10_1 m_X5_init (i_X5_init X I R n k) dX10_init_1 (by decide) rfl rfl (Nat.le_of_ble_eq_true rfl)) rfl rfl (fun v I1 R1 n1 h1 => ?_)
  obtain ⟨rfl, rfl, rfl, rfl⟩ := h1
  exact j_vret dX10_init_4 ⟨rfl, rfl, rfl, rfl⟩ rfl
/-- a cell's row, where the reference slots are known -/
theorem row_d {l : List (Option Nat)} {j : Nat} (h : l.length ≤ j) : l.getD j none = none := by
  rw [List.getD_eq_getElem?_getD, List.getElem?_eq_none h]; rfl
def X2Q (R : jMR) (I : jMI) (H : Nat) : Option jV → jMI → jMR → Nat → Prop := fun v I' R' n' => v = none ∧ n' = H + 16 ∧ (∀ z, z < H → I' z = I z) ∧ (∀ f, isE f → hR f I' H) ∧ (∀ k, k < H → R' k = R k) ∧ R' H = RF H ∧ R' (H + 1) = RF (H + 1)
set_option maxHeartbeats 2000000 in
theorem i_X2_2 (X : jX) (I : jMI) (R : jMR) (hR0 : ∀ j, R 2 j = none) : CG X yX2_init cX2_init 1 none 4 15 179 [jR 2] I R 3 (X2Q R I 2) := by
  refine CG.of (by decide) [some (jR 2)] rfl (Nat.le_of_ble_eq_true rfl) ?_
  refine j_aload_n (pc := 0) dX2_init_0 rfl ?_
  refine j_objI (pc := 1) k_X2_3 dX2_init_1 (by decide) (Nat.le_of_ble_eq_true rfl) ?_
  refine j_aload_n (pc := 4) dX2_init_4 rfl ?_
  refine j_bipush (pc := 5) dX2_init_5 (by decide) ?_
  refine j_newq (pc := 7) (E := RX7) (len := 6) (t0 := 4) 4 14 173 nc_X2_9 no_X7 rfl dX2_init_7 rfl rfl (by decide) rfl (by decide) (by decide) ?_
  refine j_dupR (pc := 10) dX2_init_10 ?_
  refine j_iconst (pc := 11) dX2_init_11 ?_
  refine j_newc (pc := 12) (ci := 7) 5 13 173 nc_X2_9 ni_X7 nz_X7 (by decide) dX2_init_12 rfl rfl (by decide) (by decide) ?_
  refine j_dupR (pc := 15) dX2_init_15 ?_
  refine j_goQ 13 173 (j_runIN k_X2_11 m_X7_init (i_X7_init X _ _ 5 4) dX2_init_16 (by decide) rfl rfl (Nat.le_of_ble_eq_true rfl)) rfl rfl (fun v I1 R1 n1 h1 => ?_)
  obtain ⟨rfl, rfl, rfl, rfl⟩ := h1
  refine j_aast (pc := 19) (ci := 7) (t0 := 4) 0 rfl dX2_init_19 rfl (by decide) rfl (by decide) (by decide) (Or.inl rfl) rfl (by decide) (by decide) ?_
  refine j_dupR (pc := 20) dX2_init_20 ?_
  refine j_iconst (pc := 21) dX2_init_21 ?_
  refine j_newc (pc := 22) (ci := 3) 6 12 173 nc_X2_12 ni_X3 nz_X3 (by decide) dX2_init_22 rfl rfl (by decide) (by decide) ?_
  refine j_dupR (pc := 25) dX2_init_25 ?_
  refine j_goQ 12 173 (j_runIN k_X2_14 m_X3_init (i_X3_init X _ _ 6 5) dX2_init_26 (by decide) rfl rfl (Nat.le_of_ble_eq_true rfl)) rfl rfl (fun v I1 R1 n1 h1 => ?_)
  obtain ⟨rfl, rfl, rfl, rfl⟩ := h1
  refine j_aast (pc := 29) (ci := 3) (t0 := 4) 1 rfl dX2_init_29 rfl (by decide) rfl (by decide) (by decide) (Or.inr nt_X3) rfl (by decide) (by decide) ?_
  refine j_dupR (pc := 30) dX2_init_30 ?_
  refine j_iconst (pc := 31) dX2_init_31 ?_
  refine j_newc (pc := 32) (ci := 5) 7 11 173 nc_X2_15 ni_X5 nz_X5 (by decide) dX2_init_32 rfl rfl (by decide) (by decide) ?_
  refine j_dupR (pc := 35) dX2_init_35 ?_
  refine j_goQ 11 173 (j_runIN k_X2_17 m_X5_init (i_X5_init X _ _ 7 6) dX2_init_36 (by decide) rfl rfl (Nat.le_of_ble_eq_true rfl)) rfl rfl (fun v I1 R1 n1 h1 => ?_)
  obtain ⟨rfl, rfl, rfl, rfl⟩ := h1
  refine j_aast (pc := 39) (ci := 5) (t0 := 4) 2 rfl dX2_init_39 rfl (by decide) rfl (by decide) (by decide) (Or.inr nt_X5) rfl (by decide) (by decide) ?_
  refine j_dupR (pc := 40) dX2_init_40 ?_
  refine j_iconst (pc := 41) dX2_init_41 ?_
  refine j_newc (pc := 42) (ci := 0) 8 10 173 nc_X2_18 ni_X0 nz_X0 (by decide) dX2_init_42 rfl rfl (by decide) (by decide) ?_
  refine j_dupR (pc := 45) dX2_init_45 ?_
  refine j_goQ 10 173 (j_runIN k_X2_20 m_X0_init (i_X0_init X _ _ 8 7) dX2_init_46 (by decide) rfl rfl (Nat.le_of_ble_eq_true rfl)) rfl rfl (fun v I1 R1 n1 h1 => ?_)
  obtain ⟨rfl, rfl, rfl, rfl⟩ := h1
  refine j_aast (pc := 49) (ci := 0) (t0 := 4) 3 rfl dX2_init_49 rfl (by decide) rfl (by decide) (by decide) (Or.inr nt_X0) rfl (by decide) (by decide) ?_
  refine j_dupR (pc := 50) dX2_init_50 ?_
  refine j_iconst (pc := 51) dX2_init_51 ?_
  refine j_newc (pc := 52) (ci := 6) 9 9 173 nc_X2_21 ni_X6 nz_X6 (by decide) dX2_init_52 rfl rfl (by decide) (by decide) ?_
  refine j_dupR (pc := 55) dX2_init_55 ?_
  refine j_goQ 9 173 (j_runIN k_X2_23 m_X6_init (i_X6_init X _ _ 9 8) dX2_init_56 (by decide) rfl rfl (Nat.le_of_ble_eq_true rfl)) rfl rfl (fun v I1 R1 n1 h1 => ?_)
  obtain ⟨rfl, rfl, rfl, rfl⟩ := h1
  refine j_aast (pc := 59) (ci := 6) (t0 := 4) 4 rfl dX2_init_59 rfl (by decide) rfl (by decide) (by decide) (Or.inr nt_X6) rfl (by decide) (by decide) ?_
  refine j_dupR (pc := 60) dX2_init_60 ?_
  refine j_iconst (pc := 61) dX2_init_61 ?_
  refine j_newc (pc := 62) (ci := 10) 10 8 173 nc_X2_24 ni_X10 nz_X10 (by decide) dX2_init_62 rfl rfl (by decide) (by decide) ?_
  refine j_dupR (pc := 65) dX2_init_65 ?_
  refine j_goQ 8 173 (j_runIN k_X2_26 m_X10_init (i_X10_init X _ _ 10 9) dX2_init_66 (by decide) rfl rfl (Nat.le_of_ble_eq_true rfl)) rfl rfl (fun v I1 R1 n1 h1 => ?_)
  obtain ⟨rfl, rfl, rfl, rfl⟩ := h1
  refine j_aast (pc := 69) (ci := 10) (t0 := 4) 5 rfl dX2_init_69 rfl (by decide) rfl (by decide) (by decide) (Or.inr nt_X10) rfl (by decide) (by decide) ?_
  refine j_putF (pc := 70) f_X2_27 dX2_init_70 rfl rfl rfl rfl rfl (by decide) ?_
  refine j_aload_n (pc := 73) dX2_init_73 rfl ?_
  refine j_bipush (pc := 74) dX2_init_74 (by decide) ?_
  refine j_newa (pc := 76) (len := 64) (t0 := 0) (at0 := .int) (ty := .int) 11 7 109 rfl na_int rfl (fun _ _ h => h) (Or.inl ⟨rfl, rfl⟩) (by decide) dX2_init_76 rfl rfl (by decide) rfl (by decide) (by decide) ?_
  refine j_putF (pc := 78) f_X2_33 dX2_init_78 rfl rfl rfl rfl rfl (by decide) ?_
  refine j_aload_n (pc := 81) dX2_init_81 rfl ?_
  refine j_bipush (pc := 82) dX2_init_82 (by decide) ?_
  refine j_newa (pc := 84) (len := 64) (t0 := 0) (at0 := .int) (ty := .int) 12 6 45 rfl na_int rfl (fun _ _ h => h) (Or.inl ⟨rfl, rfl⟩) (by decide) dX2_init_84 rfl rfl (by decide) rfl (by decide) (by decide) ?_
  refine j_putF (pc := 86) f_X2_37 dX2_init_86 rfl rfl rfl rfl rfl (by decide) ?_
  refine j_aload_n (pc := 89) dX2_init_89 rfl ?_
  refine j_iconst (pc := 90) dX2_init_90 ?_
  refine j_newa (pc := 91) (len := 5) (t0 := 0) (at0 := .int) (ty := .int) 13 5 40 rfl na_int rfl (fun _ _ h => h) (Or.inl ⟨rfl, rfl⟩) (by decide) dX2_init_91 rfl rfl (by decide) rfl (by decide) (by decide) ?_
  refine j_putF (pc := 93) f_X2_40 dX2_init_93 rfl rfl rfl rfl rfl (by decide) ?_
  refine j_aload_n (pc := 96) dX2_init_96 rfl ?_
  refine j_iconst (pc := 97) dX2_init_97 ?_
  refine j_newa (pc := 98) (len := 5) (t0 := 0) (at0 := .int) (ty := .int) 14 4 35 rfl na_int rfl (fun _ _ h => h) (Or.inl ⟨rfl, rfl⟩) (by decide) dX2_init_98 rfl rfl (by decide) rfl (by decide) (by decide) ?_
  refine j_putF (pc := 100) f_X2_43 dX2_init_100 rfl rfl rfl rfl rfl (by decide) ?_
  refine j_aload_n (pc := 103) dX2_init_103 rfl ?_
  refine j_iconst (pc := 104) dX2_init_104 ?_
  refine j_newa (pc := 105) (len := 5) (t0 := 0) (at0 := .int) (ty := .int) 15 3 30 rfl na_int rfl (fun _ _ h => h) (Or.inl ⟨rfl, rfl⟩) (by decide) dX2_init_105 rfl rfl (by decide) rfl (by decide) (by decide) ?_
  refine j_putF (pc := 107) f_X2_46 dX2_init_107 rfl rfl rfl rfl rfl (by decide) ?_
  refine j_aload_n (pc := 110) dX2_init_110 rfl ?_
  refine j_iconst (pc := 111) dX2_init_111 ?_
  refine j_newa (pc := 112) (len := 5) (t0 := 0) (at0 := .int) (ty := .int) 16 2 25 rfl na_int rfl (fun _ _ h => h) (Or.inl ⟨rfl, rfl⟩) (by decide) dX2_init_112 rfl rfl (by decide) rfl (by decide) (by decide) ?_
  refine j_putF (pc := 114) f_X2_49 dX2_init_114 rfl rfl rfl rfl rfl (by decide) ?_
  refine j_aload_n (pc := 117) dX2_init_117 rfl ?_
  refine j_iconst (pc := 118) dX2_init_118 ?_
  refine j_newa (pc := 119) (len := 5) (t0 := 0) (at0 := .int) (ty := .int) 17 1 20 rfl na_int rfl (fun _ _ h => h) (Or.inl ⟨rfl, rfl⟩) (by decide) dX2_init_119 rfl rfl (by decide) rfl (by decide) (by decide) ?_
  refine j_putF (pc := 121) f_X2_52 dX2_init_121 rfl rfl rfl rfl rfl (by decide) ?_
  refine j_aload_n (pc := 124) dX2_init_124 rfl ?_
  refine j_bipush (pc := 125) dX2_init_125 (by decide) ?_
  refine j_newa (pc := 127) (len := 20) (t0 := 0) (at0 := .int) (ty := .int) 18 0 0 rfl na_int rfl (fun _ _ h => h) (Or.inl ⟨rfl, rfl⟩) (by decide) dX2_init_127 rfl rfl (by decide) rfl (by decide) (by decide) ?_
  refine j_putF (pc := 129) f_X2_55 dX2_init_129 rfl rfl rfl rfl rfl (by decide) ?_
  refine j_aload_n (pc := 132) dX2_init_132 rfl ?_
  have hrow : ∀ (R9 : jMR), R9 2 = RF 2 → R9 3 = RF 3 → (∀ k, k < 2 → R9 k = R k) → ∀ (I9 : jMI), (∀ z, z < 2 → I9 z = I z) → J X RX2 "<init>" cX2_init 1 none 4 0 0 133 [some (jR 2)] [jR 2] I9 R9 18 (X2Q R I 2) := by
    intro R9 h1 h2 h3 I9 h4
    refine j_goQ 0 0 (j_runV k_X2_58 m_X2_empty (g_empty2 X R9 18 I9 h1 (by decide)) dX2_init_133 rfl (by decide) rfl (by decide) (by decide) rfl rfl (Nat.le_of_ble_eq_true rfl)) rfl rfl (fun v I8 R8 n8 h8 => ?_)
    obtain ⟨rfl, hE, rfl, rfl⟩ := h8
    exact j_vret dX2_init_136 ⟨rfl, rfl, fun z hz => (hE.1 z (by omega) (by omega) (by omega)).trans (h4 z hz), hE.2.2, h3, h1, h2⟩ rfl
  refine hrow _ ?_ ?_ ?_ _ ?_
  · funext j
    by_cases hj : j < 9
    · rcases (show j = 0 ∨ j = 1 ∨ j = 2 ∨ j = 3 ∨ j = 4 ∨ j = 5 ∨ j = 6 ∨ j = 7 ∨ j = 8 by omega) with rfl | rfl | rfl | rfl | rfl | rfl | rfl | rfl | rfl
      all_goals rfl
    · have e1 : RF 2 j = none := by
        by_cases hj2 : j < 11
        · rcases (show j = 9 ∨ j = 10 by omega) with rfl | rfl
          all_goals rfl
        · exact row_d (l := jRFL.getD 2 []) (by show 11 ≤ j; omega)
      rw [e1]
      repeat first | rw [jSr_x (by omega)] | rw [jNr_n (by omega)]
      exact hR0 j
  · funext j
    by_cases hj : j < 6
    · rcases (show j = 0 ∨ j = 1 ∨ j = 2 ∨ j = 3 ∨ j = 4 ∨ j = 5 by omega) with rfl | rfl | rfl | rfl | rfl | rfl
      all_goals rfl
    · have e1 : RF 3 j = none := by
        by_cases hj2 : j < 6
        · omega
        · exact row_d (l := jRFL.getD 3 []) (by show 6 ≤ j; omega)
      rw [e1]
      repeat first | rw [jSr_x (by omega)] | rw [jNr_n (by omega)]
      exact jNr_s
  · intro k hk
    repeat first | rw [jSr_r (by omega)] | rw [jNr_r (by omega)]
  · intro z hz
    repeat rw [jNw_r (by omega)]
set_option maxHeartbeats 2000000 in
theorem i_X2_28 (X : jX) (I : jMI) (R : jMR) (hR0 : ∀ j, R 28 j = none) : CG X yX2_init cX2_init 1 none 4 15 179 [jR 28] I R 29 (X2Q R I 28) := by
  refine CG.of (by decide) [some (jR 28)] rfl (Nat.le_of_ble_eq_true rfl) ?_
  refine j_aload_n (pc := 0) dX2_init_0 rfl ?_
  refine j_objI (pc := 1) k_X2_3 dX2_init_1 (by decide) (Nat.le_of_ble_eq_true rfl) ?_
  refine j_aload_n (pc := 4) dX2_init_4 rfl ?_
  refine j_bipush (pc := 5) dX2_init_5 (by decide) ?_
  refine j_newq (pc := 7) (E := RX7) (len := 6) (t0 := 4) 30 14 173 nc_X2_9 no_X7 rfl dX2_init_7 rfl rfl (by decide) rfl (by decide) (by decide) ?_
  refine j_dupR (pc := 10) dX2_init_10 ?_
  refine j_iconst (pc := 11) dX2_init_11 ?_
  refine j_newc (pc := 12) (ci := 7) 31 13 173 nc_X2_9 ni_X7 nz_X7 (by decide) dX2_init_12 rfl rfl (by decide) (by decide) ?_
  refine j_dupR (pc := 15) dX2_init_15 ?_
  refine j_goQ 13 173 (j_runIN k_X2_11 m_X7_init (i_X7_init X _ _ 31 30) dX2_init_16 (by decide) rfl rfl (Nat.le_of_ble_eq_true rfl)) rfl rfl (fun v I1 R1 n1 h1 => ?_)
  obtain ⟨rfl, rfl, rfl, rfl⟩ := h1
  refine j_aast (pc := 19) (ci := 7) (t0 := 4) 0 rfl dX2_init_19 rfl (by decide) rfl (by decide) (by decide) (Or.inl rfl) rfl (by decide) (by decide) ?_
  refine j_dupR (pc := 20) dX2_init_20 ?_
  refine j_iconst (pc := 21) dX2_init_21 ?_
  refine j_newc (pc := 22) (ci := 3) 32 12 173 nc_X2_12 ni_X3 nz_X3 (by decide) dX2_init_22 rfl rfl (by decide) (by decide) ?_
  refine j_dupR (pc := 25) dX2_init_25 ?_
  refine j_goQ 12 173 (j_runIN k_X2_14 m_X3_init (i_X3_init X _ _ 32 31) dX2_init_26 (by decide) rfl rfl (Nat.le_of_ble_eq_true rfl)) rfl rfl (fun v I1 R1 n1 h1 => ?_)
  obtain ⟨rfl, rfl, rfl, rfl⟩ := h1
  refine j_aast (pc := 29) (ci := 3) (t0 := 4) 1 rfl dX2_init_29 rfl (by decide) rfl (by decide) (by decide) (Or.inr nt_X3) rfl (by decide) (by decide) ?_
  refine j_dupR (pc := 30) dX2_init_30 ?_
  refine j_iconst (pc := 31) dX2_init_31 ?_
  refine j_newc (pc := 32) (ci := 5) 33 11 173 nc_X2_15 ni_X5 nz_X5 (by decide) dX2_init_32 rfl rfl (by decide) (by decide) ?_
  refine j_dupR (pc := 35) dX2_init_35 ?_
  refine j_goQ 11 173 (j_runIN k_X2_17 m_X5_init (i_X5_init X _ _ 33 32) dX2_init_36 (by decide) rfl rfl (Nat.le_of_ble_eq_true rfl)) rfl rfl (fun v I1 R1 n1 h1 => ?_)
  obtain ⟨rfl, rfl, rfl, rfl⟩ := h1
  refine j_aast (pc := 39) (ci := 5) (t0 := 4) 2 rfl dX2_init_39 rfl (by decide) rfl (by decide) (by decide) (Or.inr nt_X5) rfl (by decide) (by decide) ?_
  refine j_dupR (pc := 40) dX2_init_40 ?_
  refine j_iconst (pc := 41) dX2_init_41 ?_
  refine j_newc (pc := 42) (ci := 0) 34 10 173 nc_X2_18 ni_X0 nz_X0 (by decide) dX2_init_42 rfl rfl (by decide) (by decide) ?_
  refine j_dupR (pc := 45) dX2_init_45 ?_
  refine j_goQ 10 173 (j_runIN k_X2_20 m_X0_init (i_X0_init X _ _ 34 33) dX2_init_46 (by decide) rfl rfl (Nat.le_of_ble_eq_true rfl)) rfl rfl (fun v I1 R1 n1 h1 => ?_)
  obtain ⟨rfl, rfl, rfl, rfl⟩ := h1
  refine j_aast (pc := 49) (ci := 0) (t0 := 4) 3 rfl dX2_init_49 rfl (by decide) rfl (by decide) (by decide) (Or.inr nt_X0) rfl (by decide) (by decide) ?_
  refine j_dupR (pc := 50) dX2_init_50 ?_
  refine j_iconst (pc := 51) dX2_init_51 ?_
  refine j_newc (pc := 52) (ci := 6) 35 9 173 nc_X2_21 ni_X6 nz_X6 (by decide) dX2_init_52 rfl rfl (by decide) (by decide) ?_
  refine j_dupR (pc := 55) dX2_init_55 ?_
  refine j_goQ 9 173 (j_runIN k_X2_23 m_X6_init (i_X6_init X _ _ 35 34) dX2_init_56 (by decide) rfl rfl (Nat.le_of_ble_eq_true rfl)) rfl rfl (fun v I1 R1 n1 h1 => ?_)
  obtain ⟨rfl, rfl, rfl, rfl⟩ := h1
  refine j_aast (pc := 59) (ci := 6) (t0 := 4) 4 rfl dX2_init_59 rfl (by decide) rfl (by decide) (by decide) (Or.inr nt_X6) rfl (by decide) (by decide) ?_
  refine j_dupR (pc := 60) dX2_init_60 ?_
  refine j_iconst (pc := 61) dX2_init_61 ?_
  refine j_newc (pc := 62) (ci := 10) 36 8 173 nc_X2_24 ni_X10 nz_X10 (by decide) dX2_init_62 rfl rfl (by decide) (by decide) ?_
  refine j_dupR (pc := 65) dX2_init_65 ?_
  refine j_goQ 8 173 (j_runIN k_X2_26 m_X10_init (i_X10_init X _ _ 36 35) dX2_init_66 (by decide) rfl rfl (Nat.le_of_ble_eq_true rfl)) rfl rfl (fun v I1 R1 n1 h1 => ?_)
  obtain ⟨rfl, rfl, rfl, rfl⟩ := h1
  refine j_aast (pc := 69) (ci := 10) (t0 := 4) 5 rfl dX2_init_69 rfl (by decide) rfl (by decide) (by decide) (Or.inr nt_X10) rfl (by decide) (by decide) ?_
  refine j_putF (pc := 70) f_X2_27 dX2_init_70 rfl rfl rfl rfl rfl (by decide) ?_
  refine j_aload_n (pc := 73) dX2_init_73 rfl ?_
  refine j_bipush (pc := 74) dX2_init_74 (by decide) ?_
  refine j_newa (pc := 76) (len := 64) (t0 := 0) (at0 := .int) (ty := .int) 37 7 109 rfl na_int rfl (fun _ _ h => h) (Or.inl ⟨rfl, rfl⟩) (by decide) dX2_init_76 rfl rfl (by decide) rfl (by decide) (by decide) ?_
  refine j_putF (pc := 78) f_X2_33 dX2_init_78 rfl rfl rfl rfl rfl (by decide) ?_
  refine j_aload_n (pc := 81) dX2_init_81 rfl ?_
  refine j_bipush (pc := 82) dX2_init_82 (by decide) ?_
  refine j_newa (pc := 84) (len := 64) (t0 := 0) (at0 := .int) (ty := .int) 38 6 45 rfl na_int rfl (fun _ _ h => h) (Or.inl ⟨rfl, rfl⟩) (by decide) dX2_init_84 rfl rfl (by decide) rfl (by decide) (by decide) ?_
  refine j_putF (pc := 86) f_X2_37 dX2_init_86 rfl rfl rfl rfl rfl (by decide) ?_
  refine j_aload_n (pc := 89) dX2_init_89 rfl ?_
  refine j_iconst (pc := 90) dX2_init_90 ?_
  refine j_newa (pc := 91) (len := 5) (t0 := 0) (at0 := .int) (ty := .int) 39 5 40 rfl na_int rfl (fun _ _ h => h) (Or.inl ⟨rfl, rfl⟩) (by decide) dX2_init_91 rfl rfl (by decide) rfl (by decide) (by decide) ?_
  refine j_putF (pc := 93) f_X2_40 dX2_init_93 rfl rfl rfl rfl rfl (by decide) ?_
  refine j_aload_n (pc := 96) dX2_init_96 rfl ?_
  refine j_iconst (pc := 97) dX2_init_97 ?_
  refine j_newa (pc := 98) (len := 5) (t0 := 0) (at0 := .int) (ty := .int) 40 4 35 rfl na_int rfl (fun _ _ h => h) (Or.inl ⟨rfl, rfl⟩) (by decide) dX2_init_98 rfl rfl (by decide) rfl (by decide) (by decide) ?_
  refine j_putF (pc := 100) f_X2_43 dX2_init_100 rfl rfl rfl rfl rfl (by decide) ?_
  refine j_aload_n (pc := 103) dX2_init_103 rfl ?_
  refine j_iconst (pc := 104) dX2_init_104 ?_
  refine j_newa (pc := 105) (len := 5) (t0 := 0) (at0 := .int) (ty := .int) 41 3 30 rfl na_int rfl (fun _ _ h => h) (Or.inl ⟨rfl, rfl⟩) (by decide) dX2_init_105 rfl rfl (by decide) rfl (by decide) (by decide) ?_
  refine j_putF (pc := 107) f_X2_46 dX2_init_107 rfl rfl rfl rfl rfl (by decide) ?_
  refine j_aload_n (pc := 110) dX2_init_110 rfl ?_
  refine j_iconst (pc := 111) dX2_init_111 ?_
  refine j_newa (pc := 112) (len := 5) (t0 := 0) (at0 := .int) (ty := .int) 42 2 25 rfl na_int rfl (fun _ _ h => h) (Or.inl ⟨rfl, rfl⟩) (by decide) dX2_init_112 rfl rfl (by decide) rfl (by decide) (by decide) ?_
  refine j_putF (pc := 114) f_X2_49 dX2_init_114 rfl rfl rfl rfl rfl (by decide) ?_
  refine j_aload_n (pc := 117) dX2_init_117 rfl ?_
  refine j_iconst (pc := 118) dX2_init_118 ?_
  refine j_newa (pc := 119) (len := 5) (t0 := 0) (at0 := .int) (ty := .int) 43 1 20 rfl na_int rfl (fun _ _ h => h) (Or.inl ⟨rfl, rfl⟩) (by decide) dX2_init_119 rfl rfl (by decide) rfl (by decide) (by decide) ?_
  refine j_putF (pc := 121) f_X2_52 dX2_init_121 rfl rfl rfl rfl rfl (by decide) ?_
  refine j_aload_n (pc := 124) dX2_init_124 rfl ?_
  refine j_bipush (pc := 125) dX2_init_125 (by decide) ?_
  refine j_newa (pc := 127) (len := 20) (t0 := 0) (at0 := .int) (ty := .int) 44 0 0 rfl na_int rfl (fun _ _ h => h) (Or.inl ⟨rfl, rfl⟩) (by decide) dX2_init_127 rfl rfl (by decide) rfl (by decide) (by decide) ?_
  refine j_putF (pc := 129) f_X2_55 dX2_init_129 rfl rfl rfl rfl rfl (by decide) ?_
  refine j_aload_n (pc := 132) dX2_init_132 rfl ?_
  have hrow : ∀ (R9 : jMR), R9 28 = RF 28 → R9 29 = RF 29 → (∀ k, k < 28 → R9 k = R k) → ∀ (I9 : jMI), (∀ z, z < 28 → I9 z = I z) → J X RX2 "<init>" cX2_init 1 none 4 0 0 133 [some (jR 28)] [jR 28] I9 R9 44 (X2Q R I 28) := by
    intro R9 h1 h2 h3 I9 h4
    refine j_goQ 0 0 (j_runV k_X2_58 m_X2_empty (g_empty28 X R9 44 I9 h1 (by decide)) dX2_init_133 rfl (by decide) rfl (by decide) (by decide) rfl rfl (Nat.le_of_ble_eq_true rfl)) rfl rfl (fun v I8 R8 n8 h8 => ?_)
    obtain ⟨rfl, hE, rfl, rfl⟩ := h8
    exact j_vret dX2_init_136 ⟨rfl, rfl, fun z hz => (hE.1 z (by omega) (by omega) (by omega)).trans (h4 z hz), hE.2.2, h3, h1, h2⟩ rfl
  refine hrow _ ?_ ?_ ?_ _ ?_
  · funext j
    by_cases hj : j < 9
    · rcases (show j = 0 ∨ j = 1 ∨ j = 2 ∨ j = 3 ∨ j = 4 ∨ j = 5 ∨ j = 6 ∨ j = 7 ∨ j = 8 by omega) with rfl | rfl | rfl | rfl | rfl | rfl | rfl | rfl | rfl
      all_goals rfl
    · have e1 : RF 28 j = none := by
        by_cases hj2 : j < 11
        · rcases (show j = 9 ∨ j = 10 by omega) with rfl | rfl
          all_goals rfl
        · exact row_d (l := jRFL.getD 28 []) (by show 11 ≤ j; omega)
      rw [e1]
      repeat first | rw [jSr_x (by omega)] | rw [jNr_n (by omega)]
      exact hR0 j
  · funext j
    by_cases hj : j < 6
    · rcases (show j = 0 ∨ j = 1 ∨ j = 2 ∨ j = 3 ∨ j = 4 ∨ j = 5 by omega) with rfl | rfl | rfl | rfl | rfl | rfl
      all_goals rfl
    · have e1 : RF 29 j = none := by
        by_cases hj2 : j < 6
        · omega
        · exact row_d (l := jRFL.getD 29 []) (by show 6 ≤ j; omega)
      rw [e1]
      repeat first | rw [jSr_x (by omega)] | rw [jNr_n (by omega)]
      exact jNr_s
  · intro k hk
    repeat first | rw [jSr_r (by omega)] | rw [jNr_r (by omega)]
  · intro z hz
    repeat rw [jNw_r (by omega)]
set_option maxHeartbeats 2000000 in
theorem i_X2_53 (X : jX) (I : jMI) (R : jMR) (hR0 : ∀ j, R 53 j = none) : CG X yX2_init cX2_init 1 none 4 15 179 [jR 53] I R 54 (X2Q R I 53) := by
  refine CG.of (by decide) [some (jR 53)] rfl (Nat.le_of_ble_eq_true rfl) ?_
  refine j_aload_n (pc := 0) dX2_init_0 rfl ?_
  refine j_objI (pc := 1) k_X2_3 dX2_init_1 (by decide) (Nat.le_of_ble_eq_true rfl) ?_
  refine j_aload_n (pc := 4) dX2_init_4 rfl ?_
  refine j_bipush (pc := 5) dX2_init_5 (by decide) ?_
  refine j_newq (pc := 7) (E := RX7) (len := 6) (t0 := 4) 55 14 173 nc_X2_9 no_X7 rfl dX2_init_7 rfl rfl (by decide) rfl (by decide) (by decide) ?_
  refine j_dupR (pc := 10) dX2_init_10 ?_
  refine j_iconst (pc := 11) dX2_init_11 ?_
  refine j_newc (pc := 12) (ci := 7) 56 13 173 nc_X2_9 ni_X7 nz_X7 (by decide) dX2_init_12 rfl rfl (by decide) (by decide) ?_
  refine j_dupR (pc := 15) dX2_init_15 ?_
  refine j_goQ 13 173 (j_runIN k_X2_11 m_X7_init (i_X7_init X _ _ 56 55) dX2_init_16 (by decide) rfl rfl (Nat.le_of_ble_eq_true rfl)) rfl rfl (fun v I1 R1 n1 h1 => ?_)
  obtain ⟨rfl, rfl, rfl, rfl⟩ := h1
  refine j_aast (pc := 19) (ci := 7) (t0 := 4) 0 rfl dX2_init_19 rfl (by decide) rfl (by decide) (by decide) (Or.inl rfl) rfl (by decide) (by decide) ?_
  refine j_dupR (pc := 20) dX2_init_20 ?_
  refine j_iconst (pc := 21) dX2_init_21 ?_
  refine j_newc (pc := 22) (ci := 3) 57 12 173 nc_X2_12 ni_X3 nz_X3 (by decide) dX2_init_22 rfl rfl (by decide) (by decide) ?_
  refine j_dupR (pc := 25) dX2_init_25 ?_
  refine j_goQ 12 173 (j_runIN k_X2_14 m_X3_init (i_X3_init X _ _ 57 56) dX2_init_26 (by decide) rfl rfl (Nat.le_of_ble_eq_true rfl)) rfl rfl (fun v I1 R1 n1 h1 => ?_)
  obtain ⟨rfl, rfl, rfl, rfl⟩ := h1
  refine j_aast (pc := 29) (ci := 3) (t0 := 4) 1 rfl dX2_init_29 rfl (by decide) rfl (by decide) (by decide) (Or.inr nt_X3) rfl (by decide) (by decide) ?_
  refine j_dupR (pc := 30) dX2_init_30 ?_
  refine j_iconst (pc := 31) dX2_init_31 ?_
  refine j_newc (pc := 32) (ci := 5) 58 11 173 nc_X2_15 ni_X5 nz_X5 (by decide) dX2_init_32 rfl rfl (by decide) (by decide) ?_
  refine j_dupR (pc := 35) dX2_init_35 ?_
  refine j_goQ 11 173 (j_runIN k_X2_17 m_X5_init (i_X5_init X _ _ 58 57) dX2_init_36 (by decide) rfl rfl (Nat.le_of_ble_eq_true rfl)) rfl rfl (fun v I1 R1 n1 h1 => ?_)
  obtain ⟨rfl, rfl, rfl, rfl⟩ := h1
  refine j_aast (pc := 39) (ci := 5) (t0 := 4) 2 rfl dX2_init_39 rfl (by decide) rfl (by decide) (by decide) (Or.inr nt_X5) rfl (by decide) (by decide) ?_
  refine j_dupR (pc := 40) dX2_init_40 ?_
  refine j_iconst (pc := 41) dX2_init_41 ?_
  refine j_newc (pc := 42) (ci := 0) 59 10 173 nc_X2_18 ni_X0 nz_X0 (by decide) dX2_init_42 rfl rfl (by decide) (by decide) ?_
  refine j_dupR (pc := 45) dX2_init_45 ?_
  refine j_goQ 10 173 (j_runIN k_X2_20 m_X0_init (i_X0_init X _ _ 59 58) dX2_init_46 (by decide) rfl rfl (Nat.le_of_ble_eq_true rfl)) rfl rfl (fun v I1 R1 n1 h1 => ?_)
  obtain ⟨rfl, rfl, rfl, rfl⟩ := h1
  refine j_aast (pc := 49) (ci := 0) (t0 := 4) 3 rfl dX2_init_49 rfl (by decide) rfl (by decide) (by decide) (Or.inr nt_X0) rfl (by decide) (by decide) ?_
  refine j_dupR (pc := 50) dX2_init_50 ?_
  refine j_iconst (pc := 51) dX2_init_51 ?_
  refine j_newc (pc := 52) (ci := 6) 60 9 173 nc_X2_21 ni_X6 nz_X6 (by decide) dX2_init_52 rfl rfl (by decide) (by decide) ?_
  refine j_dupR (pc := 55) dX2_init_55 ?_
  refine j_goQ 9 173 (j_runIN k_X2_23 m_X6_init (i_X6_init X _ _ 60 59) dX2_init_56 (by decide) rfl rfl (Nat.le_of_ble_eq_true rfl)) rfl rfl (fun v I1 R1 n1 h1 => ?_)
  obtain ⟨rfl, rfl, rfl, rfl⟩ := h1
  refine j_aast (pc := 59) (ci := 6) (t0 := 4) 4 rfl dX2_init_59 rfl (by decide) rfl (by decide) (by decide) (Or.inr nt_X6) rfl (by decide) (by decide) ?_
  refine j_dupR (pc := 60) dX2_init_60 ?_
  refine j_iconst (pc := 61) dX2_init_61 ?_
  refine j_newc (pc := 62) (ci := 10) 61 8 173 nc_X2_24 ni_X10 nz_X10 (by decide) dX2_init_62 rfl rfl (by decide) (by decide) ?_
  refine j_dupR (pc := 65) dX2_init_65 ?_
  refine j_goQ 8 173 (j_runIN k_X2_26 m_X10_init (i_X10_init X _ _ 61 60) dX2_init_66 (by decide) rfl rfl (Nat.le_of_ble_eq_true rfl)) rfl rfl (fun v I1 R1 n1 h1 => ?_)
  obtain ⟨rfl, rfl, rfl, rfl⟩ := h1
  refine j_aast (pc := 69) (ci := 10) (t0 := 4) 5 rfl dX2_init_69 rfl (by decide) rfl (by decide) (by decide) (Or.inr nt_X10) rfl (by decide) (by decide) ?_
  refine j_putF (pc := 70) f_X2_27 dX2_init_70 rfl rfl rfl rfl rfl (by decide) ?_
  refine j_aload_n (pc := 73) dX2_init_73 rfl ?_
  refine j_bipush (pc := 74) dX2_init_74 (by decide) ?_
  refine j_newa (pc := 76) (len := 64) (t0 := 0) (at0 := .int) (ty := .int) 62 7 109 rfl na_int rfl (fun _ _ h => h) (Or.inl ⟨rfl, rfl⟩) (by decide) dX2_init_76 rfl rfl (by decide) rfl (by decide) (by decide) ?_
  refine j_putF (pc := 78) f_X2_33 dX2_init_78 rfl rfl rfl rfl rfl (by decide) ?_
  refine j_aload_n (pc := 81) dX2_init_81 rfl ?_
  refine j_bipush (pc := 82) dX2_init_82 (by decide) ?_
  refine j_newa (pc := 84) (len := 64) (t0 := 0) (at0 := .int) (ty := .int) 63 6 45 rfl na_int rfl (fun _ _ h => h) (Or.inl ⟨rfl, rfl⟩) (by decide) dX2_init_84 rfl rfl (by decide) rfl (by decide) (by decide) ?_
  refine j_putF (pc := 86) f_X2_37 dX2_init_86 rfl rfl rfl rfl rfl (by decide) ?_
  refine j_aload_n (pc := 89) dX2_init_89 rfl ?_
  refine j_iconst (pc := 90) dX2_init_90 ?_
  refine j_newa (pc := 91) (len := 5) (t0 := 0) (at0 := .int) (ty := .int) 64 5 40 rfl na_int rfl (fun _ _ h => h) (Or.inl ⟨rfl, rfl⟩) (by decide) dX2_init_91 rfl rfl (by decide) rfl (by decide) (by decide) ?_
  refine j_putF (pc := 93) f_X2_40 dX2_init_93 rfl rfl rfl rfl rfl (by decide) ?_
  refine j_aload_n (pc := 96) dX2_init_96 rfl ?_
  refine j_iconst (pc := 97) dX2_init_97 ?_
  refine j_newa (pc := 98) (len := 5) (t0 := 0) (at0 := .int) (ty := .int) 65 4 35 rfl na_int rfl (fun _ _ h => h) (Or.inl ⟨rfl, rfl⟩) (by decide) dX2_init_98 rfl rfl (by decide) rfl (by decide) (by decide) ?_
  refine j_putF (pc := 100) f_X2_43 dX2_init_100 rfl rfl rfl rfl rfl (by decide) ?_
  refine j_aload_n (pc := 103) dX2_init_103 rfl ?_
  refine j_iconst (pc := 104) dX2_init_104 ?_
  refine j_newa (pc := 105) (len := 5) (t0 := 0) (at0 := .int) (ty := .int) 66 3 30 rfl na_int rfl (fun _ _ h => h) (Or.inl ⟨rfl, rfl⟩) (by decide) dX2_init_105 rfl rfl (by decide) rfl (by decide) (by decide) ?_
  refine j_putF (pc := 107) f_X2_46 dX2_init_107 rfl rfl rfl rfl rfl (by decide) ?_
  refine j_aload_n (pc := 110) dX2_init_110 rfl ?_
  refine j_iconst (pc := 111) dX2_init_111 ?_
  refine j_newa (pc := 112) (len := 5) (t0 := 0) (at0 := .int) (ty := .int) 67 2 25 rfl na_int rfl (fun _ _ h => h) (Or.inl ⟨rfl, rfl⟩) (by decide) dX2_init_112 rfl rfl (by decide) rfl (by decide) (by decide) ?_
  refine j_putF (pc := 114) f_X2_49 dX2_init_114 rfl rfl rfl rfl rfl (by decide) ?_
  refine j_aload_n (pc := 117) dX2_init_117 rfl ?_
  refine j_iconst (pc := 118) dX2_init_118 ?_
  refine j_newa (pc := 119) (len := 5) (t0 := 0) (at0 := .int) (ty := .int) 68 1 20 rfl na_int rfl (fun _ _ h => h) (Or.inl ⟨rfl, rfl⟩) (by decide) dX2_init_119 rfl rfl (by decide) rfl (by decide) (by decide) ?_
  refine j_putF (pc := 121) f_X2_52 dX2_init_121 rfl rfl rfl rfl rfl (by decide) ?_
  refine j_aload_n (pc := 124) dX2_init_124 rfl ?_
  refine j_bipush (pc := 125) dX2_init_125 (by decide) ?_
  refine j_newa (pc := 127) (len := 20) (t0 := 0) (at0 := .int) (ty := .int) 69 0 0 rfl na_int rfl (fun _ _ h => h) (Or.inl ⟨rfl, rfl⟩) (by decide) dX2_init_127 rfl rfl (by decide) rfl (by decide) (by decide) ?_
  refine j_putF (pc := 129) f_X2_55 dX2_init_129 rfl rfl rfl rfl rfl (by decide) ?_
  refine j_aload_n (pc := 132) dX2_init_132 rfl ?_
  have hrow : ∀ (R9 : jMR), R9 53 = RF 53 → R9 54 = RF 54 → (∀ k, k < 53 → R9 k = R k) → ∀ (I9 : jMI), (∀ z, z < 53 → I9 z = I z) → J X RX2 "<init>" cX2_init 1 none 4 0 0 133 [some (jR 53)] [jR 53] I9 R9 69 (X2Q R I 53) := by
    intro R9 h1 h2 h3 I9 h4
    refine j_goQ 0 0 (j_runV k_X2_58 m_X2_empty (g_empty53 X R9 69 I9 h1 (by decide)) dX2_init_133 rfl (by decide) rfl (by decide) (by decide) rfl rfl (Nat.le_of_ble_eq_true rfl)) rfl rfl (fun v I8 R8 n8 h8 => ?_)
    obtain ⟨rfl, hE, rfl, rfl⟩ := h8
    exact j_vret dX2_init_136 ⟨rfl, rfl, fun z hz => (hE.1 z (by omega) (by omega) (by omega)).trans (h4 z hz), hE.2.2, h3, h1, h2⟩ rfl
  refine hrow _ ?_ ?_ ?_ _ ?_
  · funext j
    by_cases hj : j < 9
    · rcases (show j = 0 ∨ j = 1 ∨ j = 2 ∨ j = 3 ∨ j = 4 ∨ j = 5 ∨ j = 6 ∨ j = 7 ∨ j = 8 by omega) with rfl | rfl | rfl | rfl | rfl | rfl | rfl | rfl | rfl
      all_goals rfl
    · have e1 : RF 53 j = none := by
        by_cases hj2 : j < 11
        · rcases (show j = 9 ∨ j = 10 by omega) with rfl | rfl
          all_goals rfl
        · exact row_d (l := jRFL.getD 53 []) (by show 11 ≤ j; omega)
      rw [e1]
      repeat first | rw [jSr_x (by omega)] | rw [jNr_n (by omega)]
      exact hR0 j
  · funext j
    by_cases hj : j < 6
    · rcases (show j = 0 ∨ j = 1 ∨ j = 2 ∨ j = 3 ∨ j = 4 ∨ j = 5 by omega) with rfl | rfl | rfl | rfl | rfl | rfl
      all_goals rfl
    · have e1 : RF 54 j = none := by
        by_cases hj2 : j < 6
        · omega
        · exact row_d (l := jRFL.getD 54 []) (by show 6 ≤ j; omega)
      rw [e1]
      repeat first | rw [jSr_x (by omega)] | rw [jNr_n (by omega)]
      exact jNr_s
  · intro k hk
    repeat first | rw [jSr_r (by omega)] | rw [jNr_r (by omega)]
  · intro z hz
    repeat rw [jNw_r (by omega)]
set_option maxHeartbeats 2000000 in
theorem i_X2_80 (X : jX) (I : jMI) (R : jMR) (hR0 : ∀ j, R 80 j = none) : CG X yX2_init cX2_init 1 none 4 15 179 [jR 80] I R 81 (X2Q R I 80) := by
  refine CG.of (by decide) [some (jR 80)] rfl (Nat.le_of_ble_eq_true rfl) ?_
  refine j_aload_n (pc := 0) dX2_init_0 rfl ?_
  refine j_objI (pc := 1) k_X2_3 dX2_init_1 (by decide) (Nat.le_of_ble_eq_true rfl) ?_
  refine j_aload_n (pc := 4) dX2_init_4 rfl ?_
  refine j_bipush (pc := 5) dX2_init_5 (by decide) ?_
  refine j_newq (pc := 7) (E := RX7) (len := 6) (t0 := 4) 82 14 173 nc_X2_9 no_X7 rfl dX2_init_7 rfl rfl (by decide) rfl (by decide) (by decide) ?_
  refine j_dupR (pc := 10) dX2_init_10 ?_
  refine j_iconst (pc := 11) dX2_init_11 ?_
  refine j_newc (pc := 12) (ci := 7) 83 13 173 nc_X2_9 ni_X7 nz_X7 (by decide) dX2_init_12 rfl rfl (by decide) (by decide) ?_
  refine j_dupR (pc := 15) dX2_init_15 ?_
  refine j_goQ 13 173 (j_runIN k_X2_11 m_X7_init (i_X7_init X _ _ 83 82) dX2_init_16 (by decide) rfl rfl (Nat.le_of_ble_eq_true rfl)) rfl rfl (fun v I1 R1 n1 h1 => ?_)
  obtain ⟨rfl, rfl, rfl, rfl⟩ := h1
  refine j_aast (pc := 19) (ci := 7) (t0 := 4) 0 rfl dX2_init_19 rfl (by decide) rfl (by decide) (by decide) (Or.inl rfl) rfl (by decide) (by decide) ?_
  refine j_dupR (pc := 20) dX2_init_20 ?_
  refine j_iconst (pc := 21) dX2_init_21 ?_
  refine j_newc (pc := 22) (ci := 3) 84 12 173 nc_X2_12 ni_X3 nz_X3 (by decide) dX2_init_22 rfl rfl (by decide) (by decide) ?_
  refine j_dupR (pc := 25) dX2_init_25 ?_
  refine j_goQ 12 173 (j_runIN k_X2_14 m_X3_init (i_X3_init X _ _ 84 83) dX2_init_26 (by decide) rfl rfl (Nat.le_of_ble_eq_true rfl)) rfl rfl (fun v I1 R1 n1 h1 => ?_)
  obtain ⟨rfl, rfl, rfl, rfl⟩ := h1
  refine j_aast (pc := 29) (ci := 3) (t0 := 4) 1 rfl dX2_init_29 rfl (by decide) rfl (by decide) (by decide) (Or.inr nt_X3) rfl (by decide) (by decide) ?_
  refine j_dupR (pc := 30) dX2_init_30 ?_
  refine j_iconst (pc := 31) dX2_init_31 ?_
  refine j_newc (pc := 32) (ci := 5) 85 11 173 nc_X2_15 ni_X5 nz_X5 (by decide) dX2_init_32 rfl rfl (by decide) (by decide) ?_
  refine j_dupR (pc := 35) dX2_init_35 ?_
  refine j_goQ 11 173 (j_runIN k_X2_17 m_X5_init (i_X5_init X _ _ 85 84) dX2_init_36 (by decide) rfl rfl (Nat.le_of_ble_eq_true rfl)) rfl rfl (fun v I1 R1 n1 h1 => ?_)
  obtain ⟨rfl, rfl, rfl, rfl⟩ := h1
  refine j_aast (pc := 39) (ci := 5) (t0 := 4) 2 rfl dX2_init_39 rfl (by decide) rfl (by decide) (by decide) (Or.inr nt_X5) rfl (by decide) (by decide) ?_
  refine j_dupR (pc := 40) dX2_init_40 ?_
  refine j_iconst (pc := 41) dX2_init_41 ?_
  refine j_newc (pc := 42) (ci := 0) 86 10 173 nc_X2_18 ni_X0 nz_X0 (by decide) dX2_init_42 rfl rfl (by decide) (by decide) ?_
  refine j_dupR (pc := 45) dX2_init_45 ?_
  refine j_goQ 10 173 (j_runIN k_X2_20 m_X0_init (i_X0_init X _ _ 86 85) dX2_init_46 (by decide) rfl rfl (Nat.le_of_ble_eq_true rfl)) rfl rfl (fun v I1 R1 n1 h1 => ?_)
  obtain ⟨rfl, rfl, rfl, rfl⟩ := h1
  refine j_aast (pc := 49) (ci := 0) (t0 := 4) 3 rfl dX2_init_49 rfl (by decide) rfl (by decide) (by decide) (Or.inr nt_X0) rfl (by decide) (by decide) ?_
  refine j_dupR (pc := 50) dX2_init_50 ?_
  refine j_iconst (pc := 51) dX2_init_51 ?_
  refine j_newc (pc := 52) (ci := 6) 87 9 173 nc_X2_21 ni_X6 nz_X6 (by decide) dX2_init_52 rfl rfl (by decide) (by decide) ?_
  refine j_dupR (pc := 55) dX2_init_55 ?_
  refine j_goQ 9 173 (j_runIN k_X2_23 m_X6_init (i_X6_init X _ _ 87 86) dX2_init_56 (by decide) rfl rfl (Nat.le_of_ble_eq_true rfl)) rfl rfl (fun v I1 R1 n1 h1 => ?_)
  obtain ⟨rfl, rfl, rfl, rfl⟩ := h1
  refine j_aast (pc := 59) (ci := 6) (t0 := 4) 4 rfl dX2_init_59 rfl (by decide) rfl (by decide) (by decide) (Or.inr nt_X6) rfl (by decide) (by decide) ?_
  refine j_dupR (pc := 60) dX2_init_60 ?_
  refine j_iconst (pc := 61) dX2_init_61 ?_
  refine j_newc (pc := 62) (ci := 10) 88 8 173 nc_X2_24 ni_X10 nz_X10 (by decide) dX2_init_62 rfl rfl (by decide) (by decide) ?_
  refine j_dupR (pc := 65) dX2_init_65 ?_
  refine j_goQ 8 173 (j_runIN k_X2_26 m_X10_init (i_X10_init X _ _ 88 87) dX2_init_66 (by decide) rfl rfl (Nat.le_of_ble_eq_true rfl)) rfl rfl (fun v I1 R1 n1 h1 => ?_)
  obtain ⟨rfl, rfl, rfl, rfl⟩ := h1
  refine j_aast (pc := 69) (ci := 10) (t0 := 4) 5 rfl dX2_init_69 rfl (by decide) rfl (by decide) (by decide) (Or.inr nt_X10) rfl (by decide) (by decide) ?_
  refine j_putF (pc := 70) f_X2_27 dX2_init_70 rfl rfl rfl rfl rfl (by decide) ?_
  refine j_aload_n (pc := 73) dX2_init_73 rfl ?_
  refine j_bipush (pc := 74) dX2_init_74 (by decide) ?_
  refine j_newa (pc := 76) (len := 64) (t0 := 0) (at0 := .int) (ty := .int) 89 7 109 rfl na_int rfl (fun _ _ h => h) (Or.inl ⟨rfl, rfl⟩) (by decide) dX2_init_76 rfl rfl (by decide) rfl (by decide) (by decide) ?_
  refine j_putF (pc := 78) f_X2_33 dX2_init_78 rfl rfl rfl rfl rfl (by decide) ?_
  refine j_aload_n (pc := 81) dX2_init_81 rfl ?_
  refine j_bipush (pc := 82) dX2_init_82 (by decide) ?_
  refine j_newa (pc := 84) (len := 64) (t0 := 0) (at0 := .int) (ty := .int) 90 6 45 rfl na_int rfl (fun _ _ h => h) (Or.inl ⟨rfl, rfl⟩) (by decide) dX2_init_84 rfl rfl (by decide) rfl (by decide) (by decide) ?_
  refine j_putF (pc := 86) f_X2_37 dX2_init_86 rfl rfl rfl rfl rfl (by decide) ?_
  refine j_aload_n (pc := 89) dX2_init_89 rfl ?_
  refine j_iconst (pc := 90) dX2_init_90 ?_
  refine j_newa (pc := 91) (len := 5) (t0 := 0) (at0 := .int) (ty := .int) 91 5 40 rfl na_int rfl (fun _ _ h => h) (Or.inl ⟨rfl, rfl⟩) (by decide) dX2_init_91 rfl rfl (by decide) rfl (by decide) (by decide) ?_
  refine j_putF (pc := 93) f_X2_40 dX2_init_93 rfl rfl rfl rfl rfl (by decide) ?_
  refine j_aload_n (pc := 96) dX2_init_96 rfl ?_
  refine j_iconst (pc := 97) dX2_init_97 ?_
  refine j_newa (pc := 98) (len := 5) (t0 := 0) (at0 := .int) (ty := .int) 92 4 35 rfl na_int rfl (fun _ _ h => h) (Or.inl ⟨rfl, rfl⟩) (by decide) dX2_init_98 rfl rfl (by decide) rfl (by decide) (by decide) ?_
  refine j_putF (pc := 100) f_X2_43 dX2_init_100 rfl rfl rfl rfl rfl (by decide) ?_
  refine j_aload_n (pc := 103) dX2_init_103 rfl ?_
  refine j_iconst (pc := 104) dX2_init_104 ?_
  refine j_newa (pc := 105) (len := 5) (t0 := 0) (at0 := .int) (ty := .int) 93 3 30 rfl na_int rfl (fun _ _ h => h) (Or.inl ⟨rfl, rfl⟩) (by decide) dX2_init_105 rfl rfl (by decide) rfl (by decide) (by decide) ?_
  refine j_putF (pc := 107) f_X2_46 dX2_init_107 rfl rfl rfl rfl rfl (by decide) ?_
  refine j_aload_n (pc := 110) dX2_init_110 rfl ?_
  refine j_iconst (pc := 111) dX2_init_111 ?_
  refine j_newa (pc := 112) (len := 5) (t0 := 0) (at0 := .int) (ty := .int) 94 2 25 rfl na_int rfl (fun _ _ h => h) (Or.inl ⟨rfl, rfl⟩) (by decide) dX2_init_112 rfl rfl (by decide) rfl (by decide) (by decide) ?_
  refine j_putF (pc := 114) f_X2_49 dX2_init_114 rfl rfl rfl rfl rfl (by decide) ?_
  refine j_aload_n (pc := 117) dX2_init_117 rfl ?_
  refine j_iconst (pc := 118) dX2_init_118 ?_
  refine j_newa (pc := 119) (len := 5) (t0 := 0) (at0 := .int) (ty := .int) 95 1 20 rfl na_int rfl (fun _ _ h => h) (Or.inl ⟨rfl, rfl⟩) (by decide) dX2_init_119 rfl rfl (by decide) rfl (by decide) (by decide) ?_
  refine j_putF (pc := 121) f_X2_52 dX2_init_121 rfl rfl rfl rfl rfl (by decide) ?_
  refine j_aload_n (pc := 124) dX2_init_124 rfl ?_
  refine j_bipush (pc := 125) dX2_init_125 (by decide) ?_
  refine j_newa (pc := 127) (len := 20) (t0 := 0) (at0 := .int) (ty := .int) 96 0 0 rfl na_int rfl (fun _ _ h => h) (Or.inl ⟨rfl, rfl⟩) (by decide) dX2_init_127 rfl rfl (by decide) rfl (by decide) (by decide) ?_
  refine j_putF (pc := 129) f_X2_55 dX2_init_129 rfl rfl rfl rfl rfl (by decide) ?_
  refine j_aload_n (pc := 132) dX2_init_132 rfl ?_
  have hrow : ∀ (R9 : jMR), R9 80 = RF 80 → R9 81 = RF 81 → (∀ k, k < 80 → R9 k = R k) → ∀ (I9 : jMI), (∀ z, z < 80 → I9 z = I z) → J X RX2 "<init>" cX2_init 1 none 4 0 0 133 [some (jR 80)] [jR 80] I9 R9 96 (X2Q R I 80) := by
    intro R9 h1 h2 h3 I9 h4
    refine j_goQ 0 0 (j_runV k_X2_58 m_X2_empty (g_empty80 X R9 96 I9 h1 (by decide)) dX2_init_133 rfl (by decide) rfl (by decide) (by decide) rfl rfl (Nat.le_of_ble_eq_true rfl)) rfl rfl (fun v I8 R8 n8 h8 => ?_)
    obtain ⟨rfl, hE, rfl, rfl⟩ := h8
    exact j_vret dX2_init_136 ⟨rfl, rfl, fun z hz => (hE.1 z (by omega) (by omega) (by omega)).trans (h4 z hz), hE.2.2, h3, h1, h2⟩ rfl
  refine hrow _ ?_ ?_ ?_ _ ?_
  · funext j
    by_cases hj : j < 9
    · rcases (show j = 0 ∨ j = 1 ∨ j = 2 ∨ j = 3 ∨ j = 4 ∨ j = 5 ∨ j = 6 ∨ j = 7 ∨ j = 8 by omega) with rfl | rfl | rfl | rfl | rfl | rfl | rfl | rfl | rfl
      all_goals rfl
    · have e1 : RF 80 j = none := by
        by_cases hj2 : j < 11
        · rcases (show j = 9 ∨ j = 10 by omega) with rfl | rfl
          all_goals rfl
        · exact row_d (l := jRFL.getD 80 []) (by show 11 ≤ j; omega)
      rw [e1]
      repeat first | rw [jSr_x (by omega)] | rw [jNr_n (by omega)]
      exact hR0 j
  · funext j
    by_cases hj : j < 6
    · rcases (show j = 0 ∨ j = 1 ∨ j = 2 ∨ j = 3 ∨ j = 4 ∨ j = 5 by omega) with rfl | rfl | rfl | rfl | rfl | rfl
      all_goals rfl
    · have e1 : RF 81 j = none := by
        by_cases hj2 : j < 6
        · omega
        · exact row_d (l := jRFL.getD 81 []) (by show 6 ≤ j; omega)
      rw [e1]
      repeat first | rw [jSr_x (by omega)] | rw [jNr_n (by omega)]
      exact jNr_s
  · intro k hk
    repeat first | rw [jSr_r (by omega)] | rw [jNr_r (by omega)]
  · intro z hz
    repeat rw [jNw_r (by omega)]
def X4Q (R : jMR) (I : jMI) (N : Nat) : Option jV → jMI → jMR → Nat → Prop := fun v I' R' n' => v = none ∧ n' = N + 25 ∧ (∀ z, z ≤ N → I' z = I z) ∧ (∀ f, isE f → hR f I' (N + 1)) ∧ (∀ j, I' (N + 17) j = 0) ∧ (∀ k, k < N → R' k = R k) ∧ R' N = RF N ∧ R' (N + 1) = RF (N + 1) ∧ R' (N + 2) = RF (N + 2)
set_option maxHeartbeats 2000000 in
theorem i_X4_1 (X : jX) (I : jMI) (R : jMR) (hR0 : ∀ j, R 1 j = none) : CG X yX4_init cX4_init 1 none 5 24 238 [jR 1] I R 2 (X4Q R I 1) := by
  refine CG.of (by decide) [some (jR 1)] rfl (Nat.le_of_ble_eq_true rfl) ?_
  refine j_aload_n (pc := 0) dX4_init_0 rfl ?_
  refine j_objI (pc := 1) k_X4_3 dX4_init_1 (by decide) (Nat.le_of_ble_eq_true rfl) ?_
  refine j_aload_n (pc := 4) dX4_init_4 rfl ?_
  refine j_newc (pc := 5) (ci := 2) 3 23 227 nc_X4_9 ni_X2 nz_X2 (by decide) dX4_init_5 rfl rfl (by decide) (by decide) ?_
  refine j_dupR (pc := 8) dX4_init_8 ?_
  refine j_goQ 8 48 (j_runI k_X4_11 m_X2_init (i_X2_2 X _ _ (fun j => jNr_s)) dX4_init_9 (by decide) rfl rfl (Nat.le_of_ble_eq_true rfl)) rfl rfl (fun v I1 R1 n1 h1 => ?_)
  obtain ⟨rfl, rfl, a1, a2, a3, a4, a5⟩ := h1
  refine j_putF (pc := 12) f_X4_12 dX4_init_12 rfl rfl rfl rfl rfl (by decide) ?_
  refine j_aload_n (pc := 15) dX4_init_15 rfl ?_
  refine j_iconst (pc := 16) dX4_init_16 ?_
  refine j_newa (pc := 17) (len := 3) (t0 := 0) (at0 := .int) (ty := .int) 19 7 45 rfl na_int rfl (fun _ _ h => h) (Or.inl ⟨rfl, rfl⟩) (by decide) dX4_init_17 rfl rfl (by decide) rfl (by decide) (by decide) ?_
  refine j_putF (pc := 19) f_X4_18 dX4_init_19 rfl rfl rfl rfl rfl (by decide) ?_
  refine j_aload_n (pc := 22) dX4_init_22 rfl ?_
  refine j_iconst (pc := 23) dX4_init_23 ?_
  refine j_newa (pc := 24) (len := 3) (t0 := 0) (at0 := .int) (ty := .int) 20 6 42 rfl na_int rfl (fun _ _ h => h) (Or.inl ⟨rfl, rfl⟩) (by decide) dX4_init_24 rfl rfl (by decide) rfl (by decide) (by decide) ?_
  refine j_putF (pc := 26) f_X4_22 dX4_init_26 rfl rfl rfl rfl rfl (by decide) ?_
  refine j_aload_n (pc := 29) dX4_init_29 rfl ?_
  refine j_bipush (pc := 30) dX4_init_30 (by decide) ?_
  refine j_newa (pc := 32) (len := 8) (t0 := 0) (at0 := .int) (ty := .int) 21 5 34 rfl na_int rfl (fun _ _ h => h) (Or.inl ⟨rfl, rfl⟩) (by decide) dX4_init_32 rfl rfl (by decide) rfl (by decide) (by decide) ?_
  refine j_putF (pc := 34) f_X4_25 dX4_init_34 rfl rfl rfl rfl rfl (by decide) ?_
  refine j_aload_n (pc := 37) dX4_init_37 rfl ?_
  refine j_bipush (pc := 38) dX4_init_38 (by decide) ?_
  refine j_newa (pc := 40) (len := 8) (t0 := 0) (at0 := .int) (ty := .int) 22 4 26 rfl na_int rfl (fun _ _ h => h) (Or.inl ⟨rfl, rfl⟩) (by decide) dX4_init_40 rfl rfl (by decide) rfl (by decide) (by decide) ?_
  refine j_putF (pc := 42) f_X4_28 dX4_init_42 rfl rfl rfl rfl rfl (by decide) ?_
  refine j_aload_n (pc := 45) dX4_init_45 rfl ?_
  refine j_bipush (pc := 46) dX4_init_46 (by decide) ?_
  refine j_newa (pc := 48) (len := 8) (t0 := 0) (at0 := .int) (ty := .int) 23 3 18 rfl na_int rfl (fun _ _ h => h) (Or.inl ⟨rfl, rfl⟩) (by decide) dX4_init_48 rfl rfl (by decide) rfl (by decide) (by decide) ?_
  refine j_putF (pc := 50) f_X4_31 dX4_init_50 rfl rfl rfl rfl rfl (by decide) ?_
  refine j_aload_n (pc := 53) dX4_init_53 rfl ?_
  refine j_bipush (pc := 54) dX4_init_54 (by decide) ?_
  refine j_newa (pc := 56) (len := 6) (t0 := 0) (at0 := .int) (ty := .int) 24 2 12 rfl na_int rfl (fun _ _ h => h) (Or.inl ⟨rfl, rfl⟩) (by decide) dX4_init_56 rfl rfl (by decide) rfl (by decide) (by decide) ?_
  refine j_putF (pc := 58) f_X4_34 dX4_init_58 rfl rfl rfl rfl rfl (by decide) ?_
  refine j_aload_n (pc := 61) dX4_init_61 rfl ?_
  refine j_bipush (pc := 62) dX4_init_62 (by decide) ?_
  refine j_newa (pc := 64) (len := 6) (t0 := 0) (at0 := .int) (ty := .int) 25 1 6 rfl na_int rfl (fun _ _ h => h) (Or.inl ⟨rfl, rfl⟩) (by decide) dX4_init_64 rfl rfl (by decide) rfl (by decide) (by decide) ?_
  refine j_putF (pc := 66) f_X4_37 dX4_init_66 rfl rfl rfl rfl rfl (by decide) ?_
  refine j_aload_n (pc := 69) dX4_init_69 rfl ?_
  refine j_bipush (pc := 70) dX4_init_70 (by decide) ?_
  refine j_newa (pc := 72) (len := 6) (t0 := 0) (at0 := .int) (ty := .int) 26 0 0 rfl na_int rfl (fun _ _ h => h) (Or.inl ⟨rfl, rfl⟩) (by decide) dX4_init_72 rfl rfl (by decide) rfl (by decide) (by decide) ?_
  refine j_putF (pc := 74) f_X4_40 dX4_init_74 rfl rfl rfl rfl rfl (by decide) ?_
  refine j_vret dX4_init_77 ⟨rfl, rfl, ?_, ?_, ?_, ?_, ?_, ?_, ?_⟩ rfl
  · intro z hz
    repeat rw [jNw_r (by omega)]
    rw [a1 z (by omega), jNw_r (by omega)]
  · intro f hf
    refine hR_fr (a2 f hf) (fun z hz => ?_)
    repeat rw [jNw_r (by omega)]
  · intro j
    repeat rw [jNw_n (by omega)]
    exact jNw_s
  · intro k hk
    repeat first | rw [jSr_r (by omega)] | rw [jNr_r (by omega)]
    rw [a3 k (by omega), jNr_r (by omega)]
  · funext j
    by_cases hj : j < 9
    · rcases (show j = 0 ∨ j = 1 ∨ j = 2 ∨ j = 3 ∨ j = 4 ∨ j = 5 ∨ j = 6 ∨ j = 7 ∨ j = 8 by omega) with rfl | rfl | rfl | rfl | rfl | rfl | rfl | rfl | rfl
      all_goals rfl
    · have e1 : RF 1 j = none := by
        by_cases hj2 : j < 13
        · rcases (show j = 9 ∨ j = 10 ∨ j = 11 ∨ j = 12 by omega) with rfl | rfl | rfl | rfl
          all_goals rfl
        · exact row_d (l := jRFL.getD 1 []) (by show 13 ≤ j; omega)
      rw [e1]
      repeat first | rw [jSr_x (by omega)] | rw [jNr_n (by omega)]
      exact (congrFun (a3 1 (by omega)) j).trans ((jNr_n (by omega) j).trans (hR0 j))
  · repeat first | rw [jSr_r (by omega)] | rw [jNr_r (by omega)]
    exact a4
  · repeat first | rw [jSr_r (by omega)] | rw [jNr_r (by omega)]
    exact a5
set_option maxHeartbeats 2000000 in
theorem i_X4_27 (X : jX) (I : jMI) (R : jMR) (hR0 : ∀ j, R 27 j = none) : CG X yX4_init cX4_init 1 none 5 24 238 [jR 27] I R 28 (X4Q R I 27) := by
  refine CG.of (by decide) [some (jR 27)] rfl (Nat.le_of_ble_eq_true rfl) ?_
  refine j_aload_n (pc := 0) dX4_init_0 rfl ?_
  refine j_objI (pc := 1) k_X4_3 dX4_init_1 (by decide) (Nat.le_of_ble_eq_true rfl) ?_
  refine j_aload_n (pc := 4) dX4_init_4 rfl ?_
  refine j_newc (pc := 5) (ci := 2) 29 23 227 nc_X4_9 ni_X2 nz_X2 (by decide) dX4_init_5 rfl rfl (by decide) (by decide) ?_
  refine j_dupR (pc := 8) dX4_init_8 ?_
  refine j_goQ 8 48 (j_runI k_X4_11 m_X2_init (i_X2_28 X _ _ (fun j => jNr_s)) dX4_init_9 (by decide) rfl rfl (Nat.le_of_ble_eq_true rfl)) rfl rfl (fun v I1 R1 n1 h1 => ?_)
  obtain ⟨rfl, rfl, a1, a2, a3, a4, a5⟩ := h1
  refine j_putF (pc := 12) f_X4_12 dX4_init_12 rfl rfl rfl rfl rfl (by decide) ?_
  refine j_aload_n (pc := 15) dX4_init_15 rfl ?_
  refine j_iconst (pc := 16) dX4_init_16 ?_
  refine j_newa (pc := 17) (len := 3) (t0 := 0) (at0 := .int) (ty := .int) 45 7 45 rfl na_int rfl (fun _ _ h => h) (Or.inl ⟨rfl, rfl⟩) (by decide) dX4_init_17 rfl rfl (by decide) rfl (by decide) (by decide) ?_
  refine j_putF (pc := 19) f_X4_18 dX4_init_19 rfl rfl rfl rfl rfl (by decide) ?_
  refine j_aload_n (pc := 22) dX4_init_22 rfl ?_
  refine j_iconst (pc := 23) dX4_init_23 ?_
  refine j_newa (pc := 24) (len := 3) (t0 := 0) (at0 := .int) (ty := .int) 46 6 42 rfl na_int rfl (fun _ _ h => h) (Or.inl ⟨rfl, rfl⟩) (by decide) dX4_init_24 rfl rfl (by decide) rfl (by decide) (by decide) ?_
  refine j_putF (pc := 26) f_X4_22 dX4_init_26 rfl rfl rfl rfl rfl (by decide) ?_
  refine j_aload_n (pc := 29) dX4_init_29 rfl ?_
  refine j_bipush (pc := 30) dX4_init_30 (by decide) ?_
  refine j_newa (pc := 32) (len := 8) (t0 := 0) (at0 := .int) (ty := .int) 47 5 34 rfl na_int rfl (fun _ _ h => h) (Or.inl ⟨rfl, rfl⟩) (by decide) dX4_init_32 rfl rfl (by decide) rfl (by decide) (by decide) ?_
  refine j_putF (pc := 34) f_X4_25 dX4_init_34 rfl rfl rfl rfl rfl (by decide) ?_
  refine j_aload_n (pc := 37) dX4_init_37 rfl ?_
  refine j_bipush (pc := 38) dX4_init_38 (by decide) ?_
  refine j_newa (pc := 40) (len := 8) (t0 := 0) (at0 := .int) (ty := .int) 48 4 26 rfl na_int rfl (fun _ _ h => h) (Or.inl ⟨rfl, rfl⟩) (by decide) dX4_init_40 rfl rfl (by decide) rfl (by decide) (by decide) ?_
  refine j_putF (pc := 42) f_X4_28 dX4_init_42 rfl rfl rfl rfl rfl (by decide) ?_
  refine j_aload_n (pc := 45) dX4_init_45 rfl ?_
  refine j_bipush (pc := 46) dX4_init_46 (by decide) ?_
  refine j_newa (pc := 48) (len := 8) (t0 := 0) (at0 := .int) (ty := .int) 49 3 18 rfl na_int rfl (fun _ _ h => h) (Or.inl ⟨rfl, rfl⟩) (by decide) dX4_init_48 rfl rfl (by decide) rfl (by decide) (by decide) ?_
  refine j_putF (pc := 50) f_X4_31 dX4_init_50 rfl rfl rfl rfl rfl (by decide) ?_
  refine j_aload_n (pc := 53) dX4_init_53 rfl ?_
  refine j_bipush (pc := 54) dX4_init_54 (by decide) ?_
  refine j_newa (pc := 56) (len := 6) (t0 := 0) (at0 := .int) (ty := .int) 50 2 12 rfl na_int rfl (fun _ _ h => h) (Or.inl ⟨rfl, rfl⟩) (by decide) dX4_init_56 rfl rfl (by decide) rfl (by decide) (by decide) ?_
  refine j_putF (pc := 58) f_X4_34 dX4_init_58 rfl rfl rfl rfl rfl (by decide) ?_
  refine j_aload_n (pc := 61) dX4_init_61 rfl ?_
  refine j_bipush (pc := 62) dX4_init_62 (by decide) ?_
  refine j_newa (pc := 64) (len := 6) (t0 := 0) (at0 := .int) (ty := .int) 51 1 6 rfl na_int rfl (fun _ _ h => h) (Or.inl ⟨rfl, rfl⟩) (by decide) dX4_init_64 rfl rfl (by decide) rfl (by decide) (by decide) ?_
  refine j_putF (pc := 66) f_X4_37 dX4_init_66 rfl rfl rfl rfl rfl (by decide) ?_
  refine j_aload_n (pc := 69) dX4_init_69 rfl ?_
  refine j_bipush (pc := 70) dX4_init_70 (by decide) ?_
  refine j_newa (pc := 72) (len := 6) (t0 := 0) (at0 := .int) (ty := .int) 52 0 0 rfl na_int rfl (fun _ _ h => h) (Or.inl ⟨rfl, rfl⟩) (by decide) dX4_init_72 rfl rfl (by decide) rfl (by decide) (by decide) ?_
  refine j_putF (pc := 74) f_X4_40 dX4_init_74 rfl rfl rfl rfl rfl (by decide) ?_
  refine j_vret dX4_init_77 ⟨rfl, rfl, ?_, ?_, ?_, ?_, ?_, ?_, ?_⟩ rfl
  · intro z hz
    repeat rw [jNw_r (by omega)]
    rw [a1 z (by omega), jNw_r (by omega)]
  · intro f hf
    refine hR_fr (a2 f hf) (fun z hz => ?_)
    repeat rw [jNw_r (by omega)]
  · intro j
    repeat rw [jNw_n (by omega)]
    exact jNw_s
  · intro k hk
    repeat first | rw [jSr_r (by omega)] | rw [jNr_r (by omega)]
    rw [a3 k (by omega), jNr_r (by omega)]
  · funext j
    by_cases hj : j < 9
    · rcases (show j = 0 ∨ j = 1 ∨ j = 2 ∨ j = 3 ∨ j = 4 ∨ j = 5 ∨ j = 6 ∨ j = 7 ∨ j = 8 by omega) with rfl | rfl | rfl | rfl | rfl | rfl | rfl | rfl | rfl
      all_goals rfl
    · have e1 : RF 27 j = none := by
        by_cases hj2 : j < 13
        · rcases (show j = 9 ∨ j = 10 ∨ j = 11 ∨ j = 12 by omega) with rfl | rfl | rfl | rfl
          all_goals rfl
        · exact row_d (l := jRFL.getD 27 []) (by show 13 ≤ j; omega)
      rw [e1]
      repeat first | rw [jSr_x (by omega)] | rw [jNr_n (by omega)]
      exact (congrFun (a3 27 (by omega)) j).trans ((jNr_n (by omega) j).trans (hR0 j))
  · repeat first | rw [jSr_r (by omega)] | rw [jNr_r (by omega)]
    exact a4
  · repeat first | rw [jSr_r (by omega)] | rw [jNr_r (by omega)]
    exact a5
set_option maxHeartbeats 2000000 in
theorem i_X4_52 (X : jX) (I : jMI) (R : jMR) (hR0 : ∀ j, R 52 j = none) : CG X yX4_init cX4_init 1 none 5 24 238 [jR 52] I R 53 (X4Q R I 52) := by
  refine CG.of (by decide) [some (jR 52)] rfl (Nat.le_of_ble_eq_true rfl) ?_
  refine j_aload_n (pc := 0) dX4_init_0 rfl ?_
  refine j_objI (pc := 1) k_X4_3 dX4_init_1 (by decide) (Nat.le_of_ble_eq_true rfl) ?_
  refine j_aload_n (pc := 4) dX4_init_4 rfl ?_
  refine j_newc (pc := 5) (ci := 2) 54 23 227 nc_X4_9 ni_X2 nz_X2 (by decide) dX4_init_5 rfl rfl (by decide) (by decide) ?_
  refine j_dupR (pc := 8) dX4_init_8 ?_
  refine j_goQ 8 48 (j_runI k_X4_11 m_X2_init (i_X2_53 X _ _ (fun j => jNr_s)) dX4_init_9 (by decide) rfl rfl (Nat.le_of_ble_eq_true rfl)) rfl rfl (fun v I1 R1 n1 h1 => ?_)
  obtain ⟨rfl, rfl, a1, a2, a3, a4, a5⟩ := h1
  refine j_putF (pc := 12) f_X4_12 dX4_init_12 rfl rfl rfl rfl rfl (by decide) ?_
  refine j_aload_n (pc := 15) dX4_init_15 rfl ?_
  refine j_iconst (pc := 16) dX4_init_16 ?_
  refine j_newa (pc := 17) (len := 3) (t0 := 0) (at0 := .int) (ty := .int) 70 7 45 rfl na_int rfl (fun _ _ h => h) (Or.inl ⟨rfl, rfl⟩) (by decide) dX4_init_17 rfl rfl (by decide) rfl (by decide) (by decide) ?_
  refine j_putF (pc := 19) f_X4_18 dX4_init_19 rfl rfl rfl rfl rfl (by decide) ?_
  refine j_aload_n (pc := 22) dX4_init_22 rfl ?_
  refine j_iconst (pc := 23) dX4_init_23 ?_
  refine j_newa (pc := 24) (len := 3) (t0 := 0) (at0 := .int) (ty := .int) 71 6 42 rfl na_int rfl (fun _ _ h => h) (Or.inl ⟨rfl, rfl⟩) (by decide) dX4_init_24 rfl rfl (by decide) rfl (by decide) (by decide) ?_
  refine j_putF (pc := 26) f_X4_22 dX4_init_26 rfl rfl rfl rfl rfl (by decide) ?_
  refine j_aload_n (pc := 29) dX4_init_29 rfl ?_
  refine j_bipush (pc := 30) dX4_init_30 (by decide) ?_
  refine j_newa (pc := 32) (len := 8) (t0 := 0) (at0 := .int) (ty := .int) 72 5 34 rfl na_int rfl (fun _ _ h => h) (Or.inl ⟨rfl, rfl⟩) (by decide) dX4_init_32 rfl rfl (by decide) rfl (by decide) (by decide) ?_
  refine j_putF (pc := 34) f_X4_25 dX4_init_34 rfl rfl rfl rfl rfl (by decide) ?_
  refine j_aload_n (pc := 37) dX4_init_37 rfl ?_
  refine j_bipush (pc := 38) dX4_init_38 (by decide) ?_
  refine j_newa (pc := 40) (len := 8) (t0 := 0) (at0 := .int) (ty := .int) 73 4 26 rfl na_int rfl (fun _ _ h => h) (Or.inl ⟨rfl, rfl⟩) (by decide) dX4_init_40 rfl rfl (by decide) rfl (by decide) (by decide) ?_
  refine j_putF (pc := 42) f_X4_28 dX4_init_42 rfl rfl rfl rfl rfl (by decide) ?_
  refine j_aload_n (pc := 45) dX4_init_45 rfl ?_
  refine j_bipush (pc := 46) dX4_init_46 (by decide) ?_
  refine j_newa (pc := 48) (len := 8) (t0 := 0) (at0 := .int) (ty := .int) 74 3 18 rfl na_int rfl (fun _ _ h => h) (Or.inl ⟨rfl, rfl⟩) (by decide) dX4_init_48 rfl rfl (by decide) rfl (by decide) (by decide) ?_
  refine j_putF (pc := 50) f_X4_31 dX4_init_50 rfl rfl rfl rfl rfl (by decide) ?_
  refine j_aload_n (pc := 53) dX4_init_53 rfl ?_
  refine j_bipush (pc := 54) dX4_init_54 (by decide) ?_
  refine j_newa (pc := 56) (len := 6) (t0 := 0) (at0 := .int) (ty := .int) 75 2 12 rfl na_int rfl (fun _ _ h => h) (Or.inl ⟨rfl, rfl⟩) (by decide) dX4_init_56 rfl rfl (by decide) rfl (by decide) (by decide) ?_
  refine j_putF (pc := 58) f_X4_34 dX4_init_58 rfl rfl rfl rfl rfl (by decide) ?_
  refine j_aload_n (pc := 61) dX4_init_61 rfl ?_
  refine j_bipush (pc := 62) dX4_init_62 (by decide) ?_
  refine j_newa (pc := 64) (len := 6) (t0 := 0) (at0 := .int) (ty := .int) 76 1 6 rfl na_int rfl (fun _ _ h => h) (Or.inl ⟨rfl, rfl⟩) (by decide) dX4_init_64 rfl rfl (by decide) rfl (by decide) (by decide) ?_
  refine j_putF (pc := 66) f_X4_37 dX4_init_66 rfl rfl rfl rfl rfl (by decide) ?_
  refine j_aload_n (pc := 69) dX4_init_69 rfl ?_
  refine j_bipush (pc := 70) dX4_init_70 (by decide) ?_
  refine j_newa (pc := 72) (len := 6) (t0 := 0) (at0 := .int) (ty := .int) 77 0 0 rfl na_int rfl (fun _ _ h => h) (Or.inl ⟨rfl, rfl⟩) (by decide) dX4_init_72 rfl rfl (by decide) rfl (by decide) (by decide) ?_
  refine j_putF (pc := 74) f_X4_40 dX4_init_74 rfl rfl rfl rfl rfl (by decide) ?_
  refine j_vret dX4_init_77 ⟨rfl, rfl, ?_, ?_, ?_, ?_, ?_, ?_, ?_⟩ rfl
  · intro z hz
    repeat rw [jNw_r (by omega)]
    rw [a1 z (by omega), jNw_r (by omega)]
  · intro f hf
    refine hR_fr (a2 f hf) (fun z hz => ?_)
    repeat rw [jNw_r (by omega)]
  · intro j
    repeat rw [jNw_n (by omega)]
    exact jNw_s
  · intro k hk
    repeat first | rw [jSr_r (by omega)] | rw [jNr_r (by omega)]
    rw [a3 k (by omega), jNr_r (by omega)]
  · funext j
    by_cases hj : j < 9
    · rcases (show j = 0 ∨ j = 1 ∨ j = 2 ∨ j = 3 ∨ j = 4 ∨ j = 5 ∨ j = 6 ∨ j = 7 ∨ j = 8 by omega) with rfl | rfl | rfl | rfl | rfl | rfl | rfl | rfl | rfl
      all_goals rfl
    · have e1 : RF 52 j = none := by
        by_cases hj2 : j < 13
        · rcases (show j = 9 ∨ j = 10 ∨ j = 11 ∨ j = 12 by omega) with rfl | rfl | rfl | rfl
          all_goals rfl
        · exact row_d (l := jRFL.getD 52 []) (by show 13 ≤ j; omega)
      rw [e1]
      repeat first | rw [jSr_x (by omega)] | rw [jNr_n (by omega)]
      exact (congrFun (a3 52 (by omega)) j).trans ((jNr_n (by omega) j).trans (hR0 j))
  · repeat first | rw [jSr_r (by omega)] | rw [jNr_r (by omega)]
    exact a4
  · repeat first | rw [jSr_r (by omega)] | rw [jNr_r (by omega)]
    exact a5
def X8Q (R : jMR) (I : jMI) (N m : Nat) : Option jV → jMI → jMR → Nat → Prop := fun v I' R' n' => v = none ∧ n' = N + m ∧ (∀ z, z ≤ N → I' z = I z) ∧ (∀ k, k < N → R' k = R k) ∧ R' N = RF N
set_option maxHeartbeats 2000000 in
theorem i_X8_78 (X : jX) (I : jMI) (R : jMR) (hR0 : ∀ j, R 78 j = none) : CG X yX8_init cX8_init 1 none 1 1 150 [jR 78] I R 79 (X8Q R I 78 2) := by
  refine CG.of (by decide) [some (jR 78)] rfl (Nat.le_of_ble_eq_true rfl) ?_
  refine j_aload_n (pc := 0) dX8_init_0 rfl ?_
  refine j_objI (pc := 1) k_X8_3 dX8_init_1 (by decide) (Nat.le_of_ble_eq_true rfl) ?_
  refine j_aload_n (pc := 4) dX8_init_4 rfl ?_
  refine j_sipush (pc := 5) dX8_init_5 (by decide) ?_
  refine j_newa (pc := 8) (len := 150) (t0 := 2) (at0 := .byte) (ty := .byte) 80 0 0 rfl na_byte rfl (fun _ _ h => h) (Or.inl ⟨rfl, rfl⟩) (by decide) dX8_init_8 rfl rfl (by decide) rfl (by decide) (by decide) ?_
  refine j_putF (pc := 10) f_X8_9 dX8_init_10 rfl rfl rfl rfl rfl (by decide) ?_
  refine j_vret dX8_init_13 ⟨rfl, rfl, ?_, ?_, ?_⟩ rfl
  · intro z hz
    repeat rw [jNw_r (by omega)]
  · intro k hk
    repeat first | rw [jSr_r (by omega)] | rw [jNr_r (by omega)]
  · funext j
    by_cases hj : j < 1
    · rcases (show j = 0 by omega) with rfl
      all_goals rfl
    · have e1 : RF 78 j = none := by
        by_cases hj2 : j < 1
        · omega
        · exact row_d (l := jRFL.getD 78 []) (by show 1 ≤ j; omega)
      rw [e1]
      repeat first | rw [jSr_x (by omega)] | rw [jNr_n (by omega)]
      exact hR0 j
set_option maxHeartbeats 2000000 in
theorem i_X1_96 (X : jX) (I : jMI) (R : jMR) (hR0 : ∀ j, R 96 j = none) : CG X yX1_init cX1_init 1 none 1 3 24 [jR 96] I R 97 (X8Q R I 96 4) := by
  refine CG.of (by decide) [some (jR 96)] rfl (Nat.le_of_ble_eq_true rfl) ?_
  refine j_aload_n (pc := 0) dX1_init_0 rfl ?_
  refine j_objI (pc := 1) k_X1_3 dX1_init_1 (by decide) (Nat.le_of_ble_eq_true rfl) ?_
  refine j_aload_n (pc := 4) dX1_init_4 rfl ?_
  refine j_bipush (pc := 5) dX1_init_5 (by decide) ?_
  refine j_newa (pc := 7) (len := 8) (t0 := 0) (at0 := .int) (ty := .int) 98 2 16 rfl na_int rfl (fun _ _ h => h) (Or.inl ⟨rfl, rfl⟩) (by decide) dX1_init_7 rfl rfl (by decide) rfl (by decide) (by decide) ?_
  refine j_putF (pc := 9) f_X1_9 dX1_init_9 rfl rfl rfl rfl rfl (by decide) ?_
  refine j_aload_n (pc := 12) dX1_init_12 rfl ?_
  refine j_bipush (pc := 13) dX1_init_13 (by decide) ?_
  refine j_newa (pc := 15) (len := 8) (t0 := 0) (at0 := .int) (ty := .int) 99 1 8 rfl na_int rfl (fun _ _ h => h) (Or.inl ⟨rfl, rfl⟩) (by decide) dX1_init_15 rfl rfl (by decide) rfl (by decide) (by decide) ?_
  refine j_putF (pc := 17) f_X1_15 dX1_init_17 rfl rfl rfl rfl rfl (by decide) ?_
  refine j_aload_n (pc := 20) dX1_init_20 rfl ?_
  refine j_bipush (pc := 21) dX1_init_21 (by decide) ?_
  refine j_newa (pc := 23) (len := 8) (t0 := 0) (at0 := .int) (ty := .int) 100 0 0 rfl na_int rfl (fun _ _ h => h) (Or.inl ⟨rfl, rfl⟩) (by decide) dX1_init_23 rfl rfl (by decide) rfl (by decide) (by decide) ?_
  refine j_putF (pc := 25) f_X1_18 dX1_init_25 rfl rfl rfl rfl rfl (by decide) ?_
  refine j_vret dX1_init_28 ⟨rfl, rfl, ?_, ?_, ?_⟩ rfl
  · intro z hz
    repeat rw [jNw_r (by omega)]
  · intro k hk
    repeat first | rw [jSr_r (by omega)] | rw [jNr_r (by omega)]
  · funext j
    by_cases hj : j < 3
    · rcases (show j = 0 ∨ j = 1 ∨ j = 2 by omega) with rfl | rfl | rfl
      all_goals rfl
    · have e1 : RF 96 j = none := by
        by_cases hj2 : j < 3
        · omega
        · exact row_d (l := jRFL.getD 96 []) (by show 3 ≤ j; omega)
      rw [e1]
      repeat first | rw [jSr_x (by omega)] | rw [jNr_n (by omega)]
      exact hR0 j
set_option maxHeartbeats 2000000 in
theorem i_X9_100 (X : jX) (I : jMI) (R : jMR) (hR0 : ∀ j, R 100 j = none) : CG X yX9_init cX9_init 1 none 1 3 304 [jR 100] I R 101 (X8Q R I 100 4) := by
  refine CG.of (by decide) [some (jR 100)] rfl (Nat.le_of_ble_eq_true rfl) ?_
  refine j_aload_n (pc := 0) dX9_init_0 rfl ?_
  refine j_objI (pc := 1) k_X9_3 dX9_init_1 (by decide) (Nat.le_of_ble_eq_true rfl) ?_
  refine j_aload_n (pc := 4) dX9_init_4 rfl ?_
  refine j_bipush (pc := 5) dX9_init_5 (by decide) ?_
  refine j_newa (pc := 7) (len := 96) (t0 := 0) (at0 := .int) (ty := .int) 102 2 208 rfl na_int rfl (fun _ _ h => h) (Or.inl ⟨rfl, rfl⟩) (by decide) dX9_init_7 rfl rfl (by decide) rfl (by decide) (by decide) ?_
  refine j_putF (pc := 9) f_X9_9 dX9_init_9 rfl rfl rfl rfl rfl (by decide) ?_
  refine j_aload_n (pc := 12) dX9_init_12 rfl ?_
  refine j_bipush (pc := 13) dX9_init_13 (by decide) ?_
  refine j_newa (pc := 15) (len := 104) (t0 := 1) (at0 := .long) (ty := .long) 103 1 104 rfl na_long rfl (fun _ _ h => h) (Or.inr ⟨rfl, rfl⟩) (by decide) dX9_init_15 rfl rfl (by decide) rfl (by decide) (by decide) ?_
  refine j_putF (pc := 17) f_X9_15 dX9_init_17 rfl rfl rfl rfl rfl (by decide) ?_
  refine j_aload_n (pc := 20) dX9_init_20 rfl ?_
  refine j_bipush (pc := 21) dX9_init_21 (by decide) ?_
  refine j_newa (pc := 23) (len := 104) (t0 := 1) (at0 := .long) (ty := .long) 104 0 0 rfl na_long rfl (fun _ _ h => h) (Or.inr ⟨rfl, rfl⟩) (by decide) dX9_init_23 rfl rfl (by decide) rfl (by decide) (by decide) ?_
  refine j_putF (pc := 25) f_X9_19 dX9_init_25 rfl rfl rfl rfl rfl (by decide) ?_
  refine j_vret dX9_init_28 ⟨rfl, rfl, ?_, ?_, ?_⟩ rfl
  · intro z hz
    repeat rw [jNw_r (by omega)]
  · intro k hk
    repeat first | rw [jSr_r (by omega)] | rw [jNr_r (by omega)]
  · funext j
    by_cases hj : j < 3
    · rcases (show j = 0 ∨ j = 1 ∨ j = 2 by omega) with rfl | rfl | rfl
      all_goals rfl
    · have e1 : RF 100 j = none := by
        by_cases hj2 : j < 3
        · omega
        · exact row_d (l := jRFL.getD 100 []) (by show 3 ≤ j; omega)
      rw [e1]
      repeat first | rw [jSr_x (by omega)] | rw [jNr_n (by omega)]
      exact hR0 j
