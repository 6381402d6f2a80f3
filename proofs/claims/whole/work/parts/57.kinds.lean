/-! ===== the class: kinds of sleepers; the least noise ===== -/
theorem c_wn7 (X : jX) (I : jMI) (k : Nat) (e m o : Int) : C_X7_wakingNoise X [jR k, jI e, jI m, jI o] I (fun r I' => r = e + 2 ∧ I' = I) := by
  refine CG.of (by decide) [some (jR k), some (jI e), some (jI m), some (jI o)] rfl (Nat.le_of_ble_eq_true rfl) ?_
  refine j_iload_n (pc := 0) dX7_wakingNoise_0 rfl ?_
  refine j_iconst (pc := 1) dX7_wakingNoise_1 ?_
  refine j_iadd (pc := 2) dX7_wakingNoise_2 ?_
  exact j_reti dX7_wakingNoise_3 (⟨rfl, rfl⟩) rfl
theorem c_wn3_5 (X : jX) (I : jMI) (e m o : Int) (he : 0 ≤ e ∧ e ≤ 9) : C_X3_wakingNoise X [jR 5, jI e, jI m, jI o] I (fun r I' => r = (e + 2) / 2 ∧ I' = I) := by
  refine CG.of (by decide) [some (jR 5), some (jI e), some (jI m), some (jI o)] rfl (Nat.le_of_ble_eq_true rfl) ?_
  refine j_aload_n (pc := 0) dX3_wakingNoise_0 rfl ?_
  refine j_iload_n (pc := 1) dX3_wakingNoise_1 rfl ?_
  refine j_iload_n (pc := 2) dX3_wakingNoise_2 rfl ?_
  refine j_iload_n (pc := 3) dX3_wakingNoise_3 rfl ?_
  refine j_goI (pc := 4) (j_runU k_X3_7 m_X7_wakingNoise (c_wn7 X I 5 e m o) dX3_wakingNoise_4 rfl (by decide) (by decide) (by decide) rfl rfl (Nat.le_of_ble_eq_true rfl)) (fun r1 I1 h1 => ?_)
  obtain ⟨rfl, rfl⟩ := h1
  refine j_iconst (pc := 7) dX3_wakingNoise_7 ?_
  refine j_idiv (pc := 8) dX3_wakingNoise_8 (by omega) (by omega) ?_
  exact j_reti dX3_wakingNoise_9 (⟨rfl, rfl⟩) rfl
theorem c_wn3_7 (X : jX) (I : jMI) (e m o : Int) (he : 0 ≤ e ∧ e ≤ 9) : C_X3_wakingNoise X [jR 7, jI e, jI m, jI o] I (fun r I' => r = (e + 2) / 2 ∧ I' = I) := by
  refine CG.of (by decide) [some (jR 7), some (jI e), some (jI m), some (jI o)] rfl (Nat.le_of_ble_eq_true rfl) ?_
  refine j_aload_n (pc := 0) dX3_wakingNoise_0 rfl ?_
  refine j_iload_n (pc := 1) dX3_wakingNoise_1 rfl ?_
  refine j_iload_n (pc := 2) dX3_wakingNoise_2 rfl ?_
  refine j_iload_n (pc := 3) dX3_wakingNoise_3 rfl ?_
  refine j_goI (pc := 4) (j_runU k_X3_7 m_X7_wakingNoise (c_wn7 X I 7 e m o) dX3_wakingNoise_4 rfl (by decide) (by decide) (by decide) rfl rfl (Nat.le_of_ble_eq_true rfl)) (fun r1 I1 h1 => ?_)
  obtain ⟨rfl, rfl⟩ := h1
  refine j_iconst (pc := 7) dX3_wakingNoise_7 ?_
  refine j_idiv (pc := 8) dX3_wakingNoise_8 (by omega) (by omega) ?_
  exact j_reti dX3_wakingNoise_9 (⟨rfl, rfl⟩) rfl
theorem c_wn3_8 (X : jX) (I : jMI) (e m o : Int) (he : 0 ≤ e ∧ e ≤ 9) : C_X3_wakingNoise X [jR 8, jI e, jI m, jI o] I (fun r I' => r = (e + 2) / 2 ∧ I' = I) := by
  refine CG.of (by decide) [some (jR 8), some (jI e), some (jI m), some (jI o)] rfl (Nat.le_of_ble_eq_true rfl) ?_
  refine j_aload_n (pc := 0) dX3_wakingNoise_0 rfl ?_
  refine j_iload_n (pc := 1) dX3_wakingNoise_1 rfl ?_
  refine j_iload_n (pc := 2) dX3_wakingNoise_2 rfl ?_
  refine j_iload_n (pc := 3) dX3_wakingNoise_3 rfl ?_
  refine j_goI (pc := 4) (j_runU k_X3_7 m_X7_wakingNoise (c_wn7 X I 8 e m o) dX3_wakingNoise_4 rfl (by decide) (by decide) (by decide) rfl rfl (Nat.le_of_ble_eq_true rfl)) (fun r1 I1 h1 => ?_)
  obtain ⟨rfl, rfl⟩ := h1
  refine j_iconst (pc := 7) dX3_wakingNoise_7 ?_
  refine j_idiv (pc := 8) dX3_wakingNoise_8 (by omega) (by omega) ?_
  exact j_reti dX3_wakingNoise_9 (⟨rfl, rfl⟩) rfl
theorem c_wn5_6 (X : jX) (I : jMI) (e m o : Int) (he : 0 ≤ e ∧ e ≤ 9) (hm : 0 ≤ m ∧ m ≤ 59) : C_X5_wakingNoise X [jR 6, jI e, jI m, jI o] I (fun r I' => r = (if m % 10 = 0 then (e + 2) / 2 else e + 2 + 3) ∧ I' = I) := by
  refine CG.of (by decide) [some (jR 6), some (jI e), some (jI m), some (jI o), none] rfl (Nat.le_of_ble_eq_true rfl) ?_
  refine j_aload_n (pc := 0) dX5_wakingNoise_0 rfl ?_
  refine j_iload_n (pc := 1) dX5_wakingNoise_1 rfl ?_
  refine j_iload_n (pc := 2) dX5_wakingNoise_2 rfl ?_
  refine j_iload_n (pc := 3) dX5_wakingNoise_3 rfl ?_
  refine j_goI (pc := 4) (j_runU k_X5_7 m_X7_wakingNoise (c_wn7 X I 6 e m o) dX5_wakingNoise_4 rfl (by decide) (by decide) (by decide) rfl rfl (Nat.le_of_ble_eq_true rfl)) (fun r1 I1 h1 => ?_)
  obtain ⟨rfl, rfl⟩ := h1
  refine j_istore4 (pc := 7) dX5_wakingNoise_7 (by decide) rfl ?_
  refine j_iload_n (pc := 9) dX5_wakingNoise_9 rfl ?_
  refine j_bipush (pc := 10) dX5_wakingNoise_10 (by decide) ?_
  refine j_irem (pc := 12) dX5_wakingNoise_12 (by omega) (by omega) ?_
  refine j_if_ne (pc := 13) 23 dX5_wakingNoise_13 (by decide) (by omega) (fun h_13 => ?_) (fun h_13 => ?_)
  · refine j_iload (pc := 23) dX5_wakingNoise_23 rfl ?_
    refine j_iconst (pc := 25) dX5_wakingNoise_25 ?_
    refine j_iadd (pc := 26) dX5_wakingNoise_26 ?_
    exact j_reti dX5_wakingNoise_27 (⟨by split <;> omega, rfl⟩) rfl
  · refine j_iload (pc := 16) dX5_wakingNoise_16 rfl ?_
    refine j_iconst (pc := 18) dX5_wakingNoise_18 ?_
    refine j_idiv (pc := 19) dX5_wakingNoise_19 (by omega) (by omega) ?_
    refine j_goto (pc := 20) 27 dX5_wakingNoise_20 (by decide) ?_
    exact j_reti dX5_wakingNoise_27 (⟨by split <;> omega, rfl⟩) rfl
theorem c_wn5_9 (X : jX) (I : jMI) (e m o : Int) (he : 0 ≤ e ∧ e ≤ 9) (hm : 0 ≤ m ∧ m ≤ 59) : C_X5_wakingNoise X [jR 9, jI e, jI m, jI o] I (fun r I' => r = (if m % 10 = 0 then (e + 2) / 2 else e + 2 + 3) ∧ I' = I) := by
  refine CG.of (by decide) [some (jR 9), some (jI e), some (jI m), some (jI o), none] rfl (Nat.le_of_ble_eq_true rfl) ?_
  refine j_aload_n (pc := 0) dX5_wakingNoise_0 rfl ?_
  refine j_iload_n (pc := 1) dX5_wakingNoise_1 rfl ?_
  refine j_iload_n (pc := 2) dX5_wakingNoise_2 rfl ?_
  refine j_iload_n (pc := 3) dX5_wakingNoise_3 rfl ?_
  refine j_goI (pc := 4) (j_runU k_X5_7 m_X7_wakingNoise (c_wn7 X I 9 e m o) dX5_wakingNoise_4 rfl (by decide) (by decide) (by decide) rfl rfl (Nat.le_of_ble_eq_true rfl)) (fun r1 I1 h1 => ?_)
  obtain ⟨rfl, rfl⟩ := h1
  refine j_istore4 (pc := 7) dX5_wakingNoise_7 (by decide) rfl ?_
  refine j_iload_n (pc := 9) dX5_wakingNoise_9 rfl ?_
  refine j_bipush (pc := 10) dX5_wakingNoise_10 (by decide) ?_
  refine j_irem (pc := 12) dX5_wakingNoise_12 (by omega) (by omega) ?_
  refine j_if_ne (pc := 13) 23 dX5_wakingNoise_13 (by decide) (by omega) (fun h_13 => ?_) (fun h_13 => ?_)
  · refine j_iload (pc := 23) dX5_wakingNoise_23 rfl ?_
    refine j_iconst (pc := 25) dX5_wakingNoise_25 ?_
    refine j_iadd (pc := 26) dX5_wakingNoise_26 ?_
    exact j_reti dX5_wakingNoise_27 (⟨by split <;> omega, rfl⟩) rfl
  · refine j_iload (pc := 16) dX5_wakingNoise_16 rfl ?_
    refine j_iconst (pc := 18) dX5_wakingNoise_18 ?_
    refine j_idiv (pc := 19) dX5_wakingNoise_19 (by omega) (by omega) ?_
    refine j_goto (pc := 20) 27 dX5_wakingNoise_20 (by decide) ?_
    exact j_reti dX5_wakingNoise_27 (⟨by split <;> omega, rfl⟩) rfl
theorem c_wn0 (X : jX) (I : jMI) (e m o : Int) (he : 0 ≤ e ∧ e ≤ 9) (ho : o = 0 ∨ o = 1) : C_X0_wakingNoise X [jR 7, jI e, jI m, jI o] I (fun r I' => r = (if o = 1 then 1 else (e + 2) / 2) ∧ I' = I) := by
  refine CG.of (by decide) [some (jR 7), some (jI e), some (jI m), some (jI o)] rfl (Nat.le_of_ble_eq_true rfl) ?_
  refine j_iload_n (pc := 0) dX0_wakingNoise_0 rfl ?_
  refine j_if_eq (pc := 1) 8 dX0_wakingNoise_1 (by decide) (by omega) (fun h_1 => ?_) (fun h_1 => ?_)
  · refine j_aload_n (pc := 8) dX0_wakingNoise_8 rfl ?_
    refine j_iload_n (pc := 9) dX0_wakingNoise_9 rfl ?_
    refine j_iload_n (pc := 10) dX0_wakingNoise_10 rfl ?_
    refine j_iload_n (pc := 11) dX0_wakingNoise_11 rfl ?_
    refine j_goI (pc := 12) (j_runU k_X0_7 m_X3_wakingNoise (c_wn3_7 X I e m o he) dX0_wakingNoise_12 rfl (by decide) (by decide) (by decide) rfl rfl (Nat.le_of_ble_eq_true rfl)) (fun r1 I1 h1 => ?_)
    obtain ⟨rfl, rfl⟩ := h1
    exact j_reti dX0_wakingNoise_15 (⟨by split <;> omega, rfl⟩) rfl
  · refine j_iconst (pc := 4) dX0_wakingNoise_4 ?_
    refine j_goto (pc := 5) 15 dX0_wakingNoise_5 (by decide) ?_
    exact j_reti dX0_wakingNoise_15 (⟨by split <;> omega, rfl⟩) rfl
theorem c_wn6 (X : jX) (I : jMI) (e m o : Int) (he : 0 ≤ e ∧ e ≤ 9) (hm : 0 ≤ m ∧ m ≤ 59) : C_X6_wakingNoise X [jR 8, jI e, jI m, jI o] I (fun r I' => r = (if m < 30 then (e + 2) / 2 else 2 * ((e + 2) / 2)) ∧ I' = I) := by
  refine CG.of (by decide) [some (jR 8), some (jI e), some (jI m), some (jI o), none] rfl (Nat.le_of_ble_eq_true rfl) ?_
  refine j_aload_n (pc := 0) dX6_wakingNoise_0 rfl ?_
  refine j_iload_n (pc := 1) dX6_wakingNoise_1 rfl ?_
  refine j_iload_n (pc := 2) dX6_wakingNoise_2 rfl ?_
  refine j_iload_n (pc := 3) dX6_wakingNoise_3 rfl ?_
  refine j_goI (pc := 4) (j_runU k_X6_7 m_X3_wakingNoise (c_wn3_8 X I e m o he) dX6_wakingNoise_4 rfl (by decide) (by decide) (by decide) rfl rfl (Nat.le_of_ble_eq_true rfl)) (fun r1 I1 h1 => ?_)
  obtain ⟨rfl, rfl⟩ := h1
  refine j_istore4 (pc := 7) dX6_wakingNoise_7 (by decide) rfl ?_
  refine j_iload_n (pc := 9) dX6_wakingNoise_9 rfl ?_
  refine j_bipush (pc := 10) dX6_wakingNoise_10 (by decide) ?_
  refine j_icmp_ge (pc := 12) 20 dX6_wakingNoise_12 (by decide) (by omega) (by omega) (fun h_12 => ?_) (fun h_12 => ?_)
  · refine j_iconst (pc := 20) dX6_wakingNoise_20 ?_
    refine j_iload (pc := 21) dX6_wakingNoise_21 rfl ?_
    refine j_imul (pc := 23) dX6_wakingNoise_23 ?_
    exact j_reti dX6_wakingNoise_24 (⟨by split <;> omega, rfl⟩) rfl
  · refine j_iload (pc := 15) dX6_wakingNoise_15 rfl ?_
    refine j_goto (pc := 17) 24 dX6_wakingNoise_17 (by decide) ?_
    exact j_reti dX6_wakingNoise_24 (⟨by split <;> omega, rfl⟩) rfl
theorem c_wn10 (X : jX) (I : jMI) (e m o : Int) (he : 0 ≤ e ∧ e ≤ 9) (hm : 0 ≤ m ∧ m ≤ 59) : C_X10_wakingNoise X [jR 9, jI e, jI m, jI o] I (fun r I' => r = (if m % 2 = 1 then 2 * (if m % 10 = 0 then (e + 2) / 2 else e + 2 + 3) else (if m % 10 = 0 then (e + 2) / 2 else e + 2 + 3)) ∧ I' = I) := by
  refine CG.of (by decide) [some (jR 9), some (jI e), some (jI m), some (jI o), none] rfl (Nat.le_of_ble_eq_true rfl) ?_
  refine j_aload_n (pc := 0) dX10_wakingNoise_0 rfl ?_
  refine j_iload_n (pc := 1) dX10_wakingNoise_1 rfl ?_
  refine j_iload_n (pc := 2) dX10_wakingNoise_2 rfl ?_
  refine j_iload_n (pc := 3) dX10_wakingNoise_3 rfl ?_
  refine j_goI (pc := 4) (j_runU k_X10_7 m_X5_wakingNoise (c_wn5_9 X I e m o he hm) dX10_wakingNoise_4 rfl (by decide) (by decide) (by decide) rfl rfl (Nat.le_of_ble_eq_true rfl)) (fun r1 I1 h1 => ?_)
  obtain ⟨rfl, rfl⟩ := h1
  refine j_istore4 (pc := 7) dX10_wakingNoise_7 (by decide) rfl ?_
  refine j_iload_n (pc := 9) dX10_wakingNoise_9 rfl ?_
  refine j_iconst (pc := 10) dX10_wakingNoise_10 ?_
  refine j_irem (pc := 11) dX10_wakingNoise_11 (by omega) (by omega) ?_
  refine j_iconst (pc := 12) dX10_wakingNoise_12 ?_
  refine j_icmp_ne (pc := 13) 23 dX10_wakingNoise_13 (by decide) (by omega) (by omega) (fun h_13 => ?_) (fun h_13 => ?_)
  · refine j_iload (pc := 23) dX10_wakingNoise_23 rfl ?_
    refine j_reti dX10_wakingNoise_25 (?_) rfl
    refine ⟨?_, rfl⟩
    repeat' split
    all_goals omega
  · refine j_iconst (pc := 16) dX10_wakingNoise_16 ?_
    refine j_iload (pc := 17) dX10_wakingNoise_17 rfl ?_
    refine j_imul (pc := 19) dX10_wakingNoise_19 ?_
    refine j_goto (pc := 20) 25 dX10_wakingNoise_20 (by decide) ?_
    refine j_reti dX10_wakingNoise_25 (?_) rfl
    refine ⟨?_, rfl⟩
    repeat' split
    all_goals omega
/-- a house of the class tells what the reference's row tells -/
def hR (f : Nat → Int) (I : jMI) (H : Nat) : Prop := I H 9 = f 5 ∧ I H 10 = f 21 ∧ (∀ a b, a < 8 → b < 8 → I (H + 8) (8 * a + b) = cr f a b) ∧ (∀ a b, a < 8 → b < 8 → isD (edg f) a b 100 (I (H + 9) (8 * a + b))) ∧ (∀ s : Nat, (s : Int) < f 5 → I (H + 10) s = f (6 + s) ∧ I (H + 11) s = f (11 + s) ∧ I (H + 12) s = f (16 + s)) ∧ (∀ t : Nat, (t : Int) < f 21 → I (H + 13) t = f (22 + t) ∧ I (H + 14) t = f (27 + t) ∧ ∀ k : Nat, (k : Int) < f (27 + t) → I (H + 15) (4 * t + k) = f (32 + 4 * t + k))
/-- the least noise in a room that wakes sleeper s -/
def isLn (f : Nat → Int) (s room : Nat) (mi r : Int) : Prop := ∃ g, isD (edg f) room (f (11 + s)).toNat 100 g ∧ r = wk (f (6 + s)) (f (16 + s)) mi ((room : Int) = f (11 + s)) + 2 * g
theorem isD_rng {e : Nat → Nat → Prop} {a b : Nat} {v : Int} (h : isD e a b 100 v) : 0 ≤ v ∧ v ≤ 100 := by
  rcases h with ⟨h, -⟩ | ⟨k, h, h7, -⟩ <;> omega
theorem isLn_rng {f : Nat → Int} {s room : Nat} {mi r : Int} (he : 0 ≤ f (16 + s) ∧ f (16 + s) ≤ 9) (h : isLn f s room mi r) : 1 ≤ r ∧ r ≤ 228 := by
  obtain ⟨g, hg, rfl⟩ := h
  have h1 := isD_rng hg
  have h2 := wk_rng (kind := f (6 + s)) (minute := mi) (own := (room : Int) = f (11 + s)) he
  omega
theorem isLn_w {f : Nat → Int} {s room : Nat} {mi r n : Int} (hr : room < 8) (he : 0 ≤ f (16 + s) ∧ f (16 + s) ≤ 9) (hn : n ≤ 30) (h : isLn f s room mi r) : r ≤ n ↔ wkB f n room mi s := by
  obtain ⟨g, hg, rfl⟩ := h
  have h2 := wk_rng (kind := f (6 + s)) (minute := mi) (own := (room : Int) = f (11 + s)) he
  have h3 := dst_is f (f (11 + s)).toNat hr
  unfold wkB wkS
  rcases isD_uniq hg h3 with ⟨e1, e2⟩ | ⟨e1, e2, e3⟩
  · constructor
    · intro h; omega
    · rintro ⟨h4, h5⟩; omega
  · constructor
    · intro h; exact ⟨by omega, by omega⟩
    · rintro ⟨h4, h5⟩; omega
theorem okSt_sl3 {f : Nat → Int} (h : okSt f) {s : Nat} (hs : s < 5) : (0 ≤ f (6 + s) ∧ f (6 + s) ≤ 5) ∧ (0 ≤ f (11 + s) ∧ f (11 + s) ≤ 7) ∧ (0 ≤ f (16 + s) ∧ f (16 + s) ≤ 9) := by
  have h1 := h (6 + s) (by omega)
  have h2 := h (11 + s) (by omega)
  have h3 := h (16 + s) (by omega)
  unfold stLo stHi at h1 h2 h3
  refine ⟨by omega, by omega, by omega⟩
theorem c_least0 (X : jX) (I : jMI) (f : Nat → Int) (s room : Nat) (mi : Int) (hH : hR f I 2) (hok : okSt f) (hs : (s : Int) < f 5) (hs5 : s < 5) (hr : room < 8) (hm : 0 ≤ mi ∧ mi ≤ 59) (hk : f (6 + s) = 0) : C_X2_leastNoise X [jR 2, jI s, jI room, jI mi] I (fun r I' => isLn f s room mi r ∧ I' = I) := by
  refine CG.of (by decide) [some (jR 2), some (jI s), some (jI room), some (jI mi), none, none] rfl (Nat.le_of_ble_eq_true rfl) ?_
  obtain ⟨a1, a2, a3, a4, a5, a6⟩ := hH
  have h5 := okSt_sl3 hok hs5
  obtain ⟨b1, b2, b3⟩ := a5 s hs
  obtain ⟨w, hw⟩ := Int.eq_ofNat_of_zero_le h5.2.1.1
  have hgap := a4 room w hr (by omega)
  have hgr := isD_rng hgap
  have k37 : ∀ o : Int, ((o = 1 ∧ (room : Int) = f (11 + s)) ∨ (o = 0 ∧ ¬ (room : Int) = f (11 + s))) → S_X2_leastNoise X 37 [some (jR 2), some (jI s), some (jI room), some (jI mi), some (jR 4), none] [jI o, jI mi, jI (f (16 + s)), jR 4] I (fun r I' => isLn f s room mi r ∧ I' = I) := by
    intro o ho2
    have ho : o = 0 ∨ o = 1 := by omega
    refine j_goI (pc := 37) (j_runV k_X2_86 m_X7_wakingNoise (c_wn7 X I 4 (f (16 + s)) mi o) dX2_leastNoise_37 rfl (by decide) rfl (by decide) (by decide) rfl rfl (Nat.le_of_ble_eq_true rfl)) (fun r1 I1 h1 => ?_)
    obtain ⟨h1, rfl⟩ := h1
    refine j_istore5 (pc := 40) dX2_leastNoise_40 (by decide) rfl ?_
    refine j_iload (pc := 42) dX2_leastNoise_42 rfl ?_
    refine j_iconst (pc := 44) dX2_leastNoise_44 ?_
    refine j_aload_n (pc := 45) dX2_leastNoise_45 rfl ?_
    refine j_getR (pc := 46) f_X2_37 dX2_leastNoise_46 rfl rfl (by decide) rfl ?_
    refine j_iload_n (pc := 49) dX2_leastNoise_49 rfl ?_
    refine j_aload_n (pc := 50) dX2_leastNoise_50 rfl ?_
    refine j_getR (pc := 51) f_X2_43 dX2_leastNoise_51 rfl rfl (by decide) rfl ?_
    refine j_iload_n (pc := 54) dX2_leastNoise_54 rfl ?_
    refine j_iald_b (pc := 55) (s) dX2_leastNoise_55 rfl (by decide) (by decide) (by omega) (by omega) ?_
    rw [b2, hw]
    refine j_goI (pc := 56) (j_runSN k_X2_77 m_X11_pair (c_pair X I1 room w) dX2_leastNoise_56 (by decide) rfl rfl (Nat.le_of_ble_eq_true rfl)) (fun r2 I2 h2 => ?_)
    obtain ⟨rfl, rfl⟩ := h2
    refine j_iald_b (pc := 59) (8 * room + w) dX2_leastNoise_59 rfl (by decide) (by decide) (by omega) (by omega) ?_
    refine j_imul (pc := 60) dX2_leastNoise_60 ?_
    refine j_iadd (pc := 61) dX2_leastNoise_61 ?_
    refine j_reti dX2_leastNoise_62 (?_) rfl
    refine ⟨⟨_, by rw [hw, Int.toNat_natCast]; exact hgap, ?_⟩, rfl⟩
    rw [h1]
    have e : wk (f (6 + s)) (f (16 + s)) mi ((room : Int) = f (11 + s)) = r1 := by
      rw [h1]
      unfold wk
      rw [hk]
      repeat' split
      all_goals omega
    rw [e, h1]
  refine j_aload_n (pc := 0) dX2_leastNoise_0 rfl ?_
  refine j_getR (pc := 1) f_X2_27 dX2_leastNoise_1 rfl rfl (by decide) rfl ?_
  refine j_aload_n (pc := 4) dX2_leastNoise_4 rfl ?_
  refine j_getR (pc := 5) f_X2_40 dX2_leastNoise_5 rfl rfl (by decide) rfl ?_
  refine j_iload_n (pc := 8) dX2_leastNoise_8 rfl ?_
  refine j_iald_b (pc := 9) (s) dX2_leastNoise_9 rfl (by decide) (by decide) (by omega) (by omega) ?_
  rw [b1, hk]
  refine j_aald (pc := 10) 4 dX2_leastNoise_10 rfl rfl (by decide) (by omega) (rfl) (by decide) ?_
  refine j_astore4 (pc := 11) dX2_leastNoise_11 (by decide) rfl ?_
  refine j_aload (pc := 13) dX2_leastNoise_13 rfl ?_
  refine j_aload_n (pc := 15) dX2_leastNoise_15 rfl ?_
  refine j_getR (pc := 16) f_X2_46 dX2_leastNoise_16 rfl rfl (by decide) rfl ?_
  refine j_iload_n (pc := 19) dX2_leastNoise_19 rfl ?_
  refine j_iald_b (pc := 20) (s) dX2_leastNoise_20 rfl (by decide) (by decide) (by omega) (by omega) ?_
  rw [b3]
  refine j_iload_n (pc := 21) dX2_leastNoise_21 rfl ?_
  refine j_aload_n (pc := 22) dX2_leastNoise_22 rfl ?_
  refine j_getR (pc := 23) f_X2_43 dX2_leastNoise_23 rfl rfl (by decide) rfl ?_
  refine j_iload_n (pc := 26) dX2_leastNoise_26 rfl ?_
  refine j_iald_b (pc := 27) (s) dX2_leastNoise_27 rfl (by decide) (by decide) (by omega) (by omega) ?_
  rw [b2]
  refine j_iload_n (pc := 28) dX2_leastNoise_28 rfl ?_
  refine j_icmp_ne (pc := 29) 36 dX2_leastNoise_29 (by decide) (by omega) (by omega) (fun h_29 => ?_) (fun h_29 => ?_)
  · refine j_iconst (pc := 36) dX2_leastNoise_36 ?_
    exact k37 _ (by first | exact Or.inl ⟨rfl, by omega⟩ | exact Or.inr ⟨rfl, by omega⟩)
  · refine j_iconst (pc := 32) dX2_leastNoise_32 ?_
    refine j_goto (pc := 33) 37 dX2_leastNoise_33 (by decide) ?_
    exact k37 _ (by first | exact Or.inl ⟨rfl, by omega⟩ | exact Or.inr ⟨rfl, by omega⟩)
theorem c_least1 (X : jX) (I : jMI) (f : Nat → Int) (s room : Nat) (mi : Int) (hH : hR f I 2) (hok : okSt f) (hs : (s : Int) < f 5) (hs5 : s < 5) (hr : room < 8) (hm : 0 ≤ mi ∧ mi ≤ 59) (hk : f (6 + s) = 1) : C_X2_leastNoise X [jR 2, jI s, jI room, jI mi] I (fun r I' => isLn f s room mi r ∧ I' = I) := by
  refine CG.of (by decide) [some (jR 2), some (jI s), some (jI room), some (jI mi), none, none] rfl (Nat.le_of_ble_eq_true rfl) ?_
  obtain ⟨a1, a2, a3, a4, a5, a6⟩ := hH
  have h5 := okSt_sl3 hok hs5
  obtain ⟨b1, b2, b3⟩ := a5 s hs
  obtain ⟨w, hw⟩ := Int.eq_ofNat_of_zero_le h5.2.1.1
  have hgap := a4 room w hr (by omega)
  have hgr := isD_rng hgap
  have k37 : ∀ o : Int, ((o = 1 ∧ (room : Int) = f (11 + s)) ∨ (o = 0 ∧ ¬ (room : Int) = f (11 + s))) → S_X2_leastNoise X 37 [some (jR 2), some (jI s), some (jI room), some (jI mi), some (jR 5), none] [jI o, jI mi, jI (f (16 + s)), jR 5] I (fun r I' => isLn f s room mi r ∧ I' = I) := by
    intro o ho2
    have ho : o = 0 ∨ o = 1 := by omega
    refine j_goI (pc := 37) (j_runO k_X2_86_X3 m_X3_wakingNoise (c_wn3_5 X I (f (16 + s)) mi o h5.2.2) dX2_leastNoise_37 rfl (by decide) (by decide) (by decide) rfl rfl (Nat.le_of_ble_eq_true rfl)) (fun r1 I1 h1 => ?_)
    obtain ⟨h1, rfl⟩ := h1
    refine j_istore5 (pc := 40) dX2_leastNoise_40 (by decide) rfl ?_
    refine j_iload (pc := 42) dX2_leastNoise_42 rfl ?_
    refine j_iconst (pc := 44) dX2_leastNoise_44 ?_
    refine j_aload_n (pc := 45) dX2_leastNoise_45 rfl ?_
    refine j_getR (pc := 46) f_X2_37 dX2_leastNoise_46 rfl rfl (by decide) rfl ?_
    refine j_iload_n (pc := 49) dX2_leastNoise_49 rfl ?_
    refine j_aload_n (pc := 50) dX2_leastNoise_50 rfl ?_
    refine j_getR (pc := 51) f_X2_43 dX2_leastNoise_51 rfl rfl (by decide) rfl ?_
    refine j_iload_n (pc := 54) dX2_leastNoise_54 rfl ?_
    refine j_iald_b (pc := 55) (s) dX2_leastNoise_55 rfl (by decide) (by decide) (by omega) (by omega) ?_
    rw [b2, hw]
    refine j_goI (pc := 56) (j_runSN k_X2_77 m_X11_pair (c_pair X I1 room w) dX2_leastNoise_56 (by decide) rfl rfl (Nat.le_of_ble_eq_true rfl)) (fun r2 I2 h2 => ?_)
    obtain ⟨rfl, rfl⟩ := h2
    refine j_iald_b (pc := 59) (8 * room + w) dX2_leastNoise_59 rfl (by decide) (by decide) (by omega) (by omega) ?_
    refine j_imul (pc := 60) dX2_leastNoise_60 ?_
    refine j_iadd (pc := 61) dX2_leastNoise_61 ?_
    refine j_reti dX2_leastNoise_62 (?_) rfl
    refine ⟨⟨_, by rw [hw, Int.toNat_natCast]; exact hgap, ?_⟩, rfl⟩
    rw [h1]
    have e : wk (f (6 + s)) (f (16 + s)) mi ((room : Int) = f (11 + s)) = r1 := by
      rw [h1]
      unfold wk
      rw [hk]
      repeat' split
      all_goals omega
    rw [e, h1]
  refine j_aload_n (pc := 0) dX2_leastNoise_0 rfl ?_
  refine j_getR (pc := 1) f_X2_27 dX2_leastNoise_1 rfl rfl (by decide) rfl ?_
  refine j_aload_n (pc := 4) dX2_leastNoise_4 rfl ?_
  refine j_getR (pc := 5) f_X2_40 dX2_leastNoise_5 rfl rfl (by decide) rfl ?_
  refine j_iload_n (pc := 8) dX2_leastNoise_8 rfl ?_
  refine j_iald_b (pc := 9) (s) dX2_leastNoise_9 rfl (by decide) (by decide) (by omega) (by omega) ?_
  rw [b1, hk]
  refine j_aald (pc := 10) 4 dX2_leastNoise_10 rfl rfl (by decide) (by omega) (rfl) (by decide) ?_
  refine j_astore4 (pc := 11) dX2_leastNoise_11 (by decide) rfl ?_
  refine j_aload (pc := 13) dX2_leastNoise_13 rfl ?_
  refine j_aload_n (pc := 15) dX2_leastNoise_15 rfl ?_
  refine j_getR (pc := 16) f_X2_46 dX2_leastNoise_16 rfl rfl (by decide) rfl ?_
  refine j_iload_n (pc := 19) dX2_leastNoise_19 rfl ?_
  refine j_iald_b (pc := 20) (s) dX2_leastNoise_20 rfl (by decide) (by decide) (by omega) (by omega) ?_
  rw [b3]
  refine j_iload_n (pc := 21) dX2_leastNoise_21 rfl ?_
  refine j_aload_n (pc := 22) dX2_leastNoise_22 rfl ?_
  refine j_getR (pc := 23) f_X2_43 dX2_leastNoise_23 rfl rfl (by decide) rfl ?_
  refine j_iload_n (pc := 26) dX2_leastNoise_26 rfl ?_
  refine j_iald_b (pc := 27) (s) dX2_leastNoise_27 rfl (by decide) (by decide) (by omega) (by omega) ?_
  rw [b2]
  refine j_iload_n (pc := 28) dX2_leastNoise_28 rfl ?_
  refine j_icmp_ne (pc := 29) 36 dX2_leastNoise_29 (by decide) (by omega) (by omega) (fun h_29 => ?_) (fun h_29 => ?_)
  · refine j_iconst (pc := 36) dX2_leastNoise_36 ?_
    exact k37 _ (by first | exact Or.inl ⟨rfl, by omega⟩ | exact Or.inr ⟨rfl, by omega⟩)
  · refine j_iconst (pc := 32) dX2_leastNoise_32 ?_
    refine j_goto (pc := 33) 37 dX2_leastNoise_33 (by decide) ?_
    exact k37 _ (by first | exact Or.inl ⟨rfl, by omega⟩ | exact Or.inr ⟨rfl, by omega⟩)
theorem c_least2 (X : jX) (I : jMI) (f : Nat → Int) (s room : Nat) (mi : Int) (hH : hR f I 2) (hok : okSt f) (hs : (s : Int) < f 5) (hs5 : s < 5) (hr : room < 8) (hm : 0 ≤ mi ∧ mi ≤ 59) (hk : f (6 + s) = 2) : C_X2_leastNoise X [jR 2, jI s, jI room, jI mi] I (fun r I' => isLn f s room mi r ∧ I' = I) := by
  refine CG.of (by decide) [some (jR 2), some (jI s), some (jI room), some (jI mi), none, none] rfl (Nat.le_of_ble_eq_true rfl) ?_
  obtain ⟨a1, a2, a3, a4, a5, a6⟩ := hH
  have h5 := okSt_sl3 hok hs5
  obtain ⟨b1, b2, b3⟩ := a5 s hs
  obtain ⟨w, hw⟩ := Int.eq_ofNat_of_zero_le h5.2.1.1
  have hgap := a4 room w hr (by omega)
  have hgr := isD_rng hgap
  have k37 : ∀ o : Int, ((o = 1 ∧ (room : Int) = f (11 + s)) ∨ (o = 0 ∧ ¬ (room : Int) = f (11 + s))) → S_X2_leastNoise X 37 [some (jR 2), some (jI s), some (jI room), some (jI mi), some (jR 6), none] [jI o, jI mi, jI (f (16 + s)), jR 6] I (fun r I' => isLn f s room mi r ∧ I' = I) := by
    intro o ho2
    have ho : o = 0 ∨ o = 1 := by omega
    refine j_goI (pc := 37) (j_runO k_X2_86_X5 m_X5_wakingNoise (c_wn5_6 X I (f (16 + s)) mi o h5.2.2 hm) dX2_leastNoise_37 rfl (by decide) (by decide) (by decide) rfl rfl (Nat.le_of_ble_eq_true rfl)) (fun r1 I1 h1 => ?_)
    obtain ⟨h1, rfl⟩ := h1
    refine j_istore5 (pc := 40) dX2_leastNoise_40 (by decide) rfl ?_
    refine j_iload (pc := 42) dX2_leastNoise_42 rfl ?_
    refine j_iconst (pc := 44) dX2_leastNoise_44 ?_
    refine j_aload_n (pc := 45) dX2_leastNoise_45 rfl ?_
    refine j_getR (pc := 46) f_X2_37 dX2_leastNoise_46 rfl rfl (by decide) rfl ?_
    refine j_iload_n (pc := 49) dX2_leastNoise_49 rfl ?_
    refine j_aload_n (pc := 50) dX2_leastNoise_50 rfl ?_
    refine j_getR (pc := 51) f_X2_43 dX2_leastNoise_51 rfl rfl (by decide) rfl ?_
    refine j_iload_n (pc := 54) dX2_leastNoise_54 rfl ?_
    refine j_iald_b (pc := 55) (s) dX2_leastNoise_55 rfl (by decide) (by decide) (by omega) (by omega) ?_
    rw [b2, hw]
    refine j_goI (pc := 56) (j_runSN k_X2_77 m_X11_pair (c_pair X I1 room w) dX2_leastNoise_56 (by decide) rfl rfl (Nat.le_of_ble_eq_true rfl)) (fun r2 I2 h2 => ?_)
    obtain ⟨rfl, rfl⟩ := h2
    refine j_iald_b (pc := 59) (8 * room + w) dX2_leastNoise_59 rfl (by decide) (by decide) (by omega) (by omega) ?_
    refine j_imul (pc := 60) dX2_leastNoise_60 ?_
    refine j_iadd (pc := 61) dX2_leastNoise_61 ?_
    refine j_reti dX2_leastNoise_62 (?_) rfl
    refine ⟨⟨_, by rw [hw, Int.toNat_natCast]; exact hgap, ?_⟩, rfl⟩
    rw [h1]
    have e : wk (f (6 + s)) (f (16 + s)) mi ((room : Int) = f (11 + s)) = r1 := by
      rw [h1]
      unfold wk
      rw [hk]
      repeat' split
      all_goals omega
    rw [e, h1]
  refine j_aload_n (pc := 0) dX2_leastNoise_0 rfl ?_
  refine j_getR (pc := 1) f_X2_27 dX2_leastNoise_1 rfl rfl (by decide) rfl ?_
  refine j_aload_n (pc := 4) dX2_leastNoise_4 rfl ?_
  refine j_getR (pc := 5) f_X2_40 dX2_leastNoise_5 rfl rfl (by decide) rfl ?_
  refine j_iload_n (pc := 8) dX2_leastNoise_8 rfl ?_
  refine j_iald_b (pc := 9) (s) dX2_leastNoise_9 rfl (by decide) (by decide) (by omega) (by omega) ?_
  rw [b1, hk]
  refine j_aald (pc := 10) 4 dX2_leastNoise_10 rfl rfl (by decide) (by omega) (rfl) (by decide) ?_
  refine j_astore4 (pc := 11) dX2_leastNoise_11 (by decide) rfl ?_
  refine j_aload (pc := 13) dX2_leastNoise_13 rfl ?_
  refine j_aload_n (pc := 15) dX2_leastNoise_15 rfl ?_
  refine j_getR (pc := 16) f_X2_46 dX2_leastNoise_16 rfl rfl (by decide) rfl ?_
  refine j_iload_n (pc := 19) dX2_leastNoise_19 rfl ?_
  refine j_iald_b (pc := 20) (s) dX2_leastNoise_20 rfl (by decide) (by decide) (by omega) (by omega) ?_
  rw [b3]
  refine j_iload_n (pc := 21) dX2_leastNoise_21 rfl ?_
  refine j_aload_n (pc := 22) dX2_leastNoise_22 rfl ?_
  refine j_getR (pc := 23) f_X2_43 dX2_leastNoise_23 rfl rfl (by decide) rfl ?_
  refine j_iload_n (pc := 26) dX2_leastNoise_26 rfl ?_
  refine j_iald_b (pc := 27) (s) dX2_leastNoise_27 rfl (by decide) (by decide) (by omega) (by omega) ?_
  rw [b2]
  refine j_iload_n (pc := 28) dX2_leastNoise_28 rfl ?_
  refine j_icmp_ne (pc := 29) 36 dX2_leastNoise_29 (by decide) (by omega) (by omega) (fun h_29 => ?_) (fun h_29 => ?_)
  · refine j_iconst (pc := 36) dX2_leastNoise_36 ?_
    exact k37 _ (by first | exact Or.inl ⟨rfl, by omega⟩ | exact Or.inr ⟨rfl, by omega⟩)
  · refine j_iconst (pc := 32) dX2_leastNoise_32 ?_
    refine j_goto (pc := 33) 37 dX2_leastNoise_33 (by decide) ?_
    exact k37 _ (by first | exact Or.inl ⟨rfl, by omega⟩ | exact Or.inr ⟨rfl, by omega⟩)
theorem c_least3 (X : jX) (I : jMI) (f : Nat → Int) (s room : Nat) (mi : Int) (hH : hR f I 2) (hok : okSt f) (hs : (s : Int) < f 5) (hs5 : s < 5) (hr : room < 8) (hm : 0 ≤ mi ∧ mi ≤ 59) (hk : f (6 + s) = 3) : C_X2_leastNoise X [jR 2, jI s, jI room, jI mi] I (fun r I' => isLn f s room mi r ∧ I' = I) := by
  refine CG.of (by decide) [some (jR 2), some (jI s), some (jI room), some (jI mi), none, none] rfl (Nat.le_of_ble_eq_true rfl) ?_
  obtain ⟨a1, a2, a3, a4, a5, a6⟩ := hH
  have h5 := okSt_sl3 hok hs5
  obtain ⟨b1, b2, b3⟩ := a5 s hs
  obtain ⟨w, hw⟩ := Int.eq_ofNat_of_zero_le h5.2.1.1
  have hgap := a4 room w hr (by omega)
  have hgr := isD_rng hgap
  have k37 : ∀ o : Int, ((o = 1 ∧ (room : Int) = f (11 + s)) ∨ (o = 0 ∧ ¬ (room : Int) = f (11 + s))) → S_X2_leastNoise X 37 [some (jR 2), some (jI s), some (jI room), some (jI mi), some (jR 7), none] [jI o, jI mi, jI (f (16 + s)), jR 7] I (fun r I' => isLn f s room mi r ∧ I' = I) := by
    intro o ho2
    have ho : o = 0 ∨ o = 1 := by omega
    refine j_goI (pc := 37) (j_runO k_X2_86_X0 m_X0_wakingNoise (c_wn0 X I (f (16 + s)) mi o h5.2.2 ho) dX2_leastNoise_37 rfl (by decide) (by decide) (by decide) rfl rfl (Nat.le_of_ble_eq_true rfl)) (fun r1 I1 h1 => ?_)
    obtain ⟨h1, rfl⟩ := h1
    refine j_istore5 (pc := 40) dX2_leastNoise_40 (by decide) rfl ?_
    refine j_iload (pc := 42) dX2_leastNoise_42 rfl ?_
    refine j_iconst (pc := 44) dX2_leastNoise_44 ?_
    refine j_aload_n (pc := 45) dX2_leastNoise_45 rfl ?_
    refine j_getR (pc := 46) f_X2_37 dX2_leastNoise_46 rfl rfl (by decide) rfl ?_
    refine j_iload_n (pc := 49) dX2_leastNoise_49 rfl ?_
    refine j_aload_n (pc := 50) dX2_leastNoise_50 rfl ?_
    refine j_getR (pc := 51) f_X2_43 dX2_leastNoise_51 rfl rfl (by decide) rfl ?_
    refine j_iload_n (pc := 54) dX2_leastNoise_54 rfl ?_
    refine j_iald_b (pc := 55) (s) dX2_leastNoise_55 rfl (by decide) (by decide) (by omega) (by omega) ?_
    rw [b2, hw]
    refine j_goI (pc := 56) (j_runSN k_X2_77 m_X11_pair (c_pair X I1 room w) dX2_leastNoise_56 (by decide) rfl rfl (Nat.le_of_ble_eq_true rfl)) (fun r2 I2 h2 => ?_)
    obtain ⟨rfl, rfl⟩ := h2
    refine j_iald_b (pc := 59) (8 * room + w) dX2_leastNoise_59 rfl (by decide) (by decide) (by omega) (by omega) ?_
    refine j_imul (pc := 60) dX2_leastNoise_60 ?_
    refine j_iadd (pc := 61) dX2_leastNoise_61 ?_
    refine j_reti dX2_leastNoise_62 (?_) rfl
    refine ⟨⟨_, by rw [hw, Int.toNat_natCast]; exact hgap, ?_⟩, rfl⟩
    rw [h1]
    have e : wk (f (6 + s)) (f (16 + s)) mi ((room : Int) = f (11 + s)) = r1 := by
      rw [h1]
      unfold wk
      rw [hk]
      repeat' split
      all_goals omega
    rw [e, h1]
  refine j_aload_n (pc := 0) dX2_leastNoise_0 rfl ?_
  refine j_getR (pc := 1) f_X2_27 dX2_leastNoise_1 rfl rfl (by decide) rfl ?_
  refine j_aload_n (pc := 4) dX2_leastNoise_4 rfl ?_
  refine j_getR (pc := 5) f_X2_40 dX2_leastNoise_5 rfl rfl (by decide) rfl ?_
  refine j_iload_n (pc := 8) dX2_leastNoise_8 rfl ?_
  refine j_iald_b (pc := 9) (s) dX2_leastNoise_9 rfl (by decide) (by decide) (by omega) (by omega) ?_
  rw [b1, hk]
  refine j_aald (pc := 10) 4 dX2_leastNoise_10 rfl rfl (by decide) (by omega) (rfl) (by decide) ?_
  refine j_astore4 (pc := 11) dX2_leastNoise_11 (by decide) rfl ?_
  refine j_aload (pc := 13) dX2_leastNoise_13 rfl ?_
  refine j_aload_n (pc := 15) dX2_leastNoise_15 rfl ?_
  refine j_getR (pc := 16) f_X2_46 dX2_leastNoise_16 rfl rfl (by decide) rfl ?_
  refine j_iload_n (pc := 19) dX2_leastNoise_19 rfl ?_
  refine j_iald_b (pc := 20) (s) dX2_leastNoise_20 rfl (by decide) (by decide) (by omega) (by omega) ?_
  rw [b3]
  refine j_iload_n (pc := 21) dX2_leastNoise_21 rfl ?_
  refine j_aload_n (pc := 22) dX2_leastNoise_22 rfl ?_
  refine j_getR (pc := 23) f_X2_43 dX2_leastNoise_23 rfl rfl (by decide) rfl ?_
  refine j_iload_n (pc := 26) dX2_leastNoise_26 rfl ?_
  refine j_iald_b (pc := 27) (s) dX2_leastNoise_27 rfl (by decide) (by decide) (by omega) (by omega) ?_
  rw [b2]
  refine j_iload_n (pc := 28) dX2_leastNoise_28 rfl ?_
  refine j_icmp_ne (pc := 29) 36 dX2_leastNoise_29 (by decide) (by omega) (by omega) (fun h_29 => ?_) (fun h_29 => ?_)
  · refine j_iconst (pc := 36) dX2_leastNoise_36 ?_
    exact k37 _ (by first | exact Or.inl ⟨rfl, by omega⟩ | exact Or.inr ⟨rfl, by omega⟩)
  · refine j_iconst (pc := 32) dX2_leastNoise_32 ?_
    refine j_goto (pc := 33) 37 dX2_leastNoise_33 (by decide) ?_
    exact k37 _ (by first | exact Or.inl ⟨rfl, by omega⟩ | exact Or.inr ⟨rfl, by omega⟩)
theorem c_least4 (X : jX) (I : jMI) (f : Nat → Int) (s room : Nat) (mi : Int) (hH : hR f I 2) (hok : okSt f) (hs : (s : Int) < f 5) (hs5 : s < 5) (hr : room < 8) (hm : 0 ≤ mi ∧ mi ≤ 59) (hk : f (6 + s) = 4) : C_X2_leastNoise X [jR 2, jI s, jI room, jI mi] I (fun r I' => isLn f s room mi r ∧ I' = I) := by
  refine CG.of (by decide) [some (jR 2), some (jI s), some (jI room), some (jI mi), none, none] rfl (Nat.le_of_ble_eq_true rfl) ?_
  obtain ⟨a1, a2, a3, a4, a5, a6⟩ := hH
  have h5 := okSt_sl3 hok hs5
  obtain ⟨b1, b2, b3⟩ := a5 s hs
  obtain ⟨w, hw⟩ := Int.eq_ofNat_of_zero_le h5.2.1.1
  have hgap := a4 room w hr (by omega)
  have hgr := isD_rng hgap
  have k37 : ∀ o : Int, ((o = 1 ∧ (room : Int) = f (11 + s)) ∨ (o = 0 ∧ ¬ (room : Int) = f (11 + s))) → S_X2_leastNoise X 37 [some (jR 2), some (jI s), some (jI room), some (jI mi), some (jR 8), none] [jI o, jI mi, jI (f (16 + s)), jR 8] I (fun r I' => isLn f s room mi r ∧ I' = I) := by
    intro o ho2
    have ho : o = 0 ∨ o = 1 := by omega
    refine j_goI (pc := 37) (j_runO k_X2_86_X6 m_X6_wakingNoise (c_wn6 X I (f (16 + s)) mi o h5.2.2 hm) dX2_leastNoise_37 rfl (by decide) (by decide) (by decide) rfl rfl (Nat.le_of_ble_eq_true rfl)) (fun r1 I1 h1 => ?_)
    obtain ⟨h1, rfl⟩ := h1
    refine j_istore5 (pc := 40) dX2_leastNoise_40 (by decide) rfl ?_
    refine j_iload (pc := 42) dX2_leastNoise_42 rfl ?_
    refine j_iconst (pc := 44) dX2_leastNoise_44 ?_
    refine j_aload_n (pc := 45) dX2_leastNoise_45 rfl ?_
    refine j_getR (pc := 46) f_X2_37 dX2_leastNoise_46 rfl rfl (by decide) rfl ?_
    refine j_iload_n (pc := 49) dX2_leastNoise_49 rfl ?_
    refine j_aload_n (pc := 50) dX2_leastNoise_50 rfl ?_
    refine j_getR (pc := 51) f_X2_43 dX2_leastNoise_51 rfl rfl (by decide) rfl ?_
    refine j_iload_n (pc := 54) dX2_leastNoise_54 rfl ?_
    refine j_iald_b (pc := 55) (s) dX2_leastNoise_55 rfl (by decide) (by decide) (by omega) (by omega) ?_
    rw [b2, hw]
    refine j_goI (pc := 56) (j_runSN k_X2_77 m_X11_pair (c_pair X I1 room w) dX2_leastNoise_56 (by decide) rfl rfl (Nat.le_of_ble_eq_true rfl)) (fun r2 I2 h2 => ?_)
    obtain ⟨rfl, rfl⟩ := h2
    refine j_iald_b (pc := 59) (8 * room + w) dX2_leastNoise_59 rfl (by decide) (by decide) (by omega) (by omega) ?_
    refine j_imul (pc := 60) dX2_leastNoise_60 ?_
    refine j_iadd (pc := 61) dX2_leastNoise_61 ?_
    refine j_reti dX2_leastNoise_62 (?_) rfl
    refine ⟨⟨_, by rw [hw, Int.toNat_natCast]; exact hgap, ?_⟩, rfl⟩
    rw [h1]
    have e : wk (f (6 + s)) (f (16 + s)) mi ((room : Int) = f (11 + s)) = r1 := by
      rw [h1]
      unfold wk
      rw [hk]
      repeat' split
      all_goals omega
    rw [e, h1]
  refine j_aload_n (pc := 0) dX2_leastNoise_0 rfl ?_
  refine j_getR (pc := 1) f_X2_27 dX2_leastNoise_1 rfl rfl (by decide) rfl ?_
  refine j_aload_n (pc := 4) dX2_leastNoise_4 rfl ?_
  refine j_getR (pc := 5) f_X2_40 dX2_leastNoise_5 rfl rfl (by decide) rfl ?_
  refine j_iload_n (pc := 8) dX2_leastNoise_8 rfl ?_
  refine j_iald_b (pc := 9) (s) dX2_leastNoise_9 rfl (by decide) (by decide) (by omega) (by omega) ?_
  rw [b1, hk]
  refine j_aald (pc := 10) 4 dX2_leastNoise_10 rfl rfl (by decide) (by omega) (rfl) (by decide) ?_
  refine j_astore4 (pc := 11) dX2_leastNoise_11 (by decide) rfl ?_
  refine j_aload (pc := 13) dX2_leastNoise_13 rfl ?_
  refine j_aload_n (pc := 15) dX2_leastNoise_15 rfl ?_
  refine j_getR (pc := 16) f_X2_46 dX2_leastNoise_16 rfl rfl (by decide) rfl ?_
  refine j_iload_n (pc := 19) dX2_leastNoise_19 rfl ?_
  refine j_iald_b (pc := 20) (s) dX2_leastNoise_20 rfl (by decide) (by decide) (by omega) (by omega) ?_
  rw [b3]
  refine j_iload_n (pc := 21) dX2_leastNoise_21 rfl ?_
  refine j_aload_n (pc := 22) dX2_leastNoise_22 rfl ?_
  refine j_getR (pc := 23) f_X2_43 dX2_leastNoise_23 rfl rfl (by decide) rfl ?_
  refine j_iload_n (pc := 26) dX2_leastNoise_26 rfl ?_
  refine j_iald_b (pc := 27) (s) dX2_leastNoise_27 rfl (by decide) (by decide) (by omega) (by omega) ?_
  rw [b2]
  refine j_iload_n (pc := 28) dX2_leastNoise_28 rfl ?_
  refine j_icmp_ne (pc := 29) 36 dX2_leastNoise_29 (by decide) (by omega) (by omega) (fun h_29 => ?_) (fun h_29 => ?_)
  · refine j_iconst (pc := 36) dX2_leastNoise_36 ?_
    exact k37 _ (by first | exact Or.inl ⟨rfl, by omega⟩ | exact Or.inr ⟨rfl, by omega⟩)
  · refine j_iconst (pc := 32) dX2_leastNoise_32 ?_
    refine j_goto (pc := 33) 37 dX2_leastNoise_33 (by decide) ?_
    exact k37 _ (by first | exact Or.inl ⟨rfl, by omega⟩ | exact Or.inr ⟨rfl, by omega⟩)
theorem c_least5 (X : jX) (I : jMI) (f : Nat → Int) (s room : Nat) (mi : Int) (hH : hR f I 2) (hok : okSt f) (hs : (s : Int) < f 5) (hs5 : s < 5) (hr : room < 8) (hm : 0 ≤ mi ∧ mi ≤ 59) (hk : f (6 + s) = 5) : C_X2_leastNoise X [jR 2, jI s, jI room, jI mi] I (fun r I' => isLn f s room mi r ∧ I' = I) := by
  refine CG.of (by decide) [some (jR 2), some (jI s), some (jI room), some (jI mi), none, none] rfl (Nat.le_of_ble_eq_true rfl) ?_
  obtain ⟨a1, a2, a3, a4, a5, a6⟩ := hH
  have h5 := okSt_sl3 hok hs5
  obtain ⟨b1, b2, b3⟩ := a5 s hs
  obtain ⟨w, hw⟩ := Int.eq_ofNat_of_zero_le h5.2.1.1
  have hgap := a4 room w hr (by omega)
  have hgr := isD_rng hgap
  have k37 : ∀ o : Int, ((o = 1 ∧ (room : Int) = f (11 + s)) ∨ (o = 0 ∧ ¬ (room : Int) = f (11 + s))) → S_X2_leastNoise X 37 [some (jR 2), some (jI s), some (jI room), some (jI mi), some (jR 9), none] [jI o, jI mi, jI (f (16 + s)), jR 9] I (fun r I' => isLn f s room mi r ∧ I' = I) := by
    intro o ho2
    have ho : o = 0 ∨ o = 1 := by omega
    refine j_goI (pc := 37) (j_runO k_X2_86_X10 m_X10_wakingNoise (c_wn10 X I (f (16 + s)) mi o h5.2.2 hm) dX2_leastNoise_37 rfl (by decide) (by decide) (by decide) rfl rfl (Nat.le_of_ble_eq_true rfl)) (fun r1 I1 h1 => ?_)
    obtain ⟨h1, rfl⟩ := h1
    refine j_istore5 (pc := 40) dX2_leastNoise_40 (by decide) rfl ?_
    refine j_iload (pc := 42) dX2_leastNoise_42 rfl ?_
    refine j_iconst (pc := 44) dX2_leastNoise_44 ?_
    refine j_aload_n (pc := 45) dX2_leastNoise_45 rfl ?_
    refine j_getR (pc := 46) f_X2_37 dX2_leastNoise_46 rfl rfl (by decide) rfl ?_
    refine j_iload_n (pc := 49) dX2_leastNoise_49 rfl ?_
    refine j_aload_n (pc := 50) dX2_leastNoise_50 rfl ?_
    refine j_getR (pc := 51) f_X2_43 dX2_leastNoise_51 rfl rfl (by decide) rfl ?_
    refine j_iload_n (pc := 54) dX2_leastNoise_54 rfl ?_
    refine j_iald_b (pc := 55) (s) dX2_leastNoise_55 rfl (by decide) (by decide) (by omega) (by omega) ?_
    rw [b2, hw]
    refine j_goI (pc := 56) (j_runSN k_X2_77 m_X11_pair (c_pair X I1 room w) dX2_leastNoise_56 (by decide) rfl rfl (Nat.le_of_ble_eq_true rfl)) (fun r2 I2 h2 => ?_)
    obtain ⟨rfl, rfl⟩ := h2
    refine j_iald_b (pc := 59) (8 * room + w) dX2_leastNoise_59 rfl (by decide) (by decide) (by omega) (by omega) ?_
    refine j_imul (pc := 60) dX2_leastNoise_60 ?_
    refine j_iadd (pc := 61) dX2_leastNoise_61 ?_
    refine j_reti dX2_leastNoise_62 (?_) rfl
    refine ⟨⟨_, by rw [hw, Int.toNat_natCast]; exact hgap, ?_⟩, rfl⟩
    rw [h1]
    have e : wk (f (6 + s)) (f (16 + s)) mi ((room : Int) = f (11 + s)) = r1 := by
      rw [h1]
      unfold wk
      rw [hk]
      repeat' split
      all_goals omega
    rw [e, h1]
  refine j_aload_n (pc := 0) dX2_leastNoise_0 rfl ?_
  refine j_getR (pc := 1) f_X2_27 dX2_leastNoise_1 rfl rfl (by decide) rfl ?_
  refine j_aload_n (pc := 4) dX2_leastNoise_4 rfl ?_
  refine j_getR (pc := 5) f_X2_40 dX2_leastNoise_5 rfl rfl (by decide) rfl ?_
  refine j_iload_n (pc := 8) dX2_leastNoise_8 rfl ?_
  refine j_iald_b (pc := 9) (s) dX2_leastNoise_9 rfl (by decide) (by decide) (by omega) (by omega) ?_
  rw [b1, hk]
  refine j_aald (pc := 10) 4 dX2_leastNoise_10 rfl rfl (by decide) (by omega) (rfl) (by decide) ?_
  refine j_astore4 (pc := 11) dX2_leastNoise_11 (by decide) rfl ?_
  refine j_aload (pc := 13) dX2_leastNoise_13 rfl ?_
  refine j_aload_n (pc := 15) dX2_leastNoise_15 rfl ?_
  refine j_getR (pc := 16) f_X2_46 dX2_leastNoise_16 rfl rfl (by decide) rfl ?_
  refine j_iload_n (pc := 19) dX2_leastNoise_19 rfl ?_
  refine j_iald_b (pc := 20) (s) dX2_leastNoise_20 rfl (by decide) (by decide) (by omega) (by omega) ?_
  rw [b3]
  refine j_iload_n (pc := 21) dX2_leastNoise_21 rfl ?_
  refine j_aload_n (pc := 22) dX2_leastNoise_22 rfl ?_
  refine j_getR (pc := 23) f_X2_43 dX2_leastNoise_23 rfl rfl (by decide) rfl ?_
  refine j_iload_n (pc := 26) dX2_leastNoise_26 rfl ?_
  refine j_iald_b (pc := 27) (s) dX2_leastNoise_27 rfl (by decide) (by decide) (by omega) (by omega) ?_
  rw [b2]
  refine j_iload_n (pc := 28) dX2_leastNoise_28 rfl ?_
  refine j_icmp_ne (pc := 29) 36 dX2_leastNoise_29 (by decide) (by omega) (by omega) (fun h_29 => ?_) (fun h_29 => ?_)
  · refine j_iconst (pc := 36) dX2_leastNoise_36 ?_
    exact k37 _ (by first | exact Or.inl ⟨rfl, by omega⟩ | exact Or.inr ⟨rfl, by omega⟩)
  · refine j_iconst (pc := 32) dX2_leastNoise_32 ?_
    refine j_goto (pc := 33) 37 dX2_leastNoise_33 (by decide) ?_
    exact k37 _ (by first | exact Or.inl ⟨rfl, by omega⟩ | exact Or.inr ⟨rfl, by omega⟩)
theorem c_least (X : jX) (I : jMI) (f : Nat → Int) (s room : Nat) (mi : Int) (hH : hR f I 2) (hok : okSt f) (hs : (s : Int) < f 5) (hs5 : s < 5) (hr : room < 8) (hm : 0 ≤ mi ∧ mi ≤ 59) : C_X2_leastNoise X [jR 2, jI s, jI room, jI mi] I (fun r I' => isLn f s room mi r ∧ I' = I) := by
  have h5 := okSt_sl3 hok hs5
  rcases (show f (6 + s) = 0 ∨ f (6 + s) = 1 ∨ f (6 + s) = 2 ∨ f (6 + s) = 3 ∨ f (6 + s) = 4 ∨ f (6 + s) = 5 by omega) with h | h | h | h | h | h
  · exact c_least0 X I f s room mi hH hok hs hs5 hr hm h
  · exact c_least1 X I f s room mi hH hok hs hs5 hr hm h
  · exact c_least2 X I f s room mi hH hok hs hs5 hr hm h
  · exact c_least3 X I f s room mi hH hok hs hs5 hr hm h
  · exact c_least4 X I f s room mi hH hok hs hs5 hr hm h
  · exact c_least5 X I f s room mi hH hok hs hs5 hr hm h
