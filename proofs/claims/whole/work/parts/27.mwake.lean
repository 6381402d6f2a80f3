/-! ===== who wakes ===== -/
/-- from which noise heard on one wakes: kind, ears, minute, in its own room -/
def wk (kind ears minute : Int) (own : Prop) [Decidable own] : Int :=
  if kind = 1 then (ears + 2) / 2
  else if kind = 2 then (if minute % 10 = 0 then (ears + 2) / 2 else ears + 2 + 3)
  else if kind = 3 then (if own then 1 else (ears + 2) / 2)
  else if kind = 4 then (if minute < 30 then (ears + 2) / 2 else 2 * ((ears + 2) / 2))
  else if kind = 5 then (if minute % 2 = 1 then 2 * (if minute % 10 = 0 then (ears + 2) / 2 else ears + 2 + 3) else (if minute % 10 = 0 then (ears + 2) / 2 else ears + 2 + 3))
  else ears + 2
theorem wk_rng {kind ears minute : Int} {own : Prop} [Decidable own] (he : 0 ≤ ears ∧ ears ≤ 9) : 1 ≤ wk kind ears minute own ∧ wk kind ears minute own ≤ 28 := by
  unfold wk
  repeat' split
  all_goals omega
theorem c_wakesFrom (X : jX) (I : jMI) (s room : Nat) (mi : Int) (hs : s < 5) (hr : room < 8) (hm : 0 ≤ mi ∧ mi ≤ 59) (hok : okSt (I 106)) : C_X12_wakesFrom X [jR 105, jI s, jI room, jI mi] I (fun r I' => r = wk (I 106 (6 + s)) (I 106 (16 + s)) mi ((room : Int) = I 106 (11 + s)) ∧ I' = I) := by
  refine CG.of (by decide) [some (jR 105), some (jI s), some (jI room), some (jI mi), none, none, none] rfl (Nat.le_of_ble_eq_true rfl) ?_
  have h1 := hok (6 + s) (by omega)
  have h2 := hok (11 + s) (by omega)
  have h3 := hok (16 + s) (by omega)
  unfold stLo stHi at h1 h2 h3
  have h1 : 0 ≤ I 106 (6 + s) ∧ I 106 (6 + s) ≤ 5 := by omega
  have h2 : 0 ≤ I 106 (11 + s) ∧ I 106 (11 + s) ≤ 7 := by omega
  have h3 : 0 ≤ I 106 (16 + s) ∧ I 106 (16 + s) ≤ 9 := by omega
  have hw : ∀ v, v = wk (I 106 (6 + s)) (I 106 (16 + s)) mi ((room : Int) = I 106 (11 + s)) ∧ I = I ↔ v = wk (I 106 (6 + s)) (I 106 (16 + s)) mi ((room : Int) = I 106 (11 + s)) := fun v => ⟨fun h => h.1, fun h => ⟨h, rfl⟩⟩
  have kj : ∀ old : Int, old = (if mi % 10 = 0 then (I 106 (16 + s) + 2) / 2 else I 106 (16 + s) + 2 + 3) → S_X12_wakesFrom X 42 [some (jR 105), some (jI s), some (jI room), some (jI mi), some (jI (I 106 (16 + s) + 2)), some (jI (I 106 (6 + s))), none] [jI old] I (fun r I' => r = wk (I 106 (6 + s)) (I 106 (16 + s)) mi ((room : Int) = I 106 (11 + s)) ∧ I' = I) := by
    intro old ho
    refine j_istore6 (pc := 42) dX12_wakesFrom_42 (by decide) rfl ?_
    refine j_iload (pc := 44) dX12_wakesFrom_44 rfl ?_
    refine j_tsw (pc := 46) dX12_wakesFrom_46 (by omega) ?_ ?_
    · intro hsw
      refine j_pcto 147 (by decide) ?_
      refine j_iload (pc := 147) dX12_wakesFrom_147 rfl ?_
      refine j_reti dX12_wakesFrom_149 (?_) rfl
      refine (hw _).mpr ?_
      unfold wk
      repeat' split
      all_goals omega
    · intro hsw1 hsw2
      rcases (show I 106 (6 + s) = 1 ∨ I 106 (6 + s) = 2 ∨ I 106 (6 + s) = 3 ∨ I 106 (6 + s) = 4 ∨ I 106 (6 + s) = 5 by omega) with hsw | hsw | hsw | hsw | hsw
      · refine j_swt (34) 80 rfl (by rw [hsw]; rfl) (by decide) ?_
        refine j_iload (pc := 80) dX12_wakesFrom_80 rfl ?_
        refine j_iconst (pc := 82) dX12_wakesFrom_82 ?_
        refine j_idiv (pc := 83) dX12_wakesFrom_83 (by omega) (by omega) ?_
        refine j_reti dX12_wakesFrom_84 (?_) rfl
        refine (hw _).mpr ?_
        unfold wk
        repeat' split
        all_goals omega
      · refine j_swt (39) 85 rfl (by rw [hsw]; rfl) (by decide) ?_
        refine j_iload (pc := 85) dX12_wakesFrom_85 rfl ?_
        refine j_reti dX12_wakesFrom_87 (?_) rfl
        refine (hw _).mpr ?_
        unfold wk
        repeat' split
        all_goals omega
      · refine j_swt (42) 88 rfl (by rw [hsw]; rfl) (by decide) ?_
        refine j_iload_n (pc := 88) dX12_wakesFrom_88 rfl ?_
        refine j_aload_n (pc := 89) dX12_wakesFrom_89 rfl ?_
        refine j_getR (pc := 90) f_X12_7 dX12_wakesFrom_90 rfl rfl (by decide) rfl ?_
        refine j_bipush (pc := 93) dX12_wakesFrom_93 (by decide) ?_
        refine j_iload_n (pc := 95) dX12_wakesFrom_95 rfl ?_
        refine j_iadd (pc := 96) dX12_wakesFrom_96 ?_
        refine j_iald_b (pc := 97) (11 + s) dX12_wakesFrom_97 rfl (by decide) (by decide) (by omega) (by omega) ?_
        refine j_icmp_ne (pc := 98) 105 dX12_wakesFrom_98 (by decide) (by omega) (by omega) (fun h_98 => ?_) (fun h_98 => ?_)
        · refine j_iload (pc := 105) dX12_wakesFrom_105 rfl ?_
          refine j_iconst (pc := 107) dX12_wakesFrom_107 ?_
          refine j_idiv (pc := 108) dX12_wakesFrom_108 (by omega) (by omega) ?_
          refine j_reti dX12_wakesFrom_109 (?_) rfl
          refine (hw _).mpr ?_
          unfold wk
          repeat' split
          all_goals omega
        · refine j_iconst (pc := 101) dX12_wakesFrom_101 ?_
          refine j_goto (pc := 102) 109 dX12_wakesFrom_102 (by decide) ?_
          refine j_reti dX12_wakesFrom_109 (?_) rfl
          refine (hw _).mpr ?_
          unfold wk
          repeat' split
          all_goals omega
      · refine j_swt (64) 110 rfl (by rw [hsw]; rfl) (by decide) ?_
        refine j_iload_n (pc := 110) dX12_wakesFrom_110 rfl ?_
        refine j_bipush (pc := 111) dX12_wakesFrom_111 (by decide) ?_
        refine j_icmp_ge (pc := 113) 123 dX12_wakesFrom_113 (by decide) (by omega) (by omega) (fun h_113 => ?_) (fun h_113 => ?_)
        · refine j_iconst (pc := 123) dX12_wakesFrom_123 ?_
          refine j_iload (pc := 124) dX12_wakesFrom_124 rfl ?_
          refine j_iconst (pc := 126) dX12_wakesFrom_126 ?_
          refine j_idiv (pc := 127) dX12_wakesFrom_127 (by omega) (by omega) ?_
          refine j_imul (pc := 128) dX12_wakesFrom_128 ?_
          refine j_reti dX12_wakesFrom_129 (?_) rfl
          refine (hw _).mpr ?_
          unfold wk
          repeat' split
          all_goals omega
        · refine j_iload (pc := 116) dX12_wakesFrom_116 rfl ?_
          refine j_iconst (pc := 118) dX12_wakesFrom_118 ?_
          refine j_idiv (pc := 119) dX12_wakesFrom_119 (by omega) (by omega) ?_
          refine j_goto (pc := 120) 129 dX12_wakesFrom_120 (by decide) ?_
          refine j_reti dX12_wakesFrom_129 (?_) rfl
          refine (hw _).mpr ?_
          unfold wk
          repeat' split
          all_goals omega
      · refine j_swt (84) 130 rfl (by rw [hsw]; rfl) (by decide) ?_
        refine j_iload_n (pc := 130) dX12_wakesFrom_130 rfl ?_
        refine j_iconst (pc := 131) dX12_wakesFrom_131 ?_
        refine j_irem (pc := 132) dX12_wakesFrom_132 (by omega) (by omega) ?_
        refine j_iconst (pc := 133) dX12_wakesFrom_133 ?_
        refine j_icmp_ne (pc := 134) 144 dX12_wakesFrom_134 (by decide) (by omega) (by omega) (fun h_134 => ?_) (fun h_134 => ?_)
        · refine j_iload (pc := 144) dX12_wakesFrom_144 rfl ?_
          refine j_reti dX12_wakesFrom_146 (?_) rfl
          refine (hw _).mpr ?_
          unfold wk
          repeat' split
          all_goals omega
        · refine j_iconst (pc := 137) dX12_wakesFrom_137 ?_
          refine j_iload (pc := 138) dX12_wakesFrom_138 rfl ?_
          refine j_imul (pc := 140) dX12_wakesFrom_140 ?_
          refine j_goto (pc := 141) 146 dX12_wakesFrom_141 (by decide) ?_
          refine j_reti dX12_wakesFrom_146 (?_) rfl
          refine (hw _).mpr ?_
          unfold wk
          repeat' split
          all_goals omega
  refine j_aload_n (pc := 0) dX12_wakesFrom_0 rfl ?_
  refine j_getR (pc := 1) f_X12_7 dX12_wakesFrom_1 rfl rfl (by decide) rfl ?_
  refine j_bipush (pc := 4) dX12_wakesFrom_4 (by decide) ?_
  refine j_iload_n (pc := 6) dX12_wakesFrom_6 rfl ?_
  refine j_iadd (pc := 7) dX12_wakesFrom_7 ?_
  refine j_iald_b (pc := 8) (16 + s) dX12_wakesFrom_8 rfl (by decide) (by decide) (by omega) (by omega) ?_
  refine j_iconst (pc := 9) dX12_wakesFrom_9 ?_
  refine j_iadd (pc := 10) dX12_wakesFrom_10 ?_
  refine j_istore4 (pc := 11) dX12_wakesFrom_11 (by decide) rfl ?_
  refine j_aload_n (pc := 13) dX12_wakesFrom_13 rfl ?_
  refine j_getR (pc := 14) f_X12_7 dX12_wakesFrom_14 rfl rfl (by decide) rfl ?_
  refine j_bipush (pc := 17) dX12_wakesFrom_17 (by decide) ?_
  refine j_iload_n (pc := 19) dX12_wakesFrom_19 rfl ?_
  refine j_iadd (pc := 20) dX12_wakesFrom_20 ?_
  refine j_iald_b (pc := 21) (6 + s) dX12_wakesFrom_21 rfl (by decide) (by decide) (by omega) (by omega) ?_
  refine j_istore5 (pc := 22) dX12_wakesFrom_22 (by decide) rfl ?_
  refine j_iload_n (pc := 24) dX12_wakesFrom_24 rfl ?_
  refine j_bipush (pc := 25) dX12_wakesFrom_25 (by decide) ?_
  refine j_irem (pc := 27) dX12_wakesFrom_27 (by omega) (by omega) ?_
  refine j_if_ne (pc := 28) 38 dX12_wakesFrom_28 (by decide) (by omega) (fun h_28 => ?_) (fun h_28 => ?_)
  · refine j_iload (pc := 38) dX12_wakesFrom_38 rfl ?_
    refine j_iconst (pc := 40) dX12_wakesFrom_40 ?_
    refine j_iadd (pc := 41) dX12_wakesFrom_41 ?_
    exact kj _ (by split <;> omega)
  · refine j_iload (pc := 31) dX12_wakesFrom_31 rfl ?_
    refine j_iconst (pc := 33) dX12_wakesFrom_33 ?_
    refine j_idiv (pc := 34) dX12_wakesFrom_34 (by omega) (by omega) ?_
    refine j_goto (pc := 35) 42 dX12_wakesFrom_35 (by decide) ?_
    exact kj _ (by split <;> omega)
/-- by a noise of n in a room, in a minute: does sleeper s wake, when its bed is so far -/
def wkS (f : Nat → Int) (n : Int) (room : Nat) (mi : Int) (far : Int) (s : Nat) : Prop := (0 < n - 2 * far ∧ wk (f (6 + s)) (f (16 + s)) mi ((room : Int) = f (11 + s)) ≤ n - 2 * far)
theorem isD_ex (e : Nat → Nat → Prop) (he : ∀ x y, e x y → y < 8) (a b : Nat) (ha : a < 8) : ∃ d, isD e a b 99 d := by
  by_cases hx : ∃ j, wlk e j a b
  · obtain ⟨k, hk, hm⟩ := pk_least (fun j => wlk e j a b) hx
    obtain ⟨j, hj, hw⟩ := wlk_short he ha k b hk
    have : k ≤ j := Nat.not_lt.mp fun h => hm j h hw
    exact ⟨k, Or.inr ⟨k, rfl, by omega, hk, fun i hi => Nat.not_lt.mp fun h => hm i h hi⟩⟩
  · exact ⟨99, Or.inl ⟨rfl, fun k hk => hx ⟨k, hk⟩⟩⟩
/-- how far; 99: not joined -/
noncomputable def dst (f : Nat → Int) (a b : Nat) : Int := if h : a < 8 then Classical.choose (isD_ex (edg f) (edg_lt f) a b h) else 99
theorem dst_is (f : Nat → Int) {a : Nat} (b : Nat) (h : a < 8) : isD (edg f) a b 99 (dst f a b) := by
  unfold dst
  rw [dif_pos h]
  exact Classical.choose_spec (isD_ex (edg f) (edg_lt f) a b h)
theorem dst_eq {f : Nat → Int} {a b : Nat} (h : a < 8) {v : Int} (hv : isD (edg f) a b 99 v) : v = dst f a b := by
  rcases isD_uniq hv (dst_is f b h) with h | h <;> omega
theorem dst_rng (f : Nat → Int) {a : Nat} (b : Nat) (h : a < 8) : 0 ≤ dst f a b ∧ dst f a b ≤ 99 ∧ (dst f a b = 99 ∨ dst f a b ≤ 7) := by
  rcases dst_is f b h with ⟨h, -⟩ | ⟨k, h, h7, -⟩ <;> omega
/-- does sleeper s wake by a noise of n in a room in a minute -/
def wkB (f : Nat → Int) (n : Int) (room : Nat) (mi : Int) (s : Nat) : Prop := wkS f n room mi (dst f room (f (11 + s)).toNat) s
/-- w: the bits of those who wake by a noise -/
def isW (f : Nat → Int) (n : Int) (room : Nat) (mi : Int) (w : Nat) : Prop := w < 32 ∧ ∀ s, w.testBit s = true ↔ ((s : Int) < f 5 ∧ wkB f n room mi s)
theorem isW_uniq {f : Nat → Int} {n : Int} {room : Nat} {mi : Int} {w w' : Nat} (h : isW f n room mi w) (h' : isW f n room mi w') : w = w' := by
  apply Nat.eq_of_testBit_eq
  intro i
  have := (h.2 i).trans (h'.2 i).symm
  cases hw : w.testBit i <;> cases hw' : w'.testBit i <;> simp_all
set_option maxHeartbeats 2000000 in
theorem c_wakesBy (X : jX) (I : jMI) (n : Int) (room : Nat) (mi : Int) (hn : 0 ≤ n ∧ n ≤ 30) (hr : room < 8) (hm : 0 ≤ mi ∧ mi ≤ 59) (hok : okSt (I 106)) : C_X12_wakesBy X [jR 105, jI n, jI room, jI mi] I (fun r I' => ∃ (w : Nat) (g : Nat → Int), r = w ∧ I' = jSf I 110 g ∧ isW (I 106) n room mi w) := by
  refine CG.of (by decide) [some (jR 105), some (jI n), some (jI room), some (jI mi), none, none, none] rfl (Nat.le_of_ble_eq_true rfl) ?_
  have h5 := hok 5 (by omega)
  unfold stLo stHi at h5
  have h5 : 0 ≤ I 106 5 ∧ I 106 5 ≤ 5 := by omega
  generalize hq : (fun (r : Int) (I' : jMI) => ∃ (w : Nat) (g : Nat → Int), r = w ∧ I' = jSf I 110 g ∧ isW (I 106) n room mi w) = q
  have key : ∀ (g : Nat → Int), (∀ b, b < 8 → isD (edg (I 106)) room b 99 (g b)) → ∀ (s w : Nat), (s : Int) ≤ I 106 5 → (w < 32 ∧ ∀ i, w.testBit i = true ↔ (i < s ∧ wkB (I 106) n room mi i)) → ∀ x6, S_X12_wakesBy X 11 [some (jR 105), some (jI n), some (jI room), some (jI mi), some (jI w), some (jI s), x6] [] (jSf I 110 g) q := by
    intro g hg
    have e6 : jSf I 110 g 106 = I 106 := jSf_n (by decide)
    refine mu2 (fun s _ => 5 - s) _ (fun s w ih hs hw x6 => ?_)
    have hs5 : s ≤ 5 := by omega
    have hbs : s < 5 → 0 ≤ I 106 (11 + s) ∧ I 106 (11 + s) ≤ 7 := fun h => by
      have h2 := hok (11 + s) (by omega)
      unfold stLo stHi at h2
      omega
    have hup : ∀ v : Int, s < 5 → (s : Int) < I 106 5 → (v = ((2 ^ s : Nat) : Int) ∧ wkB (I 106) n room mi s) ∨ (v = 0 ∧ ¬ wkB (I 106) n room mi s) → ∀ x6, S_X12_wakesBy X 71 [some (jR 105), some (jI n), some (jI room), some (jI mi), some (jI w), some (jI s), x6] [jI v, jI w] (jSf I 110 g) q := by
      intro v hs1 hs2 hv x6
      have hp : 2 ^ s < 32 := by
        have := Nat.pow_lt_pow_right (a := 2) (by omega) hs1
        omega
      rcases hv with ⟨rfl, hb⟩ | ⟨rfl, hb⟩
      · refine j_ior (pc := 71) dX12_wakesBy_71 ?_
        rw [jbor_n (by omega) (by omega)]
        refine j_istore4 (pc := 72) dX12_wakesBy_72 (by decide) rfl ?_
        refine j_iinc5 (pc := 74) dX12_wakesBy_74 (by decide) rfl ?_
        refine j_goto (pc := 77) 11 dX12_wakesBy_77 (by decide) ?_
        refine ih (s + 1) (w ||| 2 ^ s) (by omega) (by omega) ⟨lt_or_pow (n := 5) hw.1 hs1, fun i => ?_⟩ _
        rw [tb_or_pow]
        simp only [Bool.or_eq_true, decide_eq_true_eq, hw.2 i]
        constructor
        · rintro (⟨h1, h2⟩ | rfl)
          · exact ⟨by omega, h2⟩
          · exact ⟨by omega, hb⟩
        · rintro ⟨h1, h2⟩
          by_cases his : i = s
          · exact Or.inr his.symm
          · exact Or.inl ⟨by omega, h2⟩
      · refine j_ior (pc := 71) dX12_wakesBy_71 ?_
        rw [show (0 : Int) = ((0 : Nat) : Int) from rfl, jbor_n (by omega) (by omega), Nat.or_zero]
        refine j_istore4 (pc := 72) dX12_wakesBy_72 (by decide) rfl ?_
        refine j_iinc5 (pc := 74) dX12_wakesBy_74 (by decide) rfl ?_
        refine j_goto (pc := 77) 11 dX12_wakesBy_77 (by decide) ?_
        refine ih (s + 1) w (by omega) (by omega) ⟨hw.1, fun i => ?_⟩ _
        rw [hw.2 i]
        constructor
        · rintro ⟨h1, h2⟩; exact ⟨by omega, h2⟩
        · rintro ⟨h1, h2⟩
          by_cases his : i = s
          · subst his; exact absurd h2 hb
          · exact ⟨by omega, h2⟩
    refine j_iload (pc := 11) dX12_wakesBy_11 rfl ?_
    refine j_aload_n (pc := 13) dX12_wakesBy_13 rfl ?_
    refine j_getR (pc := 14) f_X12_7 dX12_wakesBy_14 rfl rfl (by decide) rfl ?_
    refine j_iconst (pc := 17) dX12_wakesBy_17 ?_
    refine j_iald_c (pc := 18) (5) dX12_wakesBy_18 rfl (by decide) (by decide) (by omega) (by omega) (by decide) ?_
    refine j_icmp_ge (pc := 19) 80 dX12_wakesBy_19 (by decide) (by omega) (by omega) (fun h_19 => ?_) (fun h_19 => ?_)
    · refine j_iload (pc := 80) dX12_wakesBy_80 rfl ?_
      refine j_reti dX12_wakesBy_82 (?_) rfl
      subst hq
      refine ⟨w, g, rfl, rfl, hw.1, fun i => ?_⟩
      rw [hw.2 i]
      exact ⟨fun h => ⟨by omega, h.2⟩, fun h => ⟨by omega, h.2⟩⟩
    · have hb1 := hbs (by omega)
      obtain ⟨bd, hbd⟩ := Int.eq_ofNat_of_zero_le hb1.1
      have hd := hg bd (by omega)
      have hdd := dst_eq hr hd
      have hdr := dst_rng (I 106) bd hr
      refine j_iload_n (pc := 22) dX12_wakesBy_22 rfl ?_
      refine j_iconst (pc := 23) dX12_wakesBy_23 ?_
      refine j_aload_n (pc := 24) dX12_wakesBy_24 rfl ?_
      refine j_getR (pc := 25) f_X12_26 dX12_wakesBy_25 rfl rfl (by decide) rfl ?_
      refine j_aload_n (pc := 28) dX12_wakesBy_28 rfl ?_
      refine j_getR (pc := 29) f_X12_7 dX12_wakesBy_29 rfl rfl (by decide) rfl ?_
      refine j_bipush (pc := 32) dX12_wakesBy_32 (by decide) ?_
      refine j_iload (pc := 34) dX12_wakesBy_34 rfl ?_
      refine j_iadd (pc := 36) dX12_wakesBy_36 ?_
      refine j_iald_c (pc := 37) (11 + s) dX12_wakesBy_37 rfl (by decide) (by decide) (by omega) (by omega) (by decide) ?_
      rw [hbd]
      refine j_iald_a (pc := 38) (bd) dX12_wakesBy_38 rfl (by decide) (by decide) (by omega) (by omega) ?_
      refine j_imul (pc := 39) dX12_wakesBy_39 ?_
      refine j_isub (pc := 40) dX12_wakesBy_40 ?_
      refine j_istore6 (pc := 41) dX12_wakesBy_41 (by decide) rfl ?_
      rw [hdd]
      refine j_iload (pc := 43) dX12_wakesBy_43 rfl ?_
      refine j_iload (pc := 45) dX12_wakesBy_45 rfl ?_
      have hkb : wkB (I 106) n room mi s ↔ wkS (I 106) n room mi (dst (I 106) room bd) s := by
        unfold wkB
        rw [hbd]
        rfl
      refine j_if_le (pc := 47) 70 dX12_wakesBy_47 (by decide) (by omega) (fun h_47 => ?_) (fun h_47 => ?_)
      · refine j_iconst (pc := 70) dX12_wakesBy_70 ?_
        refine hup _ (by omega) (by omega) ?_ _
        first
          | exact Or.inl ⟨rfl, hkb.mpr ⟨by omega, by omega⟩⟩
          | exact Or.inr ⟨rfl, fun h => by have h1 := (hkb.mp h).1; have h2 := (hkb.mp h).2; omega⟩
      · refine j_iload (pc := 50) dX12_wakesBy_50 rfl ?_
        refine j_aload_n (pc := 52) dX12_wakesBy_52 rfl ?_
        refine j_iload (pc := 53) dX12_wakesBy_53 rfl ?_
        refine j_iload_n (pc := 55) dX12_wakesBy_55 rfl ?_
        refine j_iload_n (pc := 56) dX12_wakesBy_56 rfl ?_
        refine j_goI (pc := 57) (j_runV k_X12_202 m_X12_wakesFrom (c_wakesFrom X (jSf I 110 g) s room mi (by omega) hr hm (by rw [e6]; exact hok)) dX12_wakesBy_57 rfl (by decide) rfl (by decide) (by decide) rfl rfl (Nat.le_of_ble_eq_true rfl)) (fun r1 I1 h1 => ?_)
        obtain ⟨rfl, rfl⟩ := h1
        rw [e6]
        have hwk := wk_rng (kind := I 106 (6 + s)) (minute := mi) (own := (room : Int) = I 106 (11 + s)) (show 0 ≤ I 106 (16 + s) ∧ I 106 (16 + s) ≤ 9 by
          have h2 := hok (16 + s) (by omega)
          unfold stLo stHi at h2
          omega)
        refine j_icmp_lt (pc := 60) 70 dX12_wakesBy_60 (by decide) (by omega) (by omega) (fun h_60 => ?_) (fun h_60 => ?_)
        · refine j_iconst (pc := 70) dX12_wakesBy_70 ?_
          refine hup _ (by omega) (by omega) ?_ _
          first
            | exact Or.inl ⟨rfl, hkb.mpr ⟨by omega, by omega⟩⟩
            | exact Or.inr ⟨rfl, fun h => by have h1 := (hkb.mp h).1; have h2 := (hkb.mp h).2; omega⟩
        · refine j_iconst (pc := 63) dX12_wakesBy_63 ?_
          refine j_iload (pc := 64) dX12_wakesBy_64 rfl ?_
          refine j_ishl (pc := 66) dX12_wakesBy_66 ?_
          rw [jshl_n (by omega)]
          refine j_goto (pc := 67) 71 dX12_wakesBy_67 (by decide) ?_
          refine hup _ (by omega) (by omega) ?_ _
          first
            | exact Or.inl ⟨rfl, hkb.mpr ⟨by omega, by omega⟩⟩
            | exact Or.inr ⟨rfl, fun h => by have h1 := (hkb.mp h).1; have h2 := (hkb.mp h).2; omega⟩
  refine j_aload_n (pc := 0) dX12_wakesBy_0 rfl ?_
  refine j_iload_n (pc := 1) dX12_wakesBy_1 rfl ?_
  refine j_goV (pc := 2) (j_runV k_X12_199 m_X12_findFar (c_findFar X I room hr hok) dX12_wakesBy_2 rfl (by decide) rfl (by decide) (by decide) rfl rfl (Nat.le_of_ble_eq_true rfl)) (fun I1 h1 => ?_)
  obtain ⟨g, rfl, hg⟩ := h1
  refine j_iconst (pc := 5) dX12_wakesBy_5 ?_
  refine j_istore4 (pc := 6) dX12_wakesBy_6 (by decide) rfl ?_
  refine j_iconst (pc := 8) dX12_wakesBy_8 ?_
  refine j_istore5 (pc := 9) dX12_wakesBy_9 (by decide) rfl ?_
  exact key g hg 0 0 (by omega) ⟨by omega, fun i => by simp⟩ _
