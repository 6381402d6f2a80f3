/-! ===== the class: ways ===== -/
theorem wy_last {f : Nat → Int} {b : Nat} (hb : b < 8) : ∀ (n m a : Nat), a < 8 → (wy f b (n + 1) m a ↔ ∃ c, c < 8 ∧ wy f c n m a ∧ qt f ((m + n : Nat) : Int) c b) := by
  intro n
  induction n with
  | zero =>
    intro m a ha
    constructor
    · rintro ⟨c, hc, hq, hw⟩
      cases hw
      exact ⟨a, ha, rfl, hq⟩
    · rintro ⟨c, hc, hw, hq⟩
      cases hw
      exact ⟨b, hb, hq, rfl⟩
  | succ n ih =>
    intro m a ha
    constructor
    · rintro ⟨a', ha', hq, hw⟩
      obtain ⟨c, hc, h1, h2⟩ := (ih (m + 1) a' ha').mp hw
      refine ⟨c, hc, ⟨a', ha', hq, h1⟩, ?_⟩
      rw [show m + (n + 1) = m + 1 + n by omega]; exact h2
    · rintro ⟨c, hc, ⟨a', ha', hq, h1⟩, h2⟩
      refine ⟨a', ha', hq, (ih (m + 1) a' ha').mpr ⟨c, hc, h1, ?_⟩⟩
      rw [show m + 1 + n = m + (n + 1) by omega]; exact h2
theorem wy_mono {f : Nat → Int} {b n m a : Nat} (hb : b < 8) (ha : a < 8) (h : wy f b n m a) : wy f b (n + 1) m a := (wy_last hb n m a ha).mpr ⟨b, hb, h, Or.inl rfl⟩
theorem wy_up {f : Nat → Int} {b m a : Nat} (hb : b < 8) (ha : a < 8) : ∀ (d n : Nat), wy f b n m a → wy f b (n + d) m a := by
  intro d
  induction d with
  | zero => intro n h; exact h
  | succ d ih => intro n h; exact wy_mono hb ha (ih n h)
theorem c_fewest (X : jX) (I : jMI) (f : Nat → Int) (i j k : Nat) (hH : hR f I 2) (hok : okSt f) (hi : i < 8) (hj : j < 8) (hk : k ≤ 59) : C_X1_fewestMinutes X [jR 96, jR 2, jI i, jI j, jI k] I (fun r I' => ((r = -1 ∧ isL f j k i 99) ∨ (isL f j k i r ∧ 0 ≤ r ∧ r < 99)) ∧ ∀ z, z ≠ 97 → I' z = I z) := by
  refine CG.of (by decide) [some (jR 96), some (jR 2), some (jI i), some (jI j), some (jI k), none, none] rfl (Nat.le_of_ble_eq_true rfl) ?_
  have key : ∀ (n w : Nat) (J0 : jMI), k + n ≤ 59 → w < 2 ^ 8 → (∀ b, w.testBit b = true ↔ (b < 8 ∧ wy f b n k i)) → (∀ n', n' < n → ¬ wy f j n' k i) → (∀ z, z ≠ 97 → J0 z = I z) → S_X1_fewestMinutes X 9 [some (jR 96), some (jR 2), some (jI i), some (jI j), some (jI k), some (jI w), some (jI ((k + n : Nat) : Int))] [] J0 (fun r I' => ((r = -1 ∧ isL f j k i 99) ∨ (isL f j k i r ∧ 0 ≤ r ∧ r < 99)) ∧ ∀ z, z ≠ 97 → I' z = I z) := by
    refine mu3 (fun n _ _ => 60 - n) _ (fun n w J0 ih hn hw hb hno hz => ?_)
    have hH' : hR f J0 2 := hR_fr hH (fun z hz' => hz z (by omega))
    have hmin : ∀ n', k + n' ≤ 59 → wy f j n' k i → n ≤ n' := fun n' _ hw' => Nat.not_lt.mp fun h => hno n' h hw'
    refine j_iload (pc := 9) dX1_fewestMinutes_9 rfl ?_
    refine j_bipush (pc := 11) dX1_fewestMinutes_11 (by decide) ?_
    refine j_icmp_ge (pc := 13) 53 dX1_fewestMinutes_13 (by decide) (by omega) (by omega) (fun h_13 => ?_) (fun h_13 => ?_)
    · refine j_iload (pc := 53) dX1_fewestMinutes_53 rfl ?_
      refine j_iload_n (pc := 55) dX1_fewestMinutes_55 rfl ?_
      refine j_goI (pc := 56) (j_runSN k_X1_40 m_X11_bit (c_bit X J0 w j) dX1_fewestMinutes_56 (by decide) rfl rfl (Nat.le_of_ble_eq_true rfl)) (fun r4 I4 h4 => ?_)
      obtain ⟨rfl, rfl⟩ := h4
      rw [jbit (by omega) (by omega)]
      refine j_iconst (pc := 59) dX1_fewestMinutes_59 ?_
      refine j_icmp_ne (pc := 60) 71 dX1_fewestMinutes_60 (by decide) (by split <;> omega) (by omega) (fun h_60 => ?_) (fun h_60 => ?_)
      · refine j_iconst (pc := 71) dX1_fewestMinutes_71 ?_
        refine j_reti dX1_fewestMinutes_72 (?_) rfl
        first
          | (have hwj : w.testBit j = true := by split at h_60 <;> first | assumption | omega
             rw [show (59 : Int) - (k : Int) = (n : Int) by omega]
             exact ⟨Or.inr ⟨Or.inr ⟨n, rfl, hn, ((hb j).mp hwj).2, hmin⟩, by omega, by omega⟩, hz⟩)
          | (have hwj : ¬ w.testBit j = true := by split at h_60 <;> first | assumption | omega
             refine ⟨Or.inl ⟨rfl, Or.inl ⟨rfl, fun n' hn' hw' => ?_⟩⟩, hz⟩
             by_cases e : n' = n
             · subst e; exact hwj ((hb j).mpr ⟨hj, hw'⟩)
             · exact hno n' (by omega) hw')
      · refine j_bipush (pc := 63) dX1_fewestMinutes_63 (by decide) ?_
        refine j_iload (pc := 65) dX1_fewestMinutes_65 rfl ?_
        refine j_isub (pc := 67) dX1_fewestMinutes_67 ?_
        refine j_goto (pc := 68) 72 dX1_fewestMinutes_68 (by decide) ?_
        refine j_reti dX1_fewestMinutes_72 (?_) rfl
        first
          | (have hwj : w.testBit j = true := by split at h_60 <;> first | assumption | omega
             rw [show (59 : Int) - (k : Int) = (n : Int) by omega]
             exact ⟨Or.inr ⟨Or.inr ⟨n, rfl, hn, ((hb j).mp hwj).2, hmin⟩, by omega, by omega⟩, hz⟩)
          | (have hwj : ¬ w.testBit j = true := by split at h_60 <;> first | assumption | omega
             refine ⟨Or.inl ⟨rfl, Or.inl ⟨rfl, fun n' hn' hw' => ?_⟩⟩, hz⟩
             by_cases e : n' = n
             · subst e; exact hwj ((hb j).mpr ⟨hj, hw'⟩)
             · exact hno n' (by omega) hw')
    · refine j_iload (pc := 16) dX1_fewestMinutes_16 rfl ?_
      refine j_iload_n (pc := 18) dX1_fewestMinutes_18 rfl ?_
      refine j_goI (pc := 19) (j_runSN k_X1_40 m_X11_bit (c_bit X J0 w j) dX1_fewestMinutes_19 (by decide) rfl rfl (Nat.le_of_ble_eq_true rfl)) (fun r1 I1 h1 => ?_)
      obtain ⟨rfl, rfl⟩ := h1
      rw [jbit (by omega) (by omega)]
      refine j_iconst (pc := 22) dX1_fewestMinutes_22 ?_
      refine j_icmp_ne (pc := 23) 32 dX1_fewestMinutes_23 (by decide) (by split <;> omega) (by omega) (fun h_23 => ?_) (fun h_23 => ?_)
      · refine j_aload_n (pc := 32) dX1_fewestMinutes_32 rfl ?_
        refine j_aload_n (pc := 33) dX1_fewestMinutes_33 rfl ?_
        refine j_iload (pc := 34) dX1_fewestMinutes_34 rfl ?_
        refine j_goV (pc := 36) (j_runV k_X1_43 m_X1_lookAt (c_look X I1 f ((k + n : Nat) : Int) hH' hok (by omega)) dX1_fewestMinutes_36 rfl (by decide) rfl (by decide) (by decide) rfl rfl (Nat.le_of_ble_eq_true rfl)) (fun I2 h2 => ?_)
        obtain ⟨hQ, hz2⟩ := h2
        refine j_aload_n (pc := 39) dX1_fewestMinutes_39 rfl ?_
        refine j_iload (pc := 40) dX1_fewestMinutes_40 rfl ?_
        refine j_goI (pc := 42) (j_runV k_X1_47 m_X1_roomsAfter (c_rAfter X I2 (qt f ((k + n : Nat) : Int)) w hw hQ) dX1_fewestMinutes_42 rfl (by decide) rfl (by decide) (by decide) rfl rfl (Nat.le_of_ble_eq_true rfl)) (fun r3 I3 h3 => ?_)
        obtain ⟨v, rfl, hv, hvb, rfl⟩ := h3
        refine j_istore5 (pc := 45) dX1_fewestMinutes_45 (by decide) rfl ?_
        refine j_iinc6 (pc := 47) dX1_fewestMinutes_47 (by decide) rfl ?_
        refine j_goto (pc := 50) 9 dX1_fewestMinutes_50 (by decide) ?_
        have hwj : ¬ w.testBit j = true := by split at h_23 <;> first | assumption | omega
        rw [show ((k + n : Nat) : Int) + 1 = ((k + (n + 1) : Nat) : Int) by omega]
        refine ih (n + 1) v I3 (by omega) (by omega) hv (fun b => ?_) (fun n' hn' hw' => ?_) (fun z hz' => (hz2 z hz').trans (hz z hz'))
        · rw [hvb b]
          constructor
          · rintro ⟨h1, a, h2, h3, h4⟩
            exact ⟨h1, (wy_last h1 n k i hi).mpr ⟨a, h2, ((hb a).mp h3).2, h4⟩⟩
          · rintro ⟨h1, h2⟩
            obtain ⟨c, hc, h3, h4⟩ := (wy_last h1 n k i hi).mp h2
            exact ⟨h1, c, hc, (hb c).mpr ⟨hc, h3⟩, h4⟩
        · by_cases e : n' = n
          · subst e; exact hwj ((hb j).mpr ⟨hj, hw'⟩)
          · exact hno n' (by omega) hw'
      · refine j_iload (pc := 26) dX1_fewestMinutes_26 rfl ?_
        refine j_iload (pc := 28) dX1_fewestMinutes_28 rfl ?_
        refine j_isub (pc := 30) dX1_fewestMinutes_30 ?_
        refine j_reti dX1_fewestMinutes_31 (?_) rfl
        have hwj : w.testBit j = true := by split at h_23 <;> first | assumption | omega
        rw [show ((k + n : Nat) : Int) - (k : Int) = (n : Int) by omega]
        exact ⟨Or.inr ⟨Or.inr ⟨n, rfl, hn, ((hb j).mp hwj).2, hmin⟩, by omega, by omega⟩, hz⟩
  refine j_iconst (pc := 0) dX1_fewestMinutes_0 ?_
  refine j_iload_n (pc := 1) dX1_fewestMinutes_1 rfl ?_
  refine j_ishl (pc := 2) dX1_fewestMinutes_2 ?_
  rw [jshl_n (by omega)]
  refine j_istore5 (pc := 3) dX1_fewestMinutes_3 (by decide) rfl ?_
  refine j_iload (pc := 5) dX1_fewestMinutes_5 rfl ?_
  refine j_istore6 (pc := 7) dX1_fewestMinutes_7 (by decide) rfl ?_
  refine key 0 (2 ^ i) I (by omega) (Nat.pow_lt_pow_right (by omega) hi) (fun b => ?_) (fun n' h => by omega) (fun z _ => rfl)
  rw [tb_pow]
  constructor
  · rintro rfl; exact ⟨hi, rfl⟩
  · rintro ⟨h1, h2⟩; exact Eq.symm h2
theorem c_dawn (X : jX) (I : jMI) (f : Nat → Int) (hH : hR f I 2) (hok : okSt f) : C_X1_reachedByDawn X [jR 96, jR 2] I (fun r I' => ∃ w : Nat, r = w ∧ w < 2 ^ 8 ∧ (∀ b, w.testBit b = true ↔ (b < 8 ∧ wy f b 59 0 0)) ∧ ∀ z, z ≠ 97 → I' z = I z) := by
  refine CG.of (by decide) [some (jR 96), some (jR 2), none, none] rfl (Nat.le_of_ble_eq_true rfl) ?_
  have key : ∀ (n w : Nat) (J0 : jMI), n ≤ 59 → w < 2 ^ 8 → (∀ b, w.testBit b = true ↔ (b < 8 ∧ wy f b n 0 0)) → (∀ z, z ≠ 97 → J0 z = I z) → S_X1_reachedByDawn X 4 [some (jR 96), some (jR 2), some (jI w), some (jI n)] [] J0 (fun r I' => ∃ w : Nat, r = w ∧ w < 2 ^ 8 ∧ (∀ b, w.testBit b = true ↔ (b < 8 ∧ wy f b 59 0 0)) ∧ ∀ z, z ≠ 97 → I' z = I z) := by
    refine mu3 (fun n _ _ => 60 - n) _ (fun n w J0 ih hn hw hb hz => ?_)
    have hH' : hR f J0 2 := hR_fr hH (fun z hz' => hz z (by omega))
    refine j_iload_n (pc := 4) dX1_reachedByDawn_4 rfl ?_
    refine j_bipush (pc := 5) dX1_reachedByDawn_5 (by decide) ?_
    refine j_icmp_ge (pc := 7) 28 dX1_reachedByDawn_7 (by decide) (by omega) (by omega) (fun h_7 => ?_) (fun h_7 => ?_)
    · refine j_iload_n (pc := 28) dX1_reachedByDawn_28 rfl ?_
      refine j_reti dX1_reachedByDawn_29 (?_) rfl
      obtain rfl : n = 59 := by omega
      exact ⟨w, rfl, hw, hb, hz⟩
    · refine j_aload_n (pc := 10) dX1_reachedByDawn_10 rfl ?_
      refine j_aload_n (pc := 11) dX1_reachedByDawn_11 rfl ?_
      refine j_iload_n (pc := 12) dX1_reachedByDawn_12 rfl ?_
      refine j_goV (pc := 13) (j_runV k_X1_43 m_X1_lookAt (c_look X J0 f n hH' hok (by omega)) dX1_reachedByDawn_13 rfl (by decide) rfl (by decide) (by decide) rfl rfl (Nat.le_of_ble_eq_true rfl)) (fun I2 h2 => ?_)
      obtain ⟨hQ, hz2⟩ := h2
      refine j_aload_n (pc := 16) dX1_reachedByDawn_16 rfl ?_
      refine j_iload_n (pc := 17) dX1_reachedByDawn_17 rfl ?_
      refine j_goI (pc := 18) (j_runV k_X1_47 m_X1_roomsAfter (c_rAfter X I2 (qt f n) w hw hQ) dX1_reachedByDawn_18 rfl (by decide) rfl (by decide) (by decide) rfl rfl (Nat.le_of_ble_eq_true rfl)) (fun r3 I3 h3 => ?_)
      obtain ⟨v, rfl, hv, hvb, rfl⟩ := h3
      refine j_istore_n2 (pc := 21) dX1_reachedByDawn_21 (by decide) rfl ?_
      refine j_iinc3 (pc := 22) dX1_reachedByDawn_22 (by decide) rfl ?_
      refine j_goto (pc := 25) 4 dX1_reachedByDawn_25 (by decide) ?_
      refine ih (n + 1) v I3 (by omega) (by omega) hv (fun b => ?_) (fun z hz' => (hz2 z hz').trans (hz z hz'))
      rw [hvb b]
      constructor
      · rintro ⟨h1, a, h2, h3, h4⟩
        refine ⟨h1, (wy_last h1 n 0 0 (by omega)).mpr ⟨a, h2, ((hb a).mp h3).2, ?_⟩⟩
        rw [Nat.zero_add]; exact h4
      · rintro ⟨h1, h2⟩
        obtain ⟨c, hc, h3, h4⟩ := (wy_last h1 n 0 0 (by omega)).mp h2
        rw [Nat.zero_add] at h4
        exact ⟨h1, c, hc, (hb c).mpr ⟨hc, h3⟩, h4⟩
  refine j_iconst (pc := 0) dX1_reachedByDawn_0 ?_
  refine j_istore_n2 (pc := 1) dX1_reachedByDawn_1 (by decide) rfl ?_
  refine j_iconst (pc := 2) dX1_reachedByDawn_2 ?_
  refine j_istore_n3 (pc := 3) dX1_reachedByDawn_3 (by decide) rfl ?_
  refine key 0 1 I (by omega) (by omega) (fun b => ?_) (fun z _ => rfl)
  rw [show (1 : Nat) = 2 ^ 0 from rfl, tb_pow]
  constructor
  · rintro rfl; exact ⟨by omega, rfl⟩
  · rintro ⟨h1, h2⟩; exact Eq.symm h2
theorem isNx_iff {f : Nat → Int} {j k i n c : Nat} (hc : c < 8) (h : isL f j k i ((n + 1 : Nat) : Int)) (hn : k + (n + 1) ≤ 59) (hq : qt f k i c) : wy f j n (k + 1) c ↔ isL f j (k + 1) c n := by
  constructor
  · intro hw
    refine Or.inr ⟨n, rfl, by omega, hw, fun n' hn' hw' => ?_⟩
    rcases h with ⟨h, -⟩ | ⟨x, h, h1, h2, h3⟩
    · omega
    · have := h3 (n' + 1) (by omega) ⟨c, hc, hq, hw'⟩
      omega
  · rintro (⟨h, -⟩ | ⟨x, h, h1, h2, h3⟩)
    · omega
    · obtain rfl : x = n := by omega
      exact h2
theorem c_first (X : jX) (I : jMI) (f : Nat → Int) (i j k n : Nat) (hH : hR f I 2) (hok : okSt f) (hi : i < 8) (hj : j < 8) (hk : k + (n + 1) ≤ 59) (hL : isL f j k i ((n + 1 : Nat) : Int)) : C_X1_firstRoom X [jR 96, jR 2, jI i, jI j, jI k, jI ((n + 1 : Nat) : Int)] I (fun r I' => (∃ c : Nat, r = c ∧ isNx f j k i ((n + 1 : Nat) : Int) c) ∧ ∀ z, z ≠ 97 → I' z = I z) := by
  refine CG.of (by decide) [some (jR 96), some (jR 2), some (jI i), some (jI j), some (jI k), some (jI ((n + 1 : Nat) : Int)), none, none] rfl (Nat.le_of_ble_eq_true rfl) ?_
  obtain ⟨b0, hb0, hq0, hl0⟩ := isL_next hL hk
  have e1 : (((n + 1 : Nat) : Int) - 1) = (n : Int) := by omega
  have k59 : ∀ (w : Nat), w < 2 ^ 8 → (∀ a, w.testBit a = true ↔ (a < 8 ∧ wy f j n (k + 1) a)) → ∀ (J0 : jMI), (∀ z, z ≠ 97 → J0 z = I z) → qB (qt f k) (J0 97) → ∀ (c : Nat), c ≤ 8 → (∀ d, d < c → ¬ (qt f k i d ∧ isL f j (k + 1) d n)) → S_X1_firstRoom X 59 [some (jR 96), some (jR 2), some (jI i), some (jI j), some (jI k), some (jI ((n + 1 : Nat) : Int)), some (jI w), some (jI c)] [] J0 (fun r I' => (∃ c : Nat, r = c ∧ isNx f j k i ((n + 1 : Nat) : Int) c) ∧ ∀ z, z ≠ 97 → I' z = I z) := by
    intro w hw hb J0 hz hQ
    obtain ⟨q, hq1, hq2, hq3⟩ := hQ i hi
    have hqw : q &&& w < 2 ^ 8 := Nat.and_lt_two_pow q hw
    refine mu1 (fun c => 8 - c) _ (fun c ih hc hno => ?_)
    have hc8 : c < 8 := Nat.lt_of_le_of_lt (Nat.not_lt.mp fun h => hno b0 h ⟨hq0, hl0⟩) hb0
    have hiff : (q &&& w).testBit c = true ↔ (qt f k i c ∧ isL f j (k + 1) c n) := by
      rw [tb_and, hq3 c, hb c]
      constructor
      · rintro ⟨⟨-, h1⟩, -, h2⟩; exact ⟨h1, (isNx_iff hc8 hL hk h1).mp h2⟩
      · rintro ⟨h1, h2⟩; exact ⟨⟨hc8, h1⟩, hc8, (isNx_iff hc8 hL hk h1).mpr h2⟩
    refine j_iload (pc := 59) dX1_firstRoom_59 rfl ?_
    refine j_bipush (pc := 61) dX1_firstRoom_61 (by decide) ?_
    refine j_icmp_ge (pc := 63) 93 dX1_firstRoom_63 (by decide) (by omega) (by omega) (fun h_63 => ?_) (fun h_63 => ?_)
    · exact absurd h_63 (by omega)
    · refine j_aload_n (pc := 66) dX1_firstRoom_66 rfl ?_
      refine j_getR (pc := 67) f_X1_9 dX1_firstRoom_67 rfl rfl (by decide) rfl ?_
      refine j_iload_n (pc := 70) dX1_firstRoom_70 rfl ?_
      refine j_iald_b (pc := 71) (i) dX1_firstRoom_71 rfl (by decide) (by decide) (by omega) (by omega) ?_
      rw [hq1]
      refine j_iload (pc := 72) dX1_firstRoom_72 rfl ?_
      refine j_iand (pc := 74) dX1_firstRoom_74 ?_
      rw [jband_n (by omega) (by omega)]
      refine j_iload (pc := 75) dX1_firstRoom_75 rfl ?_
      refine j_goI (pc := 77) (j_runSN k_X1_40 m_X11_bit (c_bit X J0 (q &&& w) c) dX1_firstRoom_77 (by decide) rfl rfl (Nat.le_of_ble_eq_true rfl)) (fun r1 I1 h1 => ?_)
      obtain ⟨rfl, rfl⟩ := h1
      rw [jbit (by omega) (by omega)]
      refine j_iconst (pc := 80) dX1_firstRoom_80 ?_
      refine j_icmp_ne (pc := 81) 87 dX1_firstRoom_81 (by decide) (by split <;> omega) (by omega) (fun h_81 => ?_) (fun h_81 => ?_)
      · refine j_iinc7 (pc := 87) dX1_firstRoom_87 (by decide) rfl ?_
        refine j_goto (pc := 90) 59 dX1_firstRoom_90 (by decide) ?_
        have hx : ¬ (q &&& w).testBit c = true := by split at h_81 <;> first | assumption | omega
        refine ih (c + 1) (by omega) (by omega) (fun d hd hh => ?_)
        by_cases e : d = c
        · subst e; exact hx (hiff.mpr hh)
        · exact hno d (by omega) hh
      · refine j_iload (pc := 84) dX1_firstRoom_84 rfl ?_
        refine j_reti dX1_firstRoom_86 (?_) rfl
        have hx : (q &&& w).testBit c = true := by split at h_81 <;> first | assumption | omega
        obtain ⟨h1, h2⟩ := hiff.mp hx
        refine ⟨⟨c, rfl, hc8, h1, by rw [e1]; exact h2, fun d hd => by rw [e1]; exact hno d hd⟩, hz⟩
  have k21 : ∀ (q w : Nat) (J0 : jMI), q ≤ n → w < 2 ^ 8 → (∀ a, w.testBit a = true ↔ (a < 8 ∧ wy f j q (k + n + 1 - q) a)) → (∀ z, z ≠ 97 → J0 z = I z) → S_X1_firstRoom X 21 [some (jR 96), some (jR 2), some (jI i), some (jI j), some (jI k), some (jI ((n + 1 : Nat) : Int)), some (jI w), some (jI ((k + n - q : Nat) : Int))] [] J0 (fun r I' => (∃ c : Nat, r = c ∧ isNx f j k i ((n + 1 : Nat) : Int) c) ∧ ∀ z, z ≠ 97 → I' z = I z) := by
    refine mu3 (fun q _ _ => 60 - q) _ (fun q w J0 ih hq hw hb hz => ?_)
    have hH' : hR f J0 2 := hR_fr hH (fun z hz' => hz z (by omega))
    refine j_iload (pc := 21) dX1_firstRoom_21 rfl ?_
    refine j_iload (pc := 23) dX1_firstRoom_23 rfl ?_
    refine j_icmp_le (pc := 25) 49 dX1_firstRoom_25 (by decide) (by omega) (by omega) (fun h_25 => ?_) (fun h_25 => ?_)
    · refine j_aload_n (pc := 49) dX1_firstRoom_49 rfl ?_
      refine j_aload_n (pc := 50) dX1_firstRoom_50 rfl ?_
      refine j_iload (pc := 51) dX1_firstRoom_51 rfl ?_
      refine j_goV (pc := 53) (j_runV k_X1_43 m_X1_lookAt (c_look X J0 f k hH' hok (by omega)) dX1_firstRoom_53 rfl (by decide) rfl (by decide) (by decide) rfl rfl (Nat.le_of_ble_eq_true rfl)) (fun I4 h4 => ?_)
      obtain ⟨hQ4, hz4⟩ := h4
      refine j_iconst (pc := 56) dX1_firstRoom_56 ?_
      refine j_istore7 (pc := 57) dX1_firstRoom_57 (by decide) rfl ?_
      obtain rfl : q = n := by omega
      rw [show k + q + 1 - q = k + 1 by omega] at hb
      exact k59 w hw hb I4 (fun z hz' => (hz4 z hz').trans (hz z hz')) hQ4 0 (by omega) (fun d hd => by omega)
    · refine j_aload_n (pc := 28) dX1_firstRoom_28 rfl ?_
      refine j_aload_n (pc := 29) dX1_firstRoom_29 rfl ?_
      refine j_iload (pc := 30) dX1_firstRoom_30 rfl ?_
      refine j_goV (pc := 32) (j_runV k_X1_43 m_X1_lookAt (c_look X J0 f ((k + n - q : Nat) : Int) hH' hok (by omega)) dX1_firstRoom_32 rfl (by decide) rfl (by decide) (by decide) rfl rfl (Nat.le_of_ble_eq_true rfl)) (fun I2 h2 => ?_)
      obtain ⟨hQ, hz2⟩ := h2
      refine j_aload_n (pc := 35) dX1_firstRoom_35 rfl ?_
      refine j_iload (pc := 36) dX1_firstRoom_36 rfl ?_
      refine j_goI (pc := 38) (j_runV k_X1_51 m_X1_roomsAhead (c_rAhead X I2 (qt f ((k + n - q : Nat) : Int)) w hw hQ) dX1_firstRoom_38 rfl (by decide) rfl (by decide) (by decide) rfl rfl (Nat.le_of_ble_eq_true rfl)) (fun r3 I3 h3 => ?_)
      obtain ⟨v, rfl, hv, hvb, rfl⟩ := h3
      refine j_istore6 (pc := 41) dX1_firstRoom_41 (by decide) rfl ?_
      refine j_iinc7 (pc := 43) dX1_firstRoom_43 (by decide) rfl ?_
      refine j_goto (pc := 46) 21 dX1_firstRoom_46 (by decide) ?_
      rw [show ((k + n - q : Nat) : Int) + -1 = ((k + n - (q + 1) : Nat) : Int) by omega]
      refine ih (q + 1) v I3 (by omega) (by omega) hv (fun a => ?_) (fun z hz' => (hz2 z hz').trans (hz z hz'))
      rw [hvb a, show k + n + 1 - (q + 1) = k + n - q by omega]
      have e2 : k + n - q + 1 = k + n + 1 - q := by clear hvb hb hz; omega
      have e : wy f j (q + 1) (k + n - q) a ↔ ∃ b, b < 8 ∧ qt f ((k + n - q : Nat) : Int) a b ∧ wy f j q (k + n - q + 1) b := Iff.rfl
      rw [e, e2]
      constructor
      · rintro ⟨h1, b, h2, h3, h4⟩
        exact ⟨h1, b, h2, h4, ((hb b).mp h3).2⟩
      · rintro ⟨h1, b, h2, h3, h4⟩
        exact ⟨h1, b, h2, (hb b).mpr ⟨h2, h4⟩, h3⟩
  refine j_iload (pc := 0) dX1_firstRoom_0 rfl ?_
  refine j_if_ne (pc := 2) 7 dX1_firstRoom_2 (by decide) (by omega) (fun h_2 => ?_) (fun h_2 => ?_)
  · refine j_iconst (pc := 7) dX1_firstRoom_7 ?_
    refine j_iload_n (pc := 8) dX1_firstRoom_8 rfl ?_
    refine j_ishl (pc := 9) dX1_firstRoom_9 ?_
    rw [jshl_n (by omega)]
    refine j_istore6 (pc := 10) dX1_firstRoom_10 (by decide) rfl ?_
    refine j_iload (pc := 12) dX1_firstRoom_12 rfl ?_
    refine j_iload (pc := 14) dX1_firstRoom_14 rfl ?_
    refine j_iadd (pc := 16) dX1_firstRoom_16 ?_
    refine j_iconst (pc := 17) dX1_firstRoom_17 ?_
    refine j_isub (pc := 18) dX1_firstRoom_18 ?_
    refine j_istore7 (pc := 19) dX1_firstRoom_19 (by decide) rfl ?_
    rw [show (k : Int) + ((n + 1 : Nat) : Int) - 1 = ((k + n - 0 : Nat) : Int) by omega]
    refine k21 0 (2 ^ j) I (by omega) (Nat.pow_lt_pow_right (by omega) hj) (fun a => ?_) (fun z _ => rfl)
    rw [tb_pow]
    constructor
    · rintro rfl; exact ⟨hj, rfl⟩
    · rintro ⟨h1, h2⟩; exact h2
  · exact absurd h_2 (by omega)
theorem c_softest (X : jX) (I : jMI) (f : Nat → Int) (i j : Nat) (hH : hR f I 2) (hok : okSt f) (hi : i < 8) (hj : j < 8) : C_X1_leastWorstCreak X [jR 96, jR 2, jI i, jI j] I (fun r I' => (∃ v, isSf f i j v ∧ r = (if v = 99 then -1 else v)) ∧ ∀ z, z ≠ 97 → I' z = I z) := by
  refine CG.of (by decide) [some (jR 96), some (jR 2), some (jI i), some (jI j), none, none, none] rfl (Nat.le_of_ble_eq_true rfl) ?_
  have key : ∀ (t : Nat) (J0 : jMI), t ≤ 10 → (∀ t' : Int, 0 ≤ t' → t' < t → ∀ k, ¬ wlk (et f t') k i j) → (∀ z, z ≠ 97 → J0 z = I z) → ∀ x5 x6, S_X1_leastWorstCreak X 3 [some (jR 96), some (jR 2), some (jI i), some (jI j), some (jI t), x5, x6] [] J0 (fun r I' => (∃ v, isSf f i j v ∧ r = (if v = 99 then -1 else v)) ∧ ∀ z, z ≠ 97 → I' z = I z) := by
    refine mu2 (fun t _ => 10 - t) _ (fun t J0 ih ht hno hz x5 x6 => ?_)
    have hH' : hR f J0 2 := hR_fr hH (fun z hz' => hz z (by omega))
    have k25 : t ≤ 9 → ∀ (J1 : jMI), (∀ z, z ≠ 97 → J1 z = I z) → qB (fun x y => x = y ∨ et f t x y) (J1 97) → ∀ (s w : Nat), 1 ≤ s → s ≤ 8 → w < 2 ^ 8 → (∀ b, w.testBit b = true ↔ (b < 8 ∧ ∃ k, k + 1 ≤ s ∧ wlk (et f t) k i b)) → S_X1_leastWorstCreak X 25 [some (jR 96), some (jR 2), some (jI i), some (jI j), some (jI t), some (jI w), some (jI s)] [] J1 (fun r I' => (∃ v, isSf f i j v ∧ r = (if v = 99 then -1 else v)) ∧ ∀ z, z ≠ 97 → I' z = I z) := by
      intro ht9 J1 hz1 hQ
      refine mu2 (fun s _ => 8 - s) _ (fun s w ihs hs1 hs hw hb => ?_)
      refine j_iload (pc := 25) dX1_leastWorstCreak_25 rfl ?_
      refine j_bipush (pc := 27) dX1_leastWorstCreak_27 (by decide) ?_
      refine j_icmp_ge (pc := 29) 46 dX1_leastWorstCreak_29 (by decide) (by omega) (by omega) (fun h_29 => ?_) (fun h_29 => ?_)
      · refine j_iload (pc := 46) dX1_leastWorstCreak_46 rfl ?_
        refine j_iload_n (pc := 48) dX1_leastWorstCreak_48 rfl ?_
        refine j_goI (pc := 49) (j_runSN k_X1_40 m_X11_bit (c_bit X J1 w j) dX1_leastWorstCreak_49 (by decide) rfl rfl (Nat.le_of_ble_eq_true rfl)) (fun r4 I4 h4 => ?_)
        obtain ⟨rfl, rfl⟩ := h4
        rw [jbit (by omega) (by omega)]
        refine j_iconst (pc := 52) dX1_leastWorstCreak_52 ?_
        refine j_icmp_ne (pc := 53) 59 dX1_leastWorstCreak_53 (by decide) (by split <;> omega) (by omega) (fun h_53 => ?_) (fun h_53 => ?_)
        · refine j_iinc4 (pc := 59) dX1_leastWorstCreak_59 (by decide) rfl ?_
          refine j_goto (pc := 62) 3 dX1_leastWorstCreak_62 (by decide) ?_
          have hwj : ¬ w.testBit j = true := by split at h_53 <;> first | assumption | omega
          refine ih (t + 1) I4 (by omega) (by omega) (fun t' h1 h2 k hk => ?_) hz1 _ _
          by_cases e : t' = t
          · subst e
            obtain ⟨k', h7, hw'⟩ := wlk_short (fun x y h => h.1.2.1) hi k j hk
            exact hwj ((hb j).mpr ⟨hj, k', by omega, hw'⟩)
          · exact hno t' h1 (by omega) k hk
        · refine j_iload (pc := 56) dX1_leastWorstCreak_56 rfl ?_
          refine j_reti dX1_leastWorstCreak_58 (?_) rfl
          have hwj : w.testBit j = true := by split at h_53 <;> first | assumption | omega
          obtain ⟨-, k, h5, h6⟩ := (hb j).mp hwj
          refine ⟨⟨t, Or.inr ⟨by omega, by omega, ⟨k, h6⟩, fun t' h1 h2 => hno t' h1 h2⟩, ?_⟩, hz1⟩
          rw [if_neg (by omega)]
      · refine j_aload_n (pc := 32) dX1_leastWorstCreak_32 rfl ?_
        refine j_iload (pc := 33) dX1_leastWorstCreak_33 rfl ?_
        refine j_goI (pc := 35) (j_runV k_X1_47 m_X1_roomsAfter (c_rAfter X J1 _ w hw hQ) dX1_leastWorstCreak_35 rfl (by decide) rfl (by decide) (by decide) rfl rfl (Nat.le_of_ble_eq_true rfl)) (fun r3 I3 h3 => ?_)
        obtain ⟨v, rfl, hv, hvb, rfl⟩ := h3
        refine j_istore5 (pc := 38) dX1_leastWorstCreak_38 (by decide) rfl ?_
        refine j_iinc6 (pc := 40) dX1_leastWorstCreak_40 (by decide) rfl ?_
        refine j_goto (pc := 43) 25 dX1_leastWorstCreak_43 (by decide) ?_
        refine ihs (s + 1) v (by omega) (by omega) (by omega) hv (fun b => ?_)
        rw [hvb b]
        constructor
        · rintro ⟨h1, a, h2, h3, h4⟩
          obtain ⟨-, k, h5, h6⟩ := (hb a).mp h3
          rcases h4 with rfl | h4
          · exact ⟨h1, k, by omega, h6⟩
          · exact ⟨h1, k + 1, by omega, a, h2, h6, h4⟩
        · rintro ⟨h1, k, h2, h3⟩
          by_cases e : k + 1 ≤ s
          · exact ⟨h1, b, h1, (hb b).mpr ⟨h1, k, e, h3⟩, Or.inl rfl⟩
          · obtain ⟨k', rfl⟩ : ∃ k', k = k' + 1 := ⟨k - 1, by omega⟩
            obtain ⟨c, hc, h4, h5⟩ := h3
            exact ⟨h1, c, hc, (hb c).mpr ⟨hc, k', by omega, h4⟩, Or.inr h5⟩
    refine j_iload (pc := 3) dX1_leastWorstCreak_3 rfl ?_
    refine j_bipush (pc := 5) dX1_leastWorstCreak_5 (by decide) ?_
    refine j_icmp_gt (pc := 7) 65 dX1_leastWorstCreak_7 (by decide) (by omega) (by omega) (fun h_7 => ?_) (fun h_7 => ?_)
    · refine j_iconst (pc := 65) dX1_leastWorstCreak_65 ?_
      refine j_reti dX1_leastWorstCreak_66 (?_) rfl
      refine ⟨⟨99, Or.inl ⟨rfl, fun k => hno 9 (by omega) (by omega) k⟩, ?_⟩, hz⟩
      rw [if_pos rfl]
    · refine j_aload_n (pc := 10) dX1_leastWorstCreak_10 rfl ?_
      refine j_aload_n (pc := 11) dX1_leastWorstCreak_11 rfl ?_
      refine j_iload (pc := 12) dX1_leastWorstCreak_12 rfl ?_
      refine j_goV (pc := 14) (j_runV k_X1_54 m_X1_allowCreaks (c_allow X J0 f t hH' hok (by omega)) dX1_leastWorstCreak_14 rfl (by decide) rfl (by decide) (by decide) rfl rfl (Nat.le_of_ble_eq_true rfl)) (fun I2 h2 => ?_)
      obtain ⟨hQ, hz2⟩ := h2
      refine j_iconst (pc := 17) dX1_leastWorstCreak_17 ?_
      refine j_iload_n (pc := 18) dX1_leastWorstCreak_18 rfl ?_
      refine j_ishl (pc := 19) dX1_leastWorstCreak_19 ?_
      rw [jshl_n (by omega)]
      refine j_istore5 (pc := 20) dX1_leastWorstCreak_20 (by decide) rfl ?_
      refine j_iconst (pc := 22) dX1_leastWorstCreak_22 ?_
      refine j_istore6 (pc := 23) dX1_leastWorstCreak_23 (by decide) rfl ?_
      refine k25 (by omega) I2 (fun z hz' => (hz2 z hz').trans (hz z hz')) hQ 1 (2 ^ i) (by omega) (by omega) (Nat.pow_lt_pow_right (by omega) hi) (fun b => ?_)
      rw [tb_pow]
      constructor
      · rintro rfl; exact ⟨hi, 0, by omega, rfl⟩
      · rintro ⟨h1, k, h2, h3⟩
        obtain rfl : k = 0 := by omega
        exact Eq.symm h3
  refine j_iconst (pc := 0) dX1_leastWorstCreak_0 ?_
  refine j_istore4 (pc := 1) dX1_leastWorstCreak_1 (by decide) rfl ?_
  exact key 0 I (by omega) (fun t' h1 h2 => by omega) (fun z _ => rfl) _ _
