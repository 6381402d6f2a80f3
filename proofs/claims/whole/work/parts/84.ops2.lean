/-! ===== one call of both: of, owed, canNot, may, ways, listen, nights ===== -/
theorem bt_yes {w t : Nat} {P : Nat → Prop} (hb : ∀ i, w.testBit i = true ↔ (i < t ∧ P i)) (hp : P t) : ∀ i, (w ||| 2 ^ t).testBit i = true ↔ (i < t + 1 ∧ P i) := by
  intro i
  rw [tb_or, tb_pow, hb i]
  constructor
  · rintro (⟨h1, h2⟩ | rfl)
    · exact ⟨by omega, h2⟩
    · exact ⟨by omega, hp⟩
  · rintro ⟨h1, h2⟩
    by_cases hit : i = t
    · exact Or.inr hit
    · exact Or.inl ⟨by omega, h2⟩
theorem bt_no {w t : Nat} {P : Nat → Prop} (hb : ∀ i, w.testBit i = true ↔ (i < t ∧ P i)) (hp : ¬ P t) : ∀ i, w.testBit i = true ↔ (i < t + 1 ∧ P i) := by
  intro i
  rw [hb i]
  constructor
  · rintro ⟨h1, h2⟩; exact ⟨by omega, h2⟩
  · rintro ⟨h1, h2⟩
    by_cases hit : i = t
    · subst hit; exact absurd h2 hp
    · exact ⟨by omega, h2⟩
set_option maxHeartbeats 1000000 in
theorem o_owed (X : jX) (I : jMI) (p : Int) (hI : Inv I) (hp : -2147483648 ≤ p ∧ p < 2147483648) : C_X11_owed X [jR 0, jI p] I (fun v I1 => C_X12_owed X [jR 105, jI p] I1 (fun v' I2 => v' = v ∧ Inv I2)) := by
  refine CG.of (by decide) [some (jR 0), some (jI p), none, none] rfl (Nat.le_of_ble_eq_true rfl) ?_
  have hok := hI.ok
  have hH := hI.hR
  obtain ⟨T, hT, hT5⟩ := okSt_21 hok
  have key : (0 ≤ p ∧ p ≤ 2) → ∀ (t v : Nat), t ≤ T → v < 2 ^ 5 → (∀ i, v.testBit i = true ↔ (i < t ∧ owP (I 106) p i)) → S_X11_owed X 18 [some (jR 0), some (jI p), some (jI v), some (jI t)] [] I (fun v I1 => C_X12_owed X [jR 105, jI p] I1 (fun v' I2 => v' = v ∧ Inv I2)) := by
    intro hp2
    refine mu2 (fun t _ => 5 - t) _ (fun t v ih ht hv hb => ?_)
    refine j_iload_n (pc := 18) dX11_owed_18 rfl ?_
    refine j_aload_n (pc := 19) dX11_owed_19 rfl ?_
    refine j_getR (pc := 20) f_X11_10 dX11_owed_20 rfl rfl (by decide) rfl ?_
    refine j_getR (pc := 23) f_X11_63 dX11_owed_23 rfl rfl (by decide) rfl ?_
    refine j_getI (pc := 26) f_X11_102 dX11_owed_26 rfl rfl (by decide) ?_
    rw [hH.2.1.trans hT]
    refine j_icmp_ge (pc := 29) 59 dX11_owed_29 (by decide) (by omega) (by omega) (fun h_29 => ?_) (fun h_29 => ?_)
    · refine j_iload_n (pc := 59) dX11_owed_59 rfl ?_
      refine j_reti dX11_owed_60 (?_) rfl
      refine c_mowed X _ p _ hp hok (fun h => by omega) (fun w _ hw => ⟨?_, hI⟩)
      rw [show w = v from bt_uniq hw (fun i => (hb i).trans ⟨fun h => ⟨by omega, h.2⟩, fun h => ⟨by omega, h.2⟩⟩)]
    · refine j_aload_n (pc := 32) dX11_owed_32 rfl ?_
      refine j_getR (pc := 33) f_X11_10 dX11_owed_33 rfl rfl (by decide) rfl ?_
      refine j_getR (pc := 36) f_X11_63 dX11_owed_36 rfl rfl (by decide) rfl ?_
      refine j_iload_n (pc := 39) dX11_owed_39 rfl ?_
      refine j_iload_n (pc := 40) dX11_owed_40 rfl ?_
      refine j_goI (pc := 41) (j_runV k_X11_210 m_X2_wasTakenFrom (c_taken X I (I 106) t p hH hok (by omega) hp2) dX11_owed_41 rfl (by decide) rfl (by decide) (by decide) rfl rfl (Nat.le_of_ble_eq_true rfl)) (fun r1 I1 h1 => ?_)
      obtain ⟨h1, rfl⟩ := h1
      have hr1 : r1 = 0 ∨ r1 = 1 := h1.elim (fun h => Or.inr h.1) (fun h => Or.inl h.1)
      have hp1 : r1 = 1 → owP (I1 106) p t := fun e => h1.elim (fun h => h.2) (fun h => absurd h.1 (by omega))
      have hp0 : r1 = 0 → ¬ owP (I1 106) p t := fun e => h1.elim (fun h => absurd h.1 (by omega)) (fun h => h.2)
      clear h1
      refine j_if_eq (pc := 44) 53 dX11_owed_44 (by decide) (by omega) (fun h_44 => ?_) (fun h_44 => ?_)
      · refine j_iinc3 (pc := 53) dX11_owed_53 (by decide) rfl ?_
        refine j_goto (pc := 56) 18 dX11_owed_56 (by decide) ?_
        first
          | (have hguard : r1 = 1 := by omega
             exact ih (t + 1) (v ||| 2 ^ t) (by omega) (by omega) (lt_or_pow hv (by omega)) (bt_yes hb (hp1 hguard)))
          | exact ih (t + 1) v (by omega) (by omega) hv (bt_no hb (hp0 (by omega)))
      · refine j_iload_n (pc := 47) dX11_owed_47 rfl ?_
        refine j_iconst (pc := 48) dX11_owed_48 ?_
        refine j_iload_n (pc := 49) dX11_owed_49 rfl ?_
        refine j_ishl (pc := 50) dX11_owed_50 ?_
        rw [jshl_n (by omega)]
        refine j_ior (pc := 51) dX11_owed_51 ?_
        have h2t : (2 : Nat) ^ t < 2 ^ 5 := Nat.pow_lt_pow_right (by omega) (by omega)
        rw [jbor_n (by omega) (by omega)]
        refine j_istore_n2 (pc := 52) dX11_owed_52 (by decide) rfl ?_
        refine j_iinc3 (pc := 53) dX11_owed_53 (by decide) rfl ?_
        refine j_goto (pc := 56) 18 dX11_owed_56 (by decide) ?_
        first
          | (have hguard : r1 = 1 := by omega
             exact ih (t + 1) (v ||| 2 ^ t) (by omega) (by omega) (lt_or_pow hv (by omega)) (bt_yes hb (hp1 hguard)))
          | exact ih (t + 1) v (by omega) (by omega) hv (bt_no hb (hp0 (by omega)))
  refine j_iload_n (pc := 0) dX11_owed_0 rfl ?_
  refine j_goI (pc := 1) (j_runS k_X11_111 m_X11_isPupil (c_xpupil X I p hp) dX11_owed_1 (by decide) rfl rfl (Nat.le_of_ble_eq_true rfl)) (fun r1 I1 h1 => ?_)
  obtain ⟨h1, rfl⟩ := h1
  refine j_if_ne (pc := 4) 14 dX11_owed_4 (by decide) (by omega) (fun h_4 => ?_) (fun h_4 => ?_)
  · refine j_iconst (pc := 14) dX11_owed_14 ?_
    refine j_istore_n2 (pc := 15) dX11_owed_15 (by decide) rfl ?_
    refine j_iconst (pc := 16) dX11_owed_16 ?_
    refine j_istore_n3 (pc := 17) dX11_owed_17 (by decide) rfl ?_
    exact key (by omega) 0 0 (by omega) (by omega) (fun i => by simp)
  · refine j_aload_n (pc := 7) dX11_owed_7 rfl ?_
    refine j_bipush (pc := 8) dX11_owed_8 (by decide) ?_
    refine j_goI (pc := 10) (j_runV k_X11_84 m_X11_refuseBad (c_xbad X _ (-2)) dX11_owed_10 rfl (by decide) rfl (by decide) (by decide) rfl rfl (Nat.le_of_ble_eq_true rfl)) (fun r3 I3 h3 => ?_)
    obtain ⟨rfl, rfl⟩ := h3
    refine j_reti dX11_owed_13 (?_) rfl
    exact c_mowed X _ p _ hp (ok_ref hI 0) (fun _ => ⟨rfl, Inv_ref hI (by omega)⟩) (fun w h _ => by omega)
theorem isL_dawn {f : Nat → Int} {b : Nat} (hb : b < 8) : isL f b 0 0 99 ↔ ¬ wy f b 59 0 0 := by
  constructor
  · rintro (⟨-, h⟩ | ⟨n, h, h1, -⟩)
    · exact h 59 (by omega)
    · omega
  · intro h
    refine Or.inl ⟨rfl, fun n hn hw => h ?_⟩
    have := wy_up hb (by omega) (59 - n) n hw
    rw [show n + (59 - n) = 59 by omega] at this
    exact this
set_option maxHeartbeats 1000000 in
theorem o_canNot (X : jX) (I : jMI) (hI : Inv I) : C_X11_canNot X [jR 0] I (fun v I1 => C_X12_canNot X [jR 105] I1 (fun v' I2 => v' = v ∧ Inv I2)) := by
  refine CG.of (by decide) [some (jR 0), none, none, none] rfl (Nat.le_of_ble_eq_true rfl) ?_
  have key : ∀ (T w : Nat) (J : jMI), Inv J → J 106 21 = (T : Nat) → T ≤ 5 → w < 2 ^ 8 → (∀ b, w.testBit b = true ↔ (b < 8 ∧ wy (J 106) b 59 0 0)) → ∀ (t v : Nat), t ≤ T → v < 2 ^ 5 → (∀ i, v.testBit i = true ↔ (i < t ∧ isL (J 106) (J 106 (22 + i)).toNat 0 0 99)) → S_X11_canNot X 19 [some (jR 0), some (jI w), some (jI v), some (jI t)] [] J (fun v I1 => C_X12_canNot X [jR 105] I1 (fun v' I2 => v' = v ∧ Inv I2)) := by
    intro T w J hJ hT hT5 hw8 hw
    have hok := hJ.ok
    have hH := hJ.hR
    refine mu2 (fun t _ => 5 - t) _ (fun t v ih ht hv hb => ?_)
    refine j_iload_n (pc := 19) dX11_canNot_19 rfl ?_
    refine j_aload_n (pc := 20) dX11_canNot_20 rfl ?_
    refine j_getR (pc := 21) f_X11_10 dX11_canNot_21 rfl rfl (by decide) rfl ?_
    refine j_getR (pc := 24) f_X11_63 dX11_canNot_24 rfl rfl (by decide) rfl ?_
    refine j_getI (pc := 27) f_X11_102 dX11_canNot_27 rfl rfl (by decide) ?_
    rw [hH.2.1.trans hT]
    refine j_icmp_ge (pc := 30) 64 dX11_canNot_30 (by decide) (by omega) (by omega) (fun h_30 => ?_) (fun h_30 => ?_)
    · refine j_iload_n (pc := 64) dX11_canNot_64 rfl ?_
      refine j_reti dX11_canNot_65 (?_) rfl
      refine c_mcanNot X _ _ hok (fun w' I' hw' hsc => ⟨?_, Inv_sc hJ hsc⟩)
      rw [show w' = v from bt_uniq hw' (fun i => (hb i).trans ⟨fun h => ⟨by omega, h.2⟩, fun h => ⟨by omega, h.2⟩⟩)]
    · obtain ⟨h, hh, hh8⟩ := okSt_22 hok (show t < 5 by omega)
      have hh15 : J 15 t = (h : Int) := (hH.2.2.2.2.2 t (by omega)).1.trans hh
      have hiff := isL_dawn (f := J 106) hh8
      have hwh := hw h
      refine j_iload_n (pc := 33) dX11_canNot_33 rfl ?_
      refine j_aload_n (pc := 34) dX11_canNot_34 rfl ?_
      refine j_getR (pc := 35) f_X11_10 dX11_canNot_35 rfl rfl (by decide) rfl ?_
      refine j_getR (pc := 38) f_X11_63 dX11_canNot_38 rfl rfl (by decide) rfl ?_
      refine j_getR (pc := 41) f_X11_216 dX11_canNot_41 rfl rfl (by decide) rfl ?_
      refine j_iload_n (pc := 44) dX11_canNot_44 rfl ?_
      refine j_iald_b (pc := 45) (t) dX11_canNot_45 rfl (by decide) (by decide) (by omega) (by omega) ?_
      rw [hh15]
      refine j_goI (pc := 46) (j_runS k_X11_183 m_X11_bit (c_bit X J w h) dX11_canNot_46 (by decide) rfl rfl (Nat.le_of_ble_eq_true rfl)) (fun r1 I1 h1 => ?_)
      obtain ⟨rfl, rfl⟩ := h1
      rw [jbit (by omega) (by omega)]
      refine j_if_ne (pc := 49) 58 dX11_canNot_49 (by decide) (by split <;> omega) (fun h_49 => ?_) (fun h_49 => ?_)
      · refine j_iinc3 (pc := 58) dX11_canNot_58 (by decide) rfl ?_
        refine j_goto (pc := 61) 19 dX11_canNot_61 (by decide) ?_
        first
          | (have hguard : w.testBit h = false := by cases q : w.testBit h with
               | false => rfl
               | true => rw [q] at h_49; simp at h_49
             have hp : isL (I1 106) (I1 106 (22 + t)).toNat 0 0 99 := by
               rw [hh, Int.toNat_natCast]
               refine hiff.mpr (fun hwy => ?_)
               have := hwh.mpr ⟨hh8, hwy⟩
               rw [hguard] at this
               exact absurd this (by simp)
             exact ih (t + 1) (v ||| 2 ^ t) (by omega) (by omega) (lt_or_pow hv (by omega)) (bt_yes hb hp))
          | (have hguard : w.testBit h = true := by cases q : w.testBit h with
               | true => rfl
               | false => rw [q] at h_49; simp at h_49
             have hp : ¬ isL (I1 106) (I1 106 (22 + t)).toNat 0 0 99 := by
               rw [hh, Int.toNat_natCast]
               exact fun q => (hiff.mp q) (hwh.mp hguard).2
             exact ih (t + 1) v (by omega) (by omega) hv (bt_no hb hp))
      · refine j_iload_n (pc := 52) dX11_canNot_52 rfl ?_
        refine j_iconst (pc := 53) dX11_canNot_53 ?_
        refine j_iload_n (pc := 54) dX11_canNot_54 rfl ?_
        refine j_ishl (pc := 55) dX11_canNot_55 ?_
        rw [jshl_n (by omega)]
        refine j_ior (pc := 56) dX11_canNot_56 ?_
        have h2t : (2 : Nat) ^ t < 2 ^ 5 := Nat.pow_lt_pow_right (by omega) (by omega)
        rw [jbor_n (by omega) (by omega)]
        refine j_istore_n2 (pc := 57) dX11_canNot_57 (by decide) rfl ?_
        refine j_iinc3 (pc := 58) dX11_canNot_58 (by decide) rfl ?_
        refine j_goto (pc := 61) 19 dX11_canNot_61 (by decide) ?_
        first
          | (have hguard : w.testBit h = false := by cases q : w.testBit h with
               | false => rfl
               | true => rw [q] at h_49; simp at h_49
             have hp : isL (I1 106) (I1 106 (22 + t)).toNat 0 0 99 := by
               rw [hh, Int.toNat_natCast]
               refine hiff.mpr (fun hwy => ?_)
               have := hwh.mpr ⟨hh8, hwy⟩
               rw [hguard] at this
               exact absurd this (by simp)
             exact ih (t + 1) (v ||| 2 ^ t) (by omega) (by omega) (lt_or_pow hv (by omega)) (bt_yes hb hp))
          | (have hguard : w.testBit h = true := by cases q : w.testBit h with
               | true => rfl
               | false => rw [q] at h_49; simp at h_49
             have hp : ¬ isL (I1 106) (I1 106 (22 + t)).toNat 0 0 99 := by
               rw [hh, Int.toNat_natCast]
               exact fun q => (hiff.mp q) (hwh.mp hguard).2
             exact ih (t + 1) v (by omega) (by omega) hv (bt_no hb hp))
  refine j_aload_n (pc := 0) dX11_canNot_0 rfl ?_
  refine j_getR (pc := 1) f_X11_41 dX11_canNot_1 rfl rfl (by decide) rfl ?_
  refine j_aload_n (pc := 4) dX11_canNot_4 rfl ?_
  refine j_getR (pc := 5) f_X11_10 dX11_canNot_5 rfl rfl (by decide) rfl ?_
  refine j_getR (pc := 8) f_X11_63 dX11_canNot_8 rfl rfl (by decide) rfl ?_
  refine j_goI (pc := 11) (j_runV k_X11_213 m_X1_reachedByDawn (c_dawn X I (I 106) hI.hR hI.ok) dX11_canNot_11 rfl (by decide) rfl (by decide) (by decide) rfl rfl (Nat.le_of_ble_eq_true rfl)) (fun r1 I1 h1 => ?_)
  obtain ⟨w, rfl, hw8, hw, hz⟩ := h1
  have hI1 := Inv_cs hI (fun z _ hzz => hz z (by omega))
  have e6 := hz 106 (by omega)
  obtain ⟨T, hT, hT5⟩ := okSt_21 hI1.ok
  refine j_istore_n1 (pc := 14) dX11_canNot_14 (by decide) rfl ?_
  refine j_iconst (pc := 15) dX11_canNot_15 ?_
  refine j_istore_n2 (pc := 16) dX11_canNot_16 (by decide) rfl ?_
  refine j_iconst (pc := 17) dX11_canNot_17 ?_
  refine j_istore_n3 (pc := 18) dX11_canNot_18 (by decide) rfl ?_
  exact key T w I1 hI1 hT hT5 hw8 (by rw [e6]; exact hw) 0 0 (by omega) (by omega) (fun i => by simp)
set_option maxHeartbeats 1000000 in
theorem o_may (X : jX) (I : jMI) (m : Int) (hI : Inv I) (hm : -2147483648 ≤ m ∧ m < 2147483648) : C_X11_may X [jR 0, jI m] I (fun v I1 => C_X12_may X [jR 105, jI m] I1 (fun v' I2 => v' = v ∧ Inv I2)) := by
  refine CG.of (by decide) [some (jR 0), some (jI m)] rfl (Nat.le_of_ble_eq_true rfl) ?_
  obtain ⟨u, u1, u2, u3⟩ := hI.1
  refine j_iload_n (pc := 0) dX11_may_0 rfl ?_
  refine j_bipush (pc := 1) dX11_may_1 (by decide) ?_
  refine j_goI (pc := 3) (j_runS k_X11_80 m_X11_within (c_xin X I m 12 hm (by omega)) dX11_may_3 (by decide) rfl rfl (Nat.le_of_ble_eq_true rfl)) (fun r1 I1 h1 => ?_)
  obtain ⟨h1, rfl⟩ := h1
  refine j_if_ne (pc := 6) 16 dX11_may_6 (by decide) (by omega) (fun h_6 => ?_) (fun h_6 => ?_)
  · refine j_aload_n (pc := 16) dX11_may_16 rfl ?_
    refine j_getR (pc := 17) f_X11_48 dX11_may_17 rfl rfl (by decide) rfl ?_
    refine j_aload_n (pc := 20) dX11_may_20 rfl ?_
    refine j_getR (pc := 21) f_X11_10 dX11_may_21 rfl rfl (by decide) rfl ?_
    refine j_goV (pc := 24) (j_runV k_X11_225 m_X9_tally (c_tally X I1 (I1 106) (I1 111) u u3 u2.1) dX11_may_24 rfl (by decide) rfl (by decide) (by decide) rfl rfl (Nat.le_of_ble_eq_true rfl)) (fun I4 h4 => ?_)
    obtain ⟨hq, hz⟩ := h4
    have hI4 := Inv_cs hI (fun z _ hzz => hz z (by omega) (by omega) (by omega))
    have e6 := hz 106 (by omega) (by omega) (by omega)
    obtain ⟨i, rfl⟩ := Int.eq_ofNat_of_zero_le (show 0 ≤ m by omega)
    refine j_aload_n (pc := 27) dX11_may_27 rfl ?_
    refine j_getR (pc := 28) f_X11_48 dX11_may_28 rfl rfl (by decide) rfl ?_
    refine j_iload_n (pc := 31) dX11_may_31 rfl ?_
    refine j_goI (pc := 32) (j_runV k_X11_229 m_X9_roomsIn (c_roomsIn X I4 (I1 106) i hq (by omega)) dX11_may_32 rfl (by decide) rfl (by decide) (by decide) rfl rfl (Nat.le_of_ble_eq_true rfl)) (fun r5 I5 h5 => ?_)
    obtain ⟨⟨w, rfl, hw⟩, rfl⟩ := h5
    refine j_reti dX11_may_35 (?_) rfl
    refine c_mmay X _ i _ hm hI4.ok (fun h => by omega) (fun i' w' I' e1 h hw' hsc => ⟨?_, Inv_sc hI4 hsc⟩)
    obtain rfl : i = i' := by omega
    rw [e6] at hw'
    rw [show w' = w from bt_uniq hw' hw]
  · refine j_aload_n (pc := 9) dX11_may_9 rfl ?_
    refine j_bipush (pc := 10) dX11_may_10 (by decide) ?_
    refine j_goI (pc := 12) (j_runV k_X11_84 m_X11_refuseBad (c_xbad X _ (-2)) dX11_may_12 rfl (by decide) rfl (by decide) (by decide) rfl rfl (Nat.le_of_ble_eq_true rfl)) (fun r3 I3 h3 => ?_)
    obtain ⟨rfl, rfl⟩ := h3
    refine j_reti dX11_may_15 (?_) rfl
    exact c_mmay X _ m _ hm (ok_ref hI 0) (fun _ => ⟨rfl, Inv_ref hI (by omega)⟩) (fun i w I' e1 h _ _ => by omega)
set_option maxHeartbeats 1000000 in
theorem o_ways (X : jX) (I : jMI) (hI : Inv I) : C_X11_ways X [jR 0] I (fun v I1 => C_X12_ways X [jR 105] I1 (fun v' I2 => v' = v ∧ Inv I2)) := by
  refine CG.of (by decide) [some (jR 0)] rfl (Nat.le_of_ble_eq_true rfl) ?_
  obtain ⟨u, u1, u2, u3⟩ := hI.1
  refine j_aload_n (pc := 0) dX11_ways_0 rfl ?_
  refine j_getR (pc := 1) f_X11_48 dX11_ways_1 rfl rfl (by decide) rfl ?_
  refine j_aload_n (pc := 4) dX11_ways_4 rfl ?_
  refine j_getR (pc := 5) f_X11_10 dX11_ways_5 rfl rfl (by decide) rfl ?_
  refine j_goV (pc := 8) (j_runV k_X11_225 m_X9_tally (c_tally X I (I 106) (I 111) u u3 u2.1) dX11_ways_8 rfl (by decide) rfl (by decide) (by decide) rfl rfl (Nat.le_of_ble_eq_true rfl)) (fun I4 h4 => ?_)
  obtain ⟨hq, hz⟩ := h4
  have hI4 := Inv_cs hI (fun z _ hzz => hz z (by omega) (by omega) (by omega))
  have e6 := hz 106 (by omega) (by omega) (by omega)
  refine j_aload_n (pc := 11) dX11_ways_11 rfl ?_
  refine j_getR (pc := 12) f_X11_48 dX11_ways_12 rfl rfl (by decide) rfl ?_
  refine j_goL (pc := 15) (j_runV k_X11_232 m_X9_total (c_total X I4 (I 106) hq) dX11_ways_15 rfl (by decide) rfl (by decide) (by decide) rfl rfl (Nat.le_of_ble_eq_true rfl)) (fun r5 I5 h5 => ?_)
  obtain ⟨e5, rfl⟩ := h5
  refine j_retl dX11_ways_18 (?_) rfl
  refine c_mways X _ _ hI4.ok (fun I' hsc => ⟨?_, Inv_sc hI4 hsc⟩)
  rw [e6, e5]
set_option maxHeartbeats 1000000 in
theorem o_listen (X : jX) (I : jMI) (m : Int) (hI : Inv I) (hm : -2147483648 ≤ m ∧ m < 2147483648) : C_X11_listen X [jR 0, jI m] I (fun v I1 => C_X12_listen X [jR 105, jI m] I1 (fun v' I2 => v' = v ∧ Inv I2)) := by
  refine CG.of (by decide) [some (jR 0), some (jI m)] rfl (Nat.le_of_ble_eq_true rfl) ?_
  obtain ⟨u, u1, u2, u3⟩ := hI.1
  refine j_iload_n (pc := 0) dX11_listen_0 rfl ?_
  refine j_bipush (pc := 1) dX11_listen_1 (by decide) ?_
  refine j_goI (pc := 3) (j_runS k_X11_80 m_X11_within (c_xin X I m 11 hm (by omega)) dX11_listen_3 (by decide) rfl rfl (Nat.le_of_ble_eq_true rfl)) (fun r1 I1 h1 => ?_)
  obtain ⟨h1, rfl⟩ := h1
  refine j_if_ne (pc := 6) 16 dX11_listen_6 (by decide) (by omega) (fun h_6 => ?_) (fun h_6 => ?_)
  · refine j_aload_n (pc := 16) dX11_listen_16 rfl ?_
    refine j_getR (pc := 17) f_X11_48 dX11_listen_17 rfl rfl (by decide) rfl ?_
    refine j_aload_n (pc := 20) dX11_listen_20 rfl ?_
    refine j_getR (pc := 21) f_X11_10 dX11_listen_21 rfl rfl (by decide) rfl ?_
    refine j_goV (pc := 24) (j_runV k_X11_225 m_X9_tally (c_tally X I1 (I1 106) (I1 111) u u3 u2.1) dX11_listen_24 rfl (by decide) rfl (by decide) (by decide) rfl rfl (Nat.le_of_ble_eq_true rfl)) (fun I4 h4 => ?_)
    obtain ⟨hq, hz⟩ := h4
    have hI4 := Inv_cs hI (fun z _ hzz => hz z (by omega) (by omega) (by omega))
    have e6 := hz 106 (by omega) (by omega) (by omega)
    have hN4 := nR_fr (I' := I4) u3 (fun z hzz => hz z (by omega) (by omega) (by omega))
    obtain ⟨i, rfl⟩ := Int.eq_ofNat_of_zero_le (show 0 ≤ m by omega)
    obtain ⟨S, hS, hS5⟩ := okSt_5 u2.1
    refine j_aload_n (pc := 27) dX11_listen_27 rfl ?_
    refine j_getR (pc := 28) f_X11_48 dX11_listen_28 rfl rfl (by decide) rfl ?_
    refine j_aload_n (pc := 31) dX11_listen_31 rfl ?_
    refine j_getR (pc := 32) f_X11_10 dX11_listen_32 rfl rfl (by decide) rfl ?_
    refine j_getR (pc := 35) f_X11_63 dX11_listen_35 rfl rfl (by decide) rfl ?_
    refine j_iload_n (pc := 38) dX11_listen_38 rfl ?_
    refine j_goI (pc := 39) (j_runV k_X11_236 m_X9_bestListener (c_best X I4 (I1 106) (I1 111) u i hN4 u2.1 hq (by omega)) dX11_listen_39 rfl (by decide) rfl (by decide) (by decide) rfl rfl (Nat.le_of_ble_eq_true rfl)) (fun r5 I5 h5 => ?_)
    obtain ⟨hv, rfl⟩ := h5
    refine j_reti dX11_listen_42 (?_) rfl
    refine c_mlisten X _ i _ hm hI4.ok (fun h => by omega) (fun i' w' I' e1 h hw' hsc => ⟨?_, Inv_sc hI4 hsc⟩)
    obtain rfl : i = i' := by omega
    rw [e6] at hw'
    exact isLs_uniq (by omega) hw' hv
  · refine j_aload_n (pc := 9) dX11_listen_9 rfl ?_
    refine j_bipush (pc := 10) dX11_listen_10 (by decide) ?_
    refine j_goI (pc := 12) (j_runV k_X11_84 m_X11_refuseBad (c_xbad X _ (-2)) dX11_listen_12 rfl (by decide) rfl (by decide) (by decide) rfl rfl (Nat.le_of_ble_eq_true rfl)) (fun r3 I3 h3 => ?_)
    obtain ⟨rfl, rfl⟩ := h3
    refine j_reti dX11_listen_15 (?_) rfl
    exact c_mlisten X _ m _ hm (ok_ref hI 0) (fun _ => ⟨rfl, Inv_ref hI (by omega)⟩) (fun i w I' e1 h _ _ => by omega)
set_option maxHeartbeats 1000000 in
theorem o_nights (X : jX) (I : jMI) (x n : Int) (hI : Inv I) (hx : -2147483648 ≤ x ∧ x < 2147483648) (hn : -2147483648 ≤ n ∧ n < 2147483648) : C_X11_nights X [jR 0, jI x, jI n] I (fun v I1 => C_X12_nights X [jR 105, jI x, jI n] I1 (fun v' I2 => v' = v ∧ Inv I2)) := by
  refine CG.of (by decide) [some (jR 0), some (jI x), some (jI n)] rfl (Nat.le_of_ble_eq_true rfl) ?_
  obtain ⟨u, u1, u2, u3⟩ := hI.1
  refine j_iload_n (pc := 0) dX11_nights_0 rfl ?_
  refine j_ldc (pc := 1) cn_X11_255 dX11_nights_1 ?_
  refine j_goI (pc := 3) (j_runS k_X11_80 m_X11_within (c_xin X I x 999999 hx (by omega)) dX11_nights_3 (by decide) rfl rfl (Nat.le_of_ble_eq_true rfl)) (fun r1 I1 h1 => ?_)
  obtain ⟨h1, rfl⟩ := h1
  refine j_if_eq (pc := 6) 18 dX11_nights_6 (by decide) (by omega) (fun h_6 => ?_) (fun h_6 => ?_)
  · refine j_aload_n (pc := 18) dX11_nights_18 rfl ?_
    refine j_bipush (pc := 19) dX11_nights_19 (by decide) ?_
    refine j_goI (pc := 21) (j_runV k_X11_84 m_X11_refuseBad (c_xbad X _ (-2)) dX11_nights_21 rfl (by decide) rfl (by decide) (by decide) rfl rfl (Nat.le_of_ble_eq_true rfl)) (fun r3 I3 h3 => ?_)
    obtain ⟨rfl, rfl⟩ := h3
    refine j_reti dX11_nights_24 (?_) rfl
    exact c_mnights X _ x n _ hx hn (ok_ref hI 0) (fun _ => ⟨rfl, Inv_ref hI (by omega)⟩) (fun k I' e1 e2 h _ => by omega)
  · refine j_iload_n (pc := 9) dX11_nights_9 rfl ?_
    refine j_bipush (pc := 10) dX11_nights_10 (by decide) ?_
    refine j_goI (pc := 12) (j_runS k_X11_80 m_X11_within (c_xin X I1 n 59 hn (by omega)) dX11_nights_12 (by decide) rfl rfl (Nat.le_of_ble_eq_true rfl)) (fun r2 I2 h2 => ?_)
    obtain ⟨h2, rfl⟩ := h2
    refine j_if_ne (pc := 15) 25 dX11_nights_15 (by decide) (by omega) (fun h_15 => ?_) (fun h_15 => ?_)
    · obtain ⟨k, rfl⟩ := Int.eq_ofNat_of_zero_le (show 0 ≤ n by omega)
      refine j_aload_n (pc := 25) dX11_nights_25 rfl ?_
      refine j_getR (pc := 26) f_X11_10 dX11_nights_26 rfl rfl (by decide) rfl ?_
      refine j_iload_n (pc := 29) dX11_nights_29 rfl ?_
      refine j_iload_n (pc := 30) dX11_nights_30 rfl ?_
      refine j_goI (pc := 31) (j_runV k_X11_256 m_X4_awakeAfter (c_after X I2 (I2 106) (I2 111) u k x u3 u2.1 (by omega) (by omega)) dX11_nights_31 rfl (by decide) rfl (by decide) (by decide) rfl rfl (Nat.le_of_ble_eq_true rfl)) (fun r5 I5 h5 => ?_)
      obtain ⟨rfl, hz⟩ := h5
      have hI5 := Inv_cs hI (fun z hz1 hzz => hz z hz1)
      have e6 := hz 106 (by omega)
      refine j_reti dX11_nights_34 (?_) rfl
      refine c_mnights X _ x k _ hx hn hI5.ok (fun h => by omega) (fun k' I' e1 e2 h hsc => ⟨?_, Inv_sc hI5 hsc⟩)
      obtain rfl : k = k' := by omega
      rw [e6]
    · refine j_aload_n (pc := 18) dX11_nights_18 rfl ?_
      refine j_bipush (pc := 19) dX11_nights_19 (by decide) ?_
      refine j_goI (pc := 21) (j_runV k_X11_84 m_X11_refuseBad (c_xbad X _ (-2)) dX11_nights_21 rfl (by decide) rfl (by decide) (by decide) rfl rfl (Nat.le_of_ble_eq_true rfl)) (fun r3 I3 h3 => ?_)
      obtain ⟨rfl, rfl⟩ := h3
      refine j_reti dX11_nights_24 (?_) rfl
      exact c_mnights X _ x n _ hx hn (ok_ref hI 0) (fun _ => ⟨rfl, Inv_ref hI (by omega)⟩) (fun k I' e1 e2 h _ => by omega)
