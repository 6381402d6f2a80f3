/-! ===== the class: the best listener ===== -/
/-- the best of those that were looked at -/
def bsI (f : Nat → Int) (m s : Nat) (best least : Int) : Prop := (s = 0 ∧ best = -1 ∧ least = 0) ∨ ∃ t : Nat, (t < s ∧ 0 < onF f 12 0) ∧ best = t ∧ least = partF f m t ∧ (∀ z, z < s → partF f m t ≤ partF f m z) ∧ ∀ z, z < t → partF f m t < partF f m z
theorem part_rng (f : Nat → Int) {m : Nat} (hm : m ≤ 11) (s : Nat) : 0 ≤ partF f m s ∧ partF f m s ≤ 68719476736 := by
  have h1 := yes_rng f hm s
  have h2 := onF_small f (show 12 ≤ 12 by omega) 0
  unfold partF
  split <;> omega
theorem c_best (X : jX) (I : jMI) (f ah : Nat → Int) (u m : Nat) (hN : nR f ah u I 1) (hok : okSt f) (h : tlQ f I) (hm : m ≤ 11) : C_X9_bestListener X [jR 100, jR 2, jI m] I (fun r I' => isLs f m r ∧ I' = I) := by
  refine CG.of (by decide) [some (jR 100), some (jR 2), some (jI m), none, none, none, none, none, none, none, none] rfl (Nat.le_of_ble_eq_true rfl) ?_
  obtain ⟨S, hS, hS5⟩ := okSt_5 hok
  have ht := onF_small f (show 12 ≤ 12 by omega) 0
  have jt := jcmp_0 (a := onF f 12 0) (by omega)
  have key : ∀ (s : Nat) (best least : Int), s ≤ S → bsI f m s best least → ∀ x7 x8 x9 x10, S_X9_bestListener X 8 [some (jR 100), some (jR 2), some (jI m), some (jI best), some (jL least), none, some (jI s), x7, x8, x9, x10] [] I (fun r I' => isLs f m r ∧ I' = I) := by
    refine mu3 (fun s _ _ => 5 - s) _ (fun s best least ih hs hb x7 x8 x9 x10 => ?_)
    have hpr := part_rng f hm s
    have hlr : 0 ≤ least ∧ least ≤ 68719476736 := by
      rcases hb with ⟨-, -, h⟩ | ⟨t, -, -, h, -⟩
      · omega
      · have := part_rng f hm t; omega
    have hbr : -1 ≤ best ∧ best ≤ 5 := by
      rcases hb with ⟨-, h, -⟩ | ⟨t, h1, h, -⟩ <;> omega
    have jl := jcmp_lt (a := partF f m s) (b := least) (by omega) (by omega)
    have hy := yes_rng f hm s
    refine j_iload (pc := 8) dX9_bestListener_8 rfl ?_
    refine j_aload_n (pc := 10) dX9_bestListener_10 rfl ?_
    refine j_getI (pc := 11) f_X9_57 dX9_bestListener_11 rfl rfl (by decide) ?_
    rw [show I 2 9 = (S : Int) from hN.1.1.trans hS]
    refine j_icmp_ge (pc := 14) 76 dX9_bestListener_14 (by decide) (by omega) (by omega) (fun h_14 => ?_) (fun h_14 => ?_)
    · refine j_iload_n (pc := 76) dX9_bestListener_76 rfl ?_
      refine j_reti dX9_bestListener_77 (?_) rfl
      refine ⟨?_, rfl⟩
      first
        | (have hguard : onF f 12 0 = 0 := by split at h_23 <;> omega
           rcases hb with ⟨e1, e2, e3⟩ | ⟨t, g1, g2, g3, g4, g5⟩
           · exact Or.inl ⟨e2, Or.inr hguard⟩
           · omega)
        | (obtain rfl : s = S := by omega
           rcases hb with ⟨e1, e2, e3⟩ | ⟨t, g1, g2, g3, g4, g5⟩
           · exact Or.inl ⟨e2, Or.inl (by omega)⟩
           · exact Or.inr ⟨t, g2, by omega, g1.2, fun z hz => g4 z (by omega), g5⟩)
    · refine j_aload_n (pc := 17) dX9_bestListener_17 rfl ?_
      refine j_goL (pc := 18) (j_runV k_X9_61 m_X9_total (c_total X I f h) dX9_bestListener_18 rfl (by decide) rfl (by decide) (by decide) rfl rfl (Nat.le_of_ble_eq_true rfl)) (fun r1 I1 h1 => ?_)
      obtain ⟨rfl, rfl⟩ := h1
      refine j_lconst0 (pc := 21) dX9_bestListener_21 ?_
      refine j_lcmp (pc := 22) dX9_bestListener_22 ?_
      rw [jt]
      refine j_if_le (pc := 23) 76 dX9_bestListener_23 (by decide) (by split <;> omega) (fun h_23 => ?_) (fun h_23 => ?_)
      · refine j_iload_n (pc := 76) dX9_bestListener_76 rfl ?_
        refine j_reti dX9_bestListener_77 (?_) rfl
        refine ⟨?_, rfl⟩
        first
          | (have hguard : onF f 12 0 = 0 := by split at h_23 <;> omega
             rcases hb with ⟨e1, e2, e3⟩ | ⟨t, g1, g2, g3, g4, g5⟩
             · exact Or.inl ⟨e2, Or.inr hguard⟩
             · omega)
          | (obtain rfl : s = S := by omega
             rcases hb with ⟨e1, e2, e3⟩ | ⟨t, g1, g2, g3, g4, g5⟩
             · exact Or.inl ⟨e2, Or.inl (by omega)⟩
             · exact Or.inr ⟨t, g2, by omega, g1.2, fun z hz => g4 z (by omega), g5⟩)
      · refine j_aload_n (pc := 26) dX9_bestListener_26 rfl ?_
        refine j_aload_n (pc := 27) dX9_bestListener_27 rfl ?_
        refine j_iload (pc := 28) dX9_bestListener_28 rfl ?_
        refine j_iload_n (pc := 30) dX9_bestListener_30 rfl ?_
        refine j_goL (pc := 31) (j_runV k_X9_65 m_X9_rowsHeardBy (c_hrdBy X I1 f ah u s m hN hok h (by omega) hm) dX9_bestListener_31 rfl (by decide) rfl (by decide) (by decide) rfl rfl (Nat.le_of_ble_eq_true rfl)) (fun r2 I2 h2 => ?_)
        obtain ⟨rfl, rfl⟩ := h2
        refine j_lstore7 (pc := 34) dX9_bestListener_34 (by decide) rfl ?_
        refine j_lload (pc := 36) dX9_bestListener_36 rfl ?_
        refine j_aload_n (pc := 38) dX9_bestListener_38 rfl ?_
        refine j_goL (pc := 39) (j_runV k_X9_61 m_X9_total (c_total X I2 f h) dX9_bestListener_39 rfl (by decide) rfl (by decide) (by decide) rfl rfl (Nat.le_of_ble_eq_true rfl)) (fun r3 I3 h3 => ?_)
        obtain ⟨rfl, rfl⟩ := h3
        refine j_lload (pc := 42) dX9_bestListener_42 rfl ?_
        refine j_lsub (pc := 44) dX9_bestListener_44 ?_
        refine j_goL (pc := 45) (j_runS k_X9_69 m_J9_max_f86c9 (c_max X I3 (yesF f m s) (onF f 12 0 - yesF f m s) (by omega) (by omega)) dX9_bestListener_45 (by decide) rfl rfl (Nat.le_of_ble_eq_true rfl)) (fun r4 I4 h4 => ?_)
        obtain ⟨h4, rfl⟩ := h4
        have e4 : r4 = partF f m s := by rw [h4]; unfold partF; split <;> split <;> omega
        subst e4
        refine j_lstore9 (pc := 48) dX9_bestListener_48 (by decide) rfl ?_
        refine j_iload_n (pc := 50) dX9_bestListener_50 rfl ?_
        refine j_iconst (pc := 51) dX9_bestListener_51 ?_
        refine j_icmp_eq (pc := 52) 63 dX9_bestListener_52 (by decide) (by omega) (by omega) (fun h_52 => ?_) (fun h_52 => ?_)
        · refine j_lload (pc := 63) dX9_bestListener_63 rfl ?_
          refine j_lstore4 (pc := 65) dX9_bestListener_65 (by decide) rfl ?_
          refine j_iload (pc := 67) dX9_bestListener_67 rfl ?_
          refine j_istore_n3 (pc := 69) dX9_bestListener_69 (by decide) rfl ?_
          refine j_iinc6 (pc := 70) dX9_bestListener_70 (by decide) rfl ?_
          refine j_goto (pc := 73) 8 dX9_bestListener_73 (by decide) ?_
          first
            | (have hguard : best = -1 ∨ partF f m s < least := by
                 first
                   | (left; omega)
                   | (right
                      repeat' split at h_60
                      all_goals omega)
               refine ih (s + 1) _ _ (by omega) (by omega) (Or.inr ⟨s, ⟨by omega, by split at h_23 <;> omega⟩, rfl, rfl, fun z hz => ?_, fun z hz => ?_⟩) _ _ _ _
               · by_cases e : z = s
                 · subst e; omega
                 · rcases hb with ⟨e1, -, -⟩ | ⟨t, g1, g2, g3, g4, g5⟩
                   · omega
                   · have := g4 z (by omega); omega
               · rcases hb with ⟨e1, -, -⟩ | ⟨t, g1, g2, g3, g4, g5⟩
                 · omega
                 · have := g4 z hz; omega)
            | (have hguard : best ≠ -1 ∧ least ≤ partF f m s := by
                 refine ⟨by omega, ?_⟩
                 repeat' split at h_60
                 all_goals omega
               refine ih (s + 1) best least (by omega) (by omega) ?_ _ _ _ _
               rcases hb with ⟨e1, e2, e3⟩ | ⟨t, g1, g2, g3, g4, g5⟩
               · omega
               · refine Or.inr ⟨t, ⟨by omega, g1.2⟩, g2, g3, fun z hz => ?_, g5⟩
                 by_cases e : z = s
                 · subst e; omega
                 · exact g4 z (by omega))
        · refine j_lload (pc := 55) dX9_bestListener_55 rfl ?_
          refine j_lload (pc := 57) dX9_bestListener_57 rfl ?_
          refine j_lcmp (pc := 59) dX9_bestListener_59 ?_
          rw [jl]
          refine j_if_ge (pc := 60) 70 dX9_bestListener_60 (by decide) (by repeat' split <;> omega) (fun h_60 => ?_) (fun h_60 => ?_)
          · refine j_iinc6 (pc := 70) dX9_bestListener_70 (by decide) rfl ?_
            refine j_goto (pc := 73) 8 dX9_bestListener_73 (by decide) ?_
            first
              | (have hguard : best = -1 ∨ partF f m s < least := by
                   first
                     | (left; omega)
                     | (right
                        repeat' split at h_60
                        all_goals omega)
                 refine ih (s + 1) _ _ (by omega) (by omega) (Or.inr ⟨s, ⟨by omega, by split at h_23 <;> omega⟩, rfl, rfl, fun z hz => ?_, fun z hz => ?_⟩) _ _ _ _
                 · by_cases e : z = s
                   · subst e; omega
                   · rcases hb with ⟨e1, -, -⟩ | ⟨t, g1, g2, g3, g4, g5⟩
                     · omega
                     · have := g4 z (by omega); omega
                 · rcases hb with ⟨e1, -, -⟩ | ⟨t, g1, g2, g3, g4, g5⟩
                   · omega
                   · have := g4 z hz; omega)
              | (have hguard : best ≠ -1 ∧ least ≤ partF f m s := by
                   refine ⟨by omega, ?_⟩
                   repeat' split at h_60
                   all_goals omega
                 refine ih (s + 1) best least (by omega) (by omega) ?_ _ _ _ _
                 rcases hb with ⟨e1, e2, e3⟩ | ⟨t, g1, g2, g3, g4, g5⟩
                 · omega
                 · refine Or.inr ⟨t, ⟨by omega, g1.2⟩, g2, g3, fun z hz => ?_, g5⟩
                   by_cases e : z = s
                   · subst e; omega
                   · exact g4 z (by omega))
          · refine j_lload (pc := 63) dX9_bestListener_63 rfl ?_
            refine j_lstore4 (pc := 65) dX9_bestListener_65 (by decide) rfl ?_
            refine j_iload (pc := 67) dX9_bestListener_67 rfl ?_
            refine j_istore_n3 (pc := 69) dX9_bestListener_69 (by decide) rfl ?_
            refine j_iinc6 (pc := 70) dX9_bestListener_70 (by decide) rfl ?_
            refine j_goto (pc := 73) 8 dX9_bestListener_73 (by decide) ?_
            first
              | (have hguard : best = -1 ∨ partF f m s < least := by
                   first
                     | (left; omega)
                     | (right
                        repeat' split at h_60
                        all_goals omega)
                 refine ih (s + 1) _ _ (by omega) (by omega) (Or.inr ⟨s, ⟨by omega, by split at h_23 <;> omega⟩, rfl, rfl, fun z hz => ?_, fun z hz => ?_⟩) _ _ _ _
                 · by_cases e : z = s
                   · subst e; omega
                   · rcases hb with ⟨e1, -, -⟩ | ⟨t, g1, g2, g3, g4, g5⟩
                     · omega
                     · have := g4 z (by omega); omega
                 · rcases hb with ⟨e1, -, -⟩ | ⟨t, g1, g2, g3, g4, g5⟩
                   · omega
                   · have := g4 z hz; omega)
              | (have hguard : best ≠ -1 ∧ least ≤ partF f m s := by
                   refine ⟨by omega, ?_⟩
                   repeat' split at h_60
                   all_goals omega
                 refine ih (s + 1) best least (by omega) (by omega) ?_ _ _ _ _
                 rcases hb with ⟨e1, e2, e3⟩ | ⟨t, g1, g2, g3, g4, g5⟩
                 · omega
                 · refine Or.inr ⟨t, ⟨by omega, g1.2⟩, g2, g3, fun z hz => ?_, g5⟩
                   by_cases e : z = s
                   · subst e; omega
                   · exact g4 z (by omega))
  refine j_iconst (pc := 0) dX9_bestListener_0 ?_
  refine j_istore_n3 (pc := 1) dX9_bestListener_1 (by decide) rfl ?_
  refine j_lconst0 (pc := 2) dX9_bestListener_2 ?_
  refine j_lstore4 (pc := 3) dX9_bestListener_3 (by decide) rfl ?_
  refine j_iconst (pc := 5) dX9_bestListener_5 ?_
  refine j_istore6 (pc := 6) dX9_bestListener_6 (by decide) rfl ?_
  exact key 0 (-1) 0 (by omega) (Or.inl ⟨rfl, rfl, rfl⟩) _ _ _ _
