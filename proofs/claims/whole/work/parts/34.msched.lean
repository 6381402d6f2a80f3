/-! ===== the reference: schedule ===== -/
/-- a row of yes and no by pairs of rooms -/
def bA (g : Nat → Int) (P : Nat → Nat → Prop) : Prop := ∀ x y, x < 8 → y < 8 → (g (8 * x + y) = 1 ∧ P x y) ∨ (g (8 * x + y) = 0 ∧ ¬ P x y)
/-- two go at once -/
def go2 (f : Nat → Int) (m : Int) (a b x y : Nat) : Prop := (x ≠ y ∨ x = 0) ∧ ¬ (a ≠ x ∧ b ≠ y ∧ pairN a x = pairN b y) ∧ qt f m a x ∧ qt f m b y
set_option maxHeartbeats 4000000 in
theorem c_bothGo (X : jX) (I : jMI) (a b : Nat) (f : Nat → Int) (m : Int) (P : Nat → Nat → Prop) (ha : a < 8) (hb : b < 8) (hQ : isQ f m (I 112)) (hP : bA (I 115) P) : C_X12_bothGo X [jR 105, jI a, jI b] I (fun I' => bA (I' 115) (fun x y => P x y ∨ go2 f m a b x y) ∧ ∀ k, k ≠ 115 → I' k = I k) := by
  refine CG.of (by decide) [some (jR 105), some (jI a), some (jI b), none, none, none, none] rfl (Nat.le_of_ble_eq_true rfl) ?_
  generalize hq : (fun (I' : jMI) => bA (I' 115) (fun x y => P x y ∨ go2 f m a b x y) ∧ ∀ k, k ≠ 115 → I' k = I k) = q
  have k11 : ∀ (x : Nat), x < 8 → (∀ g x4 x5 x6, bA g (fun x' y' => P x' y' ∨ (x' < x + 1 ∧ go2 f m a b x' y')) → S_X12_bothGo X 125 [some (jR 105), some (jI a), some (jI b), some (jI x), x4, x5, x6] [] (jSf I 115 g) q) →
      ∀ (y : Nat) (g : Nat → Int), y ≤ 8 → bA g (fun x' y' => P x' y' ∨ ((x' < x ∨ (x' = x ∧ y' < y)) ∧ go2 f m a b x' y')) → ∀ x5 x6, S_X12_bothGo X 11 [some (jR 105), some (jI a), some (jI b), some (jI x), some (jI y), x5, x6] [] (jSf I 115 g) q := by
    intro x hx hk
    refine mu2 (fun y _ => 8 - y) _ (fun y g ih hy hg x5 x6 => ?_)
    have hstay : y < 8 → ¬ go2 f m a b x y → bA g (fun x' y' => P x' y' ∨ ((x' < x ∨ (x' = x ∧ y' < y + 1)) ∧ go2 f m a b x' y')) := by
      intro hy8 hno x' y' hx' hy'
      rcases hg x' y' hx' hy' with ⟨e1, h⟩ | ⟨e1, h⟩
      · refine Or.inl ⟨e1, ?_⟩
        rcases h with h | ⟨h1, h2⟩
        · exact Or.inl h
        · exact Or.inr ⟨by omega, h2⟩
      · refine Or.inr ⟨e1, fun h' => h ?_⟩
        rcases h' with h' | ⟨h1, h2⟩
        · exact Or.inl h'
        · refine Or.inr ⟨?_, h2⟩
          by_cases hxy : x' = x ∧ y' = y
          · obtain ⟨rfl, rfl⟩ := hxy; exact absurd h2 hno
          · omega
    have k65 : y < 8 → ∀ (ap os : Int), ((ap = 1 ∧ (x ≠ y ∨ x = 0)) ∨ (ap = 0 ∧ ¬ (x ≠ y ∨ x = 0))) → ((os = 1 ∧ (a ≠ x ∧ b ≠ y ∧ pairN a x = pairN b y)) ∨ (os = 0 ∧ ¬ (a ≠ x ∧ b ≠ y ∧ pairN a x = pairN b y))) → ∀ x6, S_X12_bothGo X 65 [some (jR 105), some (jI a), some (jI b), some (jI x), some (jI y), some (jI ap), x6] [jI os] (jSf I 115 g) q := by
      intro hy8 ap os hap hos x6
      have hq1 := hQ a x ha hx
      have hq2 := hQ b y hb hy8
      refine j_istore6 (pc := 65) dX12_bothGo_65 (by decide) rfl ?_
      refine j_iload (pc := 67) dX12_bothGo_67 rfl ?_
      refine j_if_eq (pc := 69) 119 dX12_bothGo_69 (by decide) (by omega) (fun h_69 => ?_) (fun h_69 => ?_)
      · refine j_iinc4 (pc := 119) dX12_bothGo_119 (by decide) rfl ?_
        refine j_goto (pc := 122) 11 dX12_bothGo_122 (by decide) ?_
        refine ih (y + 1) _ (by omega) (by omega) ?_ _ _
        first
          | (refine hstay hy8 (fun h => ?_)
             obtain ⟨g1, g2, g3, g4⟩ := h
             first
               | (rcases hap with ⟨e, -⟩ | ⟨e, z⟩
                  · omega
                  · exact z g1)
               | (rcases hos with ⟨e, z⟩ | ⟨e, -⟩
                  · exact g2 z
                  · omega)
               | (rcases hq1 with ⟨e, -⟩ | ⟨e, z⟩
                  · omega
                  · exact z g3)
               | (rcases hq2 with ⟨e, -⟩ | ⟨e, z⟩
                  · omega
                  · exact z g4))
          | (have hgo : go2 f m a b x y := by
               refine ⟨?_, ?_, ?_, ?_⟩
               · rcases hap with ⟨-, z⟩ | ⟨e, -⟩
                 · exact z
                 · omega
               · rcases hos with ⟨e, -⟩ | ⟨-, z⟩
                 · omega
                 · exact z
               · rcases hq1 with ⟨-, z⟩ | ⟨e, -⟩
                 · exact z
                 · omega
               · rcases hq2 with ⟨-, z⟩ | ⟨e, -⟩
                 · exact z
                 · omega
             intro x' y' hx' hy'
             by_cases hxy : x' = x ∧ y' = y
             · obtain ⟨rfl, rfl⟩ := hxy
               rw [jU_s]
               exact Or.inl ⟨rfl, Or.inr ⟨by omega, hgo⟩⟩
             · rw [jU_n (by omega)]
               rcases hg x' y' hx' hy' with ⟨e1, h⟩ | ⟨e1, h⟩
               · refine Or.inl ⟨e1, ?_⟩
                 rcases h with h | ⟨h1, h2⟩
                 · exact Or.inl h
                 · exact Or.inr ⟨by omega, h2⟩
               · refine Or.inr ⟨e1, fun h' => h ?_⟩
                 rcases h' with h' | ⟨h1, h2⟩
                 · exact Or.inl h'
                 · exact Or.inr ⟨by omega, h2⟩)
      · refine j_iload (pc := 72) dX12_bothGo_72 rfl ?_
        refine j_if_ne (pc := 74) 119 dX12_bothGo_74 (by decide) (by omega) (fun h_74 => ?_) (fun h_74 => ?_)
        · refine j_iinc4 (pc := 119) dX12_bothGo_119 (by decide) rfl ?_
          refine j_goto (pc := 122) 11 dX12_bothGo_122 (by decide) ?_
          refine ih (y + 1) _ (by omega) (by omega) ?_ _ _
          first
            | (refine hstay hy8 (fun h => ?_)
               obtain ⟨g1, g2, g3, g4⟩ := h
               first
                 | (rcases hap with ⟨e, -⟩ | ⟨e, z⟩
                    · omega
                    · exact z g1)
                 | (rcases hos with ⟨e, z⟩ | ⟨e, -⟩
                    · exact g2 z
                    · omega)
                 | (rcases hq1 with ⟨e, -⟩ | ⟨e, z⟩
                    · omega
                    · exact z g3)
                 | (rcases hq2 with ⟨e, -⟩ | ⟨e, z⟩
                    · omega
                    · exact z g4))
            | (have hgo : go2 f m a b x y := by
                 refine ⟨?_, ?_, ?_, ?_⟩
                 · rcases hap with ⟨-, z⟩ | ⟨e, -⟩
                   · exact z
                   · omega
                 · rcases hos with ⟨e, -⟩ | ⟨-, z⟩
                   · omega
                   · exact z
                 · rcases hq1 with ⟨-, z⟩ | ⟨e, -⟩
                   · exact z
                   · omega
                 · rcases hq2 with ⟨-, z⟩ | ⟨e, -⟩
                   · exact z
                   · omega
               intro x' y' hx' hy'
               by_cases hxy : x' = x ∧ y' = y
               · obtain ⟨rfl, rfl⟩ := hxy
                 rw [jU_s]
                 exact Or.inl ⟨rfl, Or.inr ⟨by omega, hgo⟩⟩
               · rw [jU_n (by omega)]
                 rcases hg x' y' hx' hy' with ⟨e1, h⟩ | ⟨e1, h⟩
                 · refine Or.inl ⟨e1, ?_⟩
                   rcases h with h | ⟨h1, h2⟩
                   · exact Or.inl h
                   · exact Or.inr ⟨by omega, h2⟩
                 · refine Or.inr ⟨e1, fun h' => h ?_⟩
                   rcases h' with h' | ⟨h1, h2⟩
                   · exact Or.inl h'
                   · exact Or.inr ⟨by omega, h2⟩)
        · refine j_aload_n (pc := 77) dX12_bothGo_77 rfl ?_
          refine j_getR (pc := 78) f_X12_32 dX12_bothGo_78 rfl rfl (by decide) rfl ?_
          refine j_bipush (pc := 81) dX12_bothGo_81 (by decide) ?_
          refine j_iload_n (pc := 83) dX12_bothGo_83 rfl ?_
          refine j_imul (pc := 84) dX12_bothGo_84 ?_
          refine j_iload_n (pc := 85) dX12_bothGo_85 rfl ?_
          refine j_iadd (pc := 86) dX12_bothGo_86 ?_
          refine j_zald_c (pc := 87) (8 * a + x) dX12_bothGo_87 rfl (by decide) (by decide) (by omega) (by omega) (by decide) ?_
          refine j_if_eq (pc := 88) 119 dX12_bothGo_88 (by decide) (by omega) (fun h_88 => ?_) (fun h_88 => ?_)
          · refine j_iinc4 (pc := 119) dX12_bothGo_119 (by decide) rfl ?_
            refine j_goto (pc := 122) 11 dX12_bothGo_122 (by decide) ?_
            refine ih (y + 1) _ (by omega) (by omega) ?_ _ _
            first
              | (refine hstay hy8 (fun h => ?_)
                 obtain ⟨g1, g2, g3, g4⟩ := h
                 first
                   | (rcases hap with ⟨e, -⟩ | ⟨e, z⟩
                      · omega
                      · exact z g1)
                   | (rcases hos with ⟨e, z⟩ | ⟨e, -⟩
                      · exact g2 z
                      · omega)
                   | (rcases hq1 with ⟨e, -⟩ | ⟨e, z⟩
                      · omega
                      · exact z g3)
                   | (rcases hq2 with ⟨e, -⟩ | ⟨e, z⟩
                      · omega
                      · exact z g4))
              | (have hgo : go2 f m a b x y := by
                   refine ⟨?_, ?_, ?_, ?_⟩
                   · rcases hap with ⟨-, z⟩ | ⟨e, -⟩
                     · exact z
                     · omega
                   · rcases hos with ⟨e, -⟩ | ⟨-, z⟩
                     · omega
                     · exact z
                   · rcases hq1 with ⟨-, z⟩ | ⟨e, -⟩
                     · exact z
                     · omega
                   · rcases hq2 with ⟨-, z⟩ | ⟨e, -⟩
                     · exact z
                     · omega
                 intro x' y' hx' hy'
                 by_cases hxy : x' = x ∧ y' = y
                 · obtain ⟨rfl, rfl⟩ := hxy
                   rw [jU_s]
                   exact Or.inl ⟨rfl, Or.inr ⟨by omega, hgo⟩⟩
                 · rw [jU_n (by omega)]
                   rcases hg x' y' hx' hy' with ⟨e1, h⟩ | ⟨e1, h⟩
                   · refine Or.inl ⟨e1, ?_⟩
                     rcases h with h | ⟨h1, h2⟩
                     · exact Or.inl h
                     · exact Or.inr ⟨by omega, h2⟩
                   · refine Or.inr ⟨e1, fun h' => h ?_⟩
                     rcases h' with h' | ⟨h1, h2⟩
                     · exact Or.inl h'
                     · exact Or.inr ⟨by omega, h2⟩)
          · refine j_aload_n (pc := 91) dX12_bothGo_91 rfl ?_
            refine j_getR (pc := 92) f_X12_32 dX12_bothGo_92 rfl rfl (by decide) rfl ?_
            refine j_bipush (pc := 95) dX12_bothGo_95 (by decide) ?_
            refine j_iload_n (pc := 97) dX12_bothGo_97 rfl ?_
            refine j_imul (pc := 98) dX12_bothGo_98 ?_
            refine j_iload (pc := 99) dX12_bothGo_99 rfl ?_
            refine j_iadd (pc := 101) dX12_bothGo_101 ?_
            refine j_zald_c (pc := 102) (8 * b + y) dX12_bothGo_102 rfl (by decide) (by decide) (by omega) (by omega) (by decide) ?_
            refine j_if_eq (pc := 103) 119 dX12_bothGo_103 (by decide) (by omega) (fun h_103 => ?_) (fun h_103 => ?_)
            · refine j_iinc4 (pc := 119) dX12_bothGo_119 (by decide) rfl ?_
              refine j_goto (pc := 122) 11 dX12_bothGo_122 (by decide) ?_
              refine ih (y + 1) _ (by omega) (by omega) ?_ _ _
              first
                | (refine hstay hy8 (fun h => ?_)
                   obtain ⟨g1, g2, g3, g4⟩ := h
                   first
                     | (rcases hap with ⟨e, -⟩ | ⟨e, z⟩
                        · omega
                        · exact z g1)
                     | (rcases hos with ⟨e, z⟩ | ⟨e, -⟩
                        · exact g2 z
                        · omega)
                     | (rcases hq1 with ⟨e, -⟩ | ⟨e, z⟩
                        · omega
                        · exact z g3)
                     | (rcases hq2 with ⟨e, -⟩ | ⟨e, z⟩
                        · omega
                        · exact z g4))
                | (have hgo : go2 f m a b x y := by
                     refine ⟨?_, ?_, ?_, ?_⟩
                     · rcases hap with ⟨-, z⟩ | ⟨e, -⟩
                       · exact z
                       · omega
                     · rcases hos with ⟨e, -⟩ | ⟨-, z⟩
                       · omega
                       · exact z
                     · rcases hq1 with ⟨-, z⟩ | ⟨e, -⟩
                       · exact z
                       · omega
                     · rcases hq2 with ⟨-, z⟩ | ⟨e, -⟩
                       · exact z
                       · omega
                   intro x' y' hx' hy'
                   by_cases hxy : x' = x ∧ y' = y
                   · obtain ⟨rfl, rfl⟩ := hxy
                     rw [jU_s]
                     exact Or.inl ⟨rfl, Or.inr ⟨by omega, hgo⟩⟩
                   · rw [jU_n (by omega)]
                     rcases hg x' y' hx' hy' with ⟨e1, h⟩ | ⟨e1, h⟩
                     · refine Or.inl ⟨e1, ?_⟩
                       rcases h with h | ⟨h1, h2⟩
                       · exact Or.inl h
                       · exact Or.inr ⟨by omega, h2⟩
                     · refine Or.inr ⟨e1, fun h' => h ?_⟩
                       rcases h' with h' | ⟨h1, h2⟩
                       · exact Or.inl h'
                       · exact Or.inr ⟨by omega, h2⟩)
            · refine j_aload_n (pc := 106) dX12_bothGo_106 rfl ?_
              refine j_getR (pc := 107) f_X12_42 dX12_bothGo_107 rfl rfl (by decide) rfl ?_
              refine j_bipush (pc := 110) dX12_bothGo_110 (by decide) ?_
              refine j_iload_n (pc := 112) dX12_bothGo_112 rfl ?_
              refine j_imul (pc := 113) dX12_bothGo_113 ?_
              refine j_iload (pc := 114) dX12_bothGo_114 rfl ?_
              refine j_iadd (pc := 116) dX12_bothGo_116 ?_
              refine j_iconst (pc := 117) dX12_bothGo_117 ?_
              refine j_zast_a (pc := 118) (8 * x + y) dX12_bothGo_118 rfl (by decide) (by decide) (by decide) (by omega) (by omega) ?_
              refine j_iinc4 (pc := 119) dX12_bothGo_119 (by decide) rfl ?_
              refine j_goto (pc := 122) 11 dX12_bothGo_122 (by decide) ?_
              refine ih (y + 1) _ (by omega) (by omega) ?_ _ _
              first
                | (refine hstay hy8 (fun h => ?_)
                   obtain ⟨g1, g2, g3, g4⟩ := h
                   first
                     | (rcases hap with ⟨e, -⟩ | ⟨e, z⟩
                        · omega
                        · exact z g1)
                     | (rcases hos with ⟨e, z⟩ | ⟨e, -⟩
                        · exact g2 z
                        · omega)
                     | (rcases hq1 with ⟨e, -⟩ | ⟨e, z⟩
                        · omega
                        · exact z g3)
                     | (rcases hq2 with ⟨e, -⟩ | ⟨e, z⟩
                        · omega
                        · exact z g4))
                | (have hgo : go2 f m a b x y := by
                     refine ⟨?_, ?_, ?_, ?_⟩
                     · rcases hap with ⟨-, z⟩ | ⟨e, -⟩
                       · exact z
                       · omega
                     · rcases hos with ⟨e, -⟩ | ⟨-, z⟩
                       · omega
                       · exact z
                     · rcases hq1 with ⟨-, z⟩ | ⟨e, -⟩
                       · exact z
                       · omega
                     · rcases hq2 with ⟨-, z⟩ | ⟨e, -⟩
                       · exact z
                       · omega
                   intro x' y' hx' hy'
                   by_cases hxy : x' = x ∧ y' = y
                   · obtain ⟨rfl, rfl⟩ := hxy
                     rw [jU_s]
                     exact Or.inl ⟨rfl, Or.inr ⟨by omega, hgo⟩⟩
                   · rw [jU_n (by omega)]
                     rcases hg x' y' hx' hy' with ⟨e1, h⟩ | ⟨e1, h⟩
                     · refine Or.inl ⟨e1, ?_⟩
                       rcases h with h | ⟨h1, h2⟩
                       · exact Or.inl h
                       · exact Or.inr ⟨by omega, h2⟩
                     · refine Or.inr ⟨e1, fun h' => h ?_⟩
                       rcases h' with h' | ⟨h1, h2⟩
                       · exact Or.inl h'
                       · exact Or.inr ⟨by omega, h2⟩)
    have k33 : y < 8 → ∀ (ap : Int), ((ap = 1 ∧ (x ≠ y ∨ x = 0)) ∨ (ap = 0 ∧ ¬ (x ≠ y ∨ x = 0))) → ∀ x5 x6, S_X12_bothGo X 33 [some (jR 105), some (jI a), some (jI b), some (jI x), some (jI y), x5, x6] [jI ap] (jSf I 115 g) q := by
      intro hy8 ap hap x5 x6
      refine j_istore5 (pc := 33) dX12_bothGo_33 (by decide) rfl ?_
      refine j_iload_n (pc := 35) dX12_bothGo_35 rfl ?_
      refine j_iload_n (pc := 36) dX12_bothGo_36 rfl ?_
      refine j_icmp_eq (pc := 37) 64 dX12_bothGo_37 (by decide) (by omega) (by omega) (fun h_37 => ?_) (fun h_37 => ?_)
      · refine j_iconst (pc := 64) dX12_bothGo_64 ?_
        exact k65 hy8 ap _ hap (by first | exact Or.inl ⟨rfl, by omega⟩ | exact Or.inr ⟨rfl, by omega⟩) _
      · refine j_iload_n (pc := 40) dX12_bothGo_40 rfl ?_
        refine j_iload (pc := 41) dX12_bothGo_41 rfl ?_
        refine j_icmp_eq (pc := 43) 64 dX12_bothGo_43 (by decide) (by omega) (by omega) (fun h_43 => ?_) (fun h_43 => ?_)
        · refine j_iconst (pc := 64) dX12_bothGo_64 ?_
          exact k65 hy8 ap _ hap (by first | exact Or.inl ⟨rfl, by omega⟩ | exact Or.inr ⟨rfl, by omega⟩) _
        · refine j_iload_n (pc := 46) dX12_bothGo_46 rfl ?_
          refine j_iload_n (pc := 47) dX12_bothGo_47 rfl ?_
          refine j_goI (pc := 48) (j_runS k_X12_85 m_X12_pairOf (c_pairOf X (jSf I 115 g) a x (by omega) (by omega)) dX12_bothGo_48 (by decide) rfl rfl (Nat.le_of_ble_eq_true rfl)) (fun r1 I1 h1 => ?_)
          obtain ⟨rfl, rfl⟩ := h1
          rw [pairI_n ha hx (by omega)]
          refine j_iload_n (pc := 51) dX12_bothGo_51 rfl ?_
          refine j_iload (pc := 52) dX12_bothGo_52 rfl ?_
          refine j_goI (pc := 54) (j_runS k_X12_85 m_X12_pairOf (c_pairOf X (jSf I 115 g) b y (by omega) (by omega)) dX12_bothGo_54 (by decide) rfl rfl (Nat.le_of_ble_eq_true rfl)) (fun r2 I2 h2 => ?_)
          obtain ⟨rfl, rfl⟩ := h2
          rw [pairI_n hb hy8 (by omega)]
          have hp1 := pairN_lt ha hx (by omega)
          have hp2 := pairN_lt hb hy8 (by omega)
          refine j_icmp_ne (pc := 57) 64 dX12_bothGo_57 (by decide) (by omega) (by omega) (fun h_57 => ?_) (fun h_57 => ?_)
          · refine j_iconst (pc := 64) dX12_bothGo_64 ?_
            exact k65 hy8 ap _ hap (by first | exact Or.inl ⟨rfl, by omega⟩ | exact Or.inr ⟨rfl, by omega⟩) _
          · refine j_iconst (pc := 60) dX12_bothGo_60 ?_
            refine j_goto (pc := 61) 65 dX12_bothGo_61 (by decide) ?_
            exact k65 hy8 ap _ hap (by first | exact Or.inl ⟨rfl, by omega⟩ | exact Or.inr ⟨rfl, by omega⟩) _
    refine j_iload (pc := 11) dX12_bothGo_11 rfl ?_
    refine j_bipush (pc := 13) dX12_bothGo_13 (by decide) ?_
    refine j_icmp_ge (pc := 15) 125 dX12_bothGo_15 (by decide) (by omega) (by omega) (fun h_15 => ?_) (fun h_15 => ?_)
    · obtain rfl : y = 8 := by omega
      refine hk g _ _ _ (fun x' y' hx' hy' => ?_)
      rcases hg x' y' hx' hy' with ⟨e1, h⟩ | ⟨e1, h⟩
      · refine Or.inl ⟨e1, ?_⟩
        rcases h with h | ⟨h1, h2⟩
        · exact Or.inl h
        · exact Or.inr ⟨by omega, h2⟩
      · refine Or.inr ⟨e1, fun h' => h ?_⟩
        rcases h' with h' | ⟨h1, h2⟩
        · exact Or.inl h'
        · exact Or.inr ⟨by omega, h2⟩
    · refine j_iload_n (pc := 18) dX12_bothGo_18 rfl ?_
      refine j_iload (pc := 19) dX12_bothGo_19 rfl ?_
      refine j_icmp_ne (pc := 21) 28 dX12_bothGo_21 (by decide) (by omega) (by omega) (fun h_21 => ?_) (fun h_21 => ?_)
      · refine j_iconst (pc := 28) dX12_bothGo_28 ?_
        refine j_goto (pc := 29) 33 dX12_bothGo_29 (by decide) ?_
        exact k33 (by omega) _ (by first | exact Or.inl ⟨rfl, by omega⟩ | exact Or.inr ⟨rfl, by omega⟩) _ _
      · refine j_iload_n (pc := 24) dX12_bothGo_24 rfl ?_
        refine j_if_ne (pc := 25) 32 dX12_bothGo_25 (by decide) (by omega) (fun h_25 => ?_) (fun h_25 => ?_)
        · refine j_iconst (pc := 32) dX12_bothGo_32 ?_
          exact k33 (by omega) _ (by first | exact Or.inl ⟨rfl, by omega⟩ | exact Or.inr ⟨rfl, by omega⟩) _ _
        · refine j_iconst (pc := 28) dX12_bothGo_28 ?_
          refine j_goto (pc := 29) 33 dX12_bothGo_29 (by decide) ?_
          exact k33 (by omega) _ (by first | exact Or.inl ⟨rfl, by omega⟩ | exact Or.inr ⟨rfl, by omega⟩) _ _
  have k2 : ∀ (x : Nat) (g : Nat → Int), x ≤ 8 → bA g (fun x' y' => P x' y' ∨ (x' < x ∧ go2 f m a b x' y')) → ∀ x4 x5 x6, S_X12_bothGo X 2 [some (jR 105), some (jI a), some (jI b), some (jI x), x4, x5, x6] [] (jSf I 115 g) q := by
    refine mu2 (fun x _ => 8 - x) _ (fun x g ih hx hg x4 x5 x6 => ?_)
    refine j_iload_n (pc := 2) dX12_bothGo_2 rfl ?_
    refine j_bipush (pc := 3) dX12_bothGo_3 (by decide) ?_
    refine j_icmp_ge (pc := 5) 131 dX12_bothGo_5 (by decide) (by omega) (by omega) (fun h_5 => ?_) (fun h_5 => ?_)
    · refine j_retv dX12_bothGo_131 (?_) rfl
      subst hq
      obtain rfl : x = 8 := by omega
      refine ⟨fun x' y' hx' hy' => ?_, fun k hk => jSf_n hk⟩
      rw [jSf_s]
      rcases hg x' y' hx' hy' with ⟨e1, h⟩ | ⟨e1, h⟩
      · exact Or.inl ⟨e1, h.imp id (fun z => z.2)⟩
      · exact Or.inr ⟨e1, fun h' => h (h'.imp id (fun z => ⟨hx', z⟩))⟩
    · refine j_iconst (pc := 8) dX12_bothGo_8 ?_
      refine j_istore4 (pc := 9) dX12_bothGo_9 (by decide) rfl ?_
      refine k11 x (by omega) (fun g' y4 y5 y6 hg' => ?_) 0 g (by omega) (fun x' y' hx' hy' => ?_) _ _
      · refine j_iinc3 (pc := 125) dX12_bothGo_125 (by decide) rfl ?_
        refine j_goto (pc := 128) 2 dX12_bothGo_128 (by decide) ?_
        exact ih (x + 1) g' (by omega) (by omega) hg' _ _ _
      · rcases hg x' y' hx' hy' with ⟨e1, h⟩ | ⟨e1, h⟩
        · exact Or.inl ⟨e1, h.imp id (fun z => ⟨Or.inl z.1, z.2⟩)⟩
        · exact Or.inr ⟨e1, fun h' => h (h'.imp id (fun z => ⟨by omega, z.2⟩))⟩
  have hh := k2 0 (I 115) (by omega) (fun x' y' hx' hy' => by
    rcases hP x' y' hx' hy' with ⟨e1, h⟩ | ⟨e1, h⟩
    · exact Or.inl ⟨e1, Or.inl h⟩
    · exact Or.inr ⟨e1, fun h' => h (h'.elim id (fun z => by omega))⟩) none none none
  rw [jSf_i] at hh
  refine j_iconst (pc := 0) dX12_bothGo_0 ?_
  refine j_istore_n3 (pc := 1) dX12_bothGo_1 (by decide) rfl ?_
  exact hh
