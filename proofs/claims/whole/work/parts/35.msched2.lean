/-! ===== the reference: schedule, its loop ===== -/
/-- where two may be after n minutes -/
def sch (f : Nat → Int) : Nat → Nat → Nat → Prop
  | 0, x, y => x = 0 ∧ y = 0
  | n + 1, x, y => ∃ a b, a < 8 ∧ b < 8 ∧ sch f n a b ∧ go2 f n a b x y
/-- the fewest minutes of two -/
def isSch (f : Nat → Int) (u v : Nat) (r : Int) : Prop := (r = -1 ∧ ∀ n, n ≤ 20 → ¬ sch f n u v) ∨ ∃ n : Nat, r = n ∧ n ≤ 20 ∧ sch f n u v ∧ ∀ k, k < n → ¬ sch f k u v
theorem isSch_uniq {f : Nat → Int} {u v : Nat} {r r' : Int} (h : isSch f u v r) (h' : isSch f u v r') : r = r' := by
  rcases h with ⟨h, n⟩ | ⟨n, h, h1, h2, h3⟩ <;> rcases h' with ⟨h', n'⟩ | ⟨n', h', h1', h2', h3'⟩
  · omega
  · exact absurd h2' (n n' h1')
  · exact absurd h2 (n' n h1)
  · rcases Nat.lt_trichotomy n n' with h | h | h
    · exact absurd h2 (h3' n h)
    · omega
    · exact absurd h2' (h3 n' h)
set_option maxHeartbeats 4000000 in
theorem c_mschedule (X : jX) (I : jMI) (a b : Int) (q : Int → jMI → Prop) (ha : -2147483648 ≤ a ∧ a < 2147483648) (hb : -2147483648 ≤ b ∧ b < 2147483648) (hok : okSt (I 106))
    (q0 : ¬ ((0 ≤ a ∧ a ≤ 7) ∧ (0 ≤ b ∧ b ≤ 7)) → q (-2) (mRef I 0)) (q1 : ∀ (u v : Nat) (r : Int) (I' : jMI), a = u → b = v → u < 8 → v < 8 → isSch (I 106) u v r → mSc I I' → q r I') : C_X12_schedule X [jR 105, jI a, jI b] I q := by
  refine CG.of (by decide) [some (jR 105), some (jI a), some (jI b), none, none] rfl (Nat.le_of_ble_eq_true rfl) ?_
  have kbad : ¬ ((0 ≤ a ∧ a ≤ 7) ∧ (0 ≤ b ∧ b ≤ 7)) → S_X12_schedule X 14 [some (jR 105), some (jI a), some (jI b), none, none] [] I q := by
    intro hz
    refine j_aload_n (pc := 14) dX12_schedule_14 rfl ?_
    refine j_goI (pc := 15) (j_runV k_X12_95 m_X12_bad (c_bad X I) dX12_schedule_15 rfl (by decide) rfl (by decide) (by decide) rfl rfl (Nat.le_of_ble_eq_true rfl)) (fun r9 I9 h9 => ?_)
    obtain ⟨rfl, rfl⟩ := h9
    exact j_reti dX12_schedule_18 (q0 hz) rfl
  have key : ∀ (u v : Nat), a = u → b = v → u < 8 → v < 8 → S_X12_schedule X 19 [some (jR 105), some (jI u), some (jI v), none, none] [] I q := by
    intro u v ea eb hu hv
    -- the copy back
    have k142 : ∀ (n : Nat), n < 20 → (∀ J1 x4, mSc I J1 → bA (J1 114) (sch (I 106) (n + 1)) → S_X12_schedule X 169 [some (jR 105), some (jI u), some (jI v), some (jI n), x4] [] J1 q) → ∀ (k : Nat) (J0 : jMI), k ≤ 64 → mSc I J0 → bA (J0 115) (sch (I 106) (n + 1)) → (∀ i, i < k → J0 114 i = J0 115 i) → S_X12_schedule X 142 [some (jR 105), some (jI u), some (jI v), some (jI n), some (jI k)] [] J0 q := by
      intro n hn hx
      refine mu2 (fun k _ => 64 - k) _ (fun k J0 ih hk hsc hth hcp => ?_)
      refine j_iload (pc := 142) dX12_schedule_142 rfl ?_
      refine j_bipush (pc := 144) dX12_schedule_144 (by decide) ?_
      refine j_icmp_ge (pc := 146) 169 dX12_schedule_146 (by decide) (by omega) (by omega) (fun h_146 => ?_) (fun h_146 => ?_)
      · obtain rfl : k = 64 := by omega
        refine hx J0 _ hsc (fun x y hx hy => ?_)
        rw [hcp (8 * x + y) (by omega)]
        exact hth x y hx hy
      · refine j_aload_n (pc := 149) dX12_schedule_149 rfl ?_
        refine j_getR (pc := 150) f_X12_39 dX12_schedule_150 rfl rfl (by decide) rfl ?_
        refine j_iload (pc := 153) dX12_schedule_153 rfl ?_
        refine j_aload_n (pc := 155) dX12_schedule_155 rfl ?_
        refine j_getR (pc := 156) f_X12_42 dX12_schedule_156 rfl rfl (by decide) rfl ?_
        refine j_iload (pc := 159) dX12_schedule_159 rfl ?_
        refine j_zald_b (pc := 161) (k) dX12_schedule_161 rfl (by decide) (by decide) (by omega) (by omega) ?_
        have hz := hth (k / 8) (k % 8) (by omega) (by omega)
        rw [show 8 * (k / 8) + k % 8 = k by omega] at hz
        refine j_zast_b (pc := 162) (k) dX12_schedule_162 rfl (by decide) (by decide) (by rcases hz with ⟨e, -⟩ | ⟨e, -⟩ <;> rw [e] <;> decide) (by omega) (by omega) ?_
        refine j_iinc4 (pc := 163) dX12_schedule_163 (by decide) rfl ?_
        refine j_goto (pc := 166) 142 dX12_schedule_166 (by decide) ?_
        refine ih (k + 1) _ (by omega) (by omega) (hsc.tr (mSc_f (by omega))) ?_ (fun i hi => ?_)
        · rw [jSf_n (by decide)]; exact hth
        · rw [jSf_s, jSf_n (by decide)]
          by_cases hik : i = k
          · subst hik; rw [jU_s]
          · rw [jU_n hik]; exact hcp i (by omega)
    -- all pairs go
    have k102 : ∀ (n : Nat), n < 20 → (∀ J1 x4, mSc I J1 → bA (J1 115) (sch (I 106) (n + 1)) → S_X12_schedule X 139 [some (jR 105), some (jI u), some (jI v), some (jI n), x4] [] J1 q) → ∀ (k : Nat) (J0 : jMI), k ≤ 64 → mSc I J0 → isQ (I 106) n (J0 112) → bA (J0 114) (sch (I 106) n) → bA (J0 115) (fun x y => ∃ i, i < k ∧ sch (I 106) n (i / 8) (i % 8) ∧ go2 (I 106) n (i / 8) (i % 8) x y) → S_X12_schedule X 102 [some (jR 105), some (jI u), some (jI v), some (jI n), some (jI k)] [] J0 q := by
      intro n hn hx
      refine mu2 (fun k _ => 64 - k) _ (fun k J0 ih hk hsc hQ hbo hth => ?_)
      have hkk : k < 64 → (J0 114 k = 1 ∧ sch (I 106) n (k / 8) (k % 8)) ∨ (J0 114 k = 0 ∧ ¬ sch (I 106) n (k / 8) (k % 8)) := by
        intro hk64
        have hz := hbo (k / 8) (k % 8) (by omega) (by omega)
        rw [show 8 * (k / 8) + k % 8 = k by omega] at hz
        exact hz
      refine j_iload (pc := 102) dX12_schedule_102 rfl ?_
      refine j_bipush (pc := 104) dX12_schedule_104 (by decide) ?_
      refine j_icmp_ge (pc := 106) 139 dX12_schedule_106 (by decide) (by omega) (by omega) (fun h_106 => ?_) (fun h_106 => ?_)
      · obtain rfl : k = 64 := by omega
        refine hx J0 _ hsc (fun x y hx hy => ?_)
        rcases hth x y hx hy with ⟨e, i, hi, h1, h2⟩ | ⟨e, h⟩
        · exact Or.inl ⟨e, i / 8, i % 8, by omega, by omega, h1, h2⟩
        · refine Or.inr ⟨e, fun ⟨a', b', ha', hb', h1, h2⟩ => h ⟨8 * a' + b', by omega, ?_⟩⟩
          rw [show (8 * a' + b') / 8 = a' by omega, show (8 * a' + b') % 8 = b' by omega]
          exact ⟨h1, h2⟩
      · refine j_aload_n (pc := 109) dX12_schedule_109 rfl ?_
        refine j_getR (pc := 110) f_X12_39 dX12_schedule_110 rfl rfl (by decide) rfl ?_
        refine j_iload (pc := 113) dX12_schedule_113 rfl ?_
        have hk1 := hkk (by omega)
        refine j_zald_b (pc := 115) (k) dX12_schedule_115 rfl (by decide) (by decide) (by omega) (by omega) ?_
        refine j_if_eq (pc := 116) 133 dX12_schedule_116 (by decide) (by omega) (fun h_116 => ?_) (fun h_116 => ?_)
        · refine j_iinc4 (pc := 133) dX12_schedule_133 (by decide) rfl ?_
          refine j_goto (pc := 136) 102 dX12_schedule_136 (by decide) ?_
          refine ih (k + 1) _ (by omega) (by omega) ?_ ?_ ?_ ?_
          · first | exact hsc | exact fun z hz => (h2 z (by omega)).trans (hsc z hz)
          · first | exact hQ | (rw [h2 112 (by omega)]; exact hQ)
          · first | exact hbo | (rw [h2 114 (by omega)]; exact hbo)
          · rcases hk1 with ⟨e1, hs⟩ | ⟨e1, hs⟩
            · first
                | omega
                | (intro x y hx hy
                   rcases h1 x y hx hy with ⟨e, h⟩ | ⟨e, h⟩
                   · refine Or.inl ⟨e, ?_⟩
                     rcases h with ⟨i, hi, h3⟩ | h
                     · exact ⟨i, by omega, h3⟩
                     · exact ⟨k, by omega, hs, h⟩
                   · refine Or.inr ⟨e, fun ⟨i, hi, h3, h4⟩ => h ?_⟩
                     by_cases hik : i = k
                     · subst hik; exact Or.inr h4
                     · exact Or.inl ⟨i, by omega, h3, h4⟩)
            · first
                | omega
                | (intro x y hx hy
                   rcases hth x y hx hy with ⟨e, i, hi, h3⟩ | ⟨e, h⟩
                   · exact Or.inl ⟨e, i, by omega, h3⟩
                   · refine Or.inr ⟨e, fun ⟨i, hi, h3, h4⟩ => h ?_⟩
                     by_cases hik : i = k
                     · subst hik; exact absurd h3 hs
                     · exact ⟨i, by omega, h3, h4⟩)
        · refine j_aload_n (pc := 119) dX12_schedule_119 rfl ?_
          refine j_iload (pc := 120) dX12_schedule_120 rfl ?_
          refine j_bipush (pc := 122) dX12_schedule_122 (by decide) ?_
          refine j_idiv (pc := 124) dX12_schedule_124 (by omega) (by omega) ?_
          refine j_iload (pc := 125) dX12_schedule_125 rfl ?_
          refine j_bipush (pc := 127) dX12_schedule_127 (by decide) ?_
          refine j_irem (pc := 129) dX12_schedule_129 (by omega) (by omega) ?_
          rw [show (k : Int) / 8 = ((k / 8 : Nat) : Int) by omega, show (k : Int) % 8 = ((k % 8 : Nat) : Int) by omega]
          refine j_goV (pc := 130) (j_runV k_X12_244 m_X12_bothGo (c_bothGo X J0 (k / 8) (k % 8) (I 106) n _ (by omega) (by omega) hQ hth) dX12_schedule_130 rfl (by decide) rfl (by decide) (by decide) rfl rfl (Nat.le_of_ble_eq_true rfl)) (fun I1 h1 => ?_)
          obtain ⟨h1, h2⟩ := h1
          refine j_iinc4 (pc := 133) dX12_schedule_133 (by decide) rfl ?_
          refine j_goto (pc := 136) 102 dX12_schedule_136 (by decide) ?_
          refine ih (k + 1) _ (by omega) (by omega) ?_ ?_ ?_ ?_
          · first | exact hsc | exact fun z hz => (h2 z (by omega)).trans (hsc z hz)
          · first | exact hQ | (rw [h2 112 (by omega)]; exact hQ)
          · first | exact hbo | (rw [h2 114 (by omega)]; exact hbo)
          · rcases hk1 with ⟨e1, hs⟩ | ⟨e1, hs⟩
            · first
                | omega
                | (intro x y hx hy
                   rcases h1 x y hx hy with ⟨e, h⟩ | ⟨e, h⟩
                   · refine Or.inl ⟨e, ?_⟩
                     rcases h with ⟨i, hi, h3⟩ | h
                     · exact ⟨i, by omega, h3⟩
                     · exact ⟨k, by omega, hs, h⟩
                   · refine Or.inr ⟨e, fun ⟨i, hi, h3, h4⟩ => h ?_⟩
                     by_cases hik : i = k
                     · subst hik; exact Or.inr h4
                     · exact Or.inl ⟨i, by omega, h3, h4⟩)
            · first
                | omega
                | (intro x y hx hy
                   rcases hth x y hx hy with ⟨e, i, hi, h3⟩ | ⟨e, h⟩
                   · exact Or.inl ⟨e, i, by omega, h3⟩
                   · refine Or.inr ⟨e, fun ⟨i, hi, h3, h4⟩ => h ?_⟩
                     by_cases hik : i = k
                     · subst hik; exact absurd h3 hs
                     · exact ⟨i, by omega, h3, h4⟩)
    -- the row is emptied
    have k78 : ∀ (n : Nat), (∀ J1 x4, mSc I J1 → isQ (I 106) n (J1 112) → bA (J1 114) (sch (I 106) n) → (∀ i, i < 64 → J1 115 i = 0) → S_X12_schedule X 99 [some (jR 105), some (jI u), some (jI v), some (jI n), x4] [] J1 q) → ∀ (k : Nat) (J0 : jMI), k ≤ 64 → mSc I J0 → isQ (I 106) n (J0 112) → bA (J0 114) (sch (I 106) n) → (∀ i, i < k → J0 115 i = 0) → S_X12_schedule X 78 [some (jR 105), some (jI u), some (jI v), some (jI n), some (jI k)] [] J0 q := by
      intro n hx
      refine mu2 (fun k _ => 64 - k) _ (fun k J0 ih hk hsc hQ hbo hz => ?_)
      refine j_iload (pc := 78) dX12_schedule_78 rfl ?_
      refine j_bipush (pc := 80) dX12_schedule_80 (by decide) ?_
      refine j_icmp_ge (pc := 82) 99 dX12_schedule_82 (by decide) (by omega) (by omega) (fun h_82 => ?_) (fun h_82 => ?_)
      · obtain rfl : k = 64 := by omega
        exact hx J0 _ hsc hQ hbo hz
      · refine j_aload_n (pc := 85) dX12_schedule_85 rfl ?_
        refine j_getR (pc := 86) f_X12_42 dX12_schedule_86 rfl rfl (by decide) rfl ?_
        refine j_iload (pc := 89) dX12_schedule_89 rfl ?_
        refine j_iconst (pc := 91) dX12_schedule_91 ?_
        refine j_zast_b (pc := 92) (k) dX12_schedule_92 rfl (by decide) (by decide) (by decide) (by omega) (by omega) ?_
        refine j_iinc4 (pc := 93) dX12_schedule_93 (by decide) rfl ?_
        refine j_goto (pc := 96) 78 dX12_schedule_96 (by decide) ?_
        refine ih (k + 1) _ (by omega) (by omega) (hsc.tr (mSc_f (by omega))) ?_ ?_ (fun i hi => ?_)
        · rw [jSf_n (by decide)]; exact hQ
        · rw [jSf_n (by decide)]; exact hbo
        · rw [jSf_s]
          by_cases hik : i = k
          · subst hik; rw [jU_s]
          · rw [jU_n hik]; exact hz i (by omega)
    have k50 : ∀ (n : Nat) (J0 : jMI), n ≤ 20 → mSc I J0 → bA (J0 114) (sch (I 106) n) → (∀ k, k < n → ¬ sch (I 106) k u v) → ∀ x4, S_X12_schedule X 50 [some (jR 105), some (jI u), some (jI v), some (jI n), x4] [] J0 q := by
      refine mu2 (fun n _ => 20 - n) _ (fun n J0 ih hn hsc hbo hno x4 => ?_)
      have e6 : J0 106 = I 106 := hsc 106 (by omega)
      have huv := hbo u v hu hv
      refine j_iload_n (pc := 50) dX12_schedule_50 rfl ?_
      refine j_bipush (pc := 51) dX12_schedule_51 (by decide) ?_
      refine j_icmp_ge (pc := 53) 175 dX12_schedule_53 (by decide) (by omega) (by omega) (fun h_53 => ?_) (fun h_53 => ?_)
      · refine j_aload_n (pc := 175) dX12_schedule_175 rfl ?_
        refine j_getR (pc := 176) f_X12_39 dX12_schedule_176 rfl rfl (by decide) rfl ?_
        refine j_bipush (pc := 179) dX12_schedule_179 (by decide) ?_
        refine j_iload_n (pc := 181) dX12_schedule_181 rfl ?_
        refine j_imul (pc := 182) dX12_schedule_182 ?_
        refine j_iload_n (pc := 183) dX12_schedule_183 rfl ?_
        refine j_iadd (pc := 184) dX12_schedule_184 ?_
        refine j_zald_b (pc := 185) (8 * u + v) dX12_schedule_185 rfl (by decide) (by decide) (by omega) (by omega) ?_
        refine j_if_eq (pc := 186) 193 dX12_schedule_186 (by decide) (by omega) (fun h_186 => ?_) (fun h_186 => ?_)
        · refine j_iconst (pc := 193) dX12_schedule_193 ?_
          refine j_reti dX12_schedule_194 (?_) rfl
          first
            | (refine q1 u v _ J0 ea eb hu hv (Or.inr ⟨n, rfl, by omega, ?_, hno⟩) hsc
               rcases huv with ⟨e, h⟩ | ⟨e, h⟩
               · exact h
               · omega)
            | (refine q1 u v _ J0 ea eb hu hv (Or.inl ⟨rfl, fun k hk => ?_⟩) hsc
               by_cases hkn : k = n
               · subst hkn
                 rcases huv with ⟨e, h⟩ | ⟨e, h⟩
                 · omega
                 · exact h
               · exact hno k (by omega))
        · refine j_iload_n (pc := 189) dX12_schedule_189 rfl ?_
          refine j_goto (pc := 190) 194 dX12_schedule_190 (by decide) ?_
          refine j_reti dX12_schedule_194 (?_) rfl
          first
            | (refine q1 u v _ J0 ea eb hu hv (Or.inr ⟨n, rfl, by omega, ?_, hno⟩) hsc
               rcases huv with ⟨e, h⟩ | ⟨e, h⟩
               · exact h
               · omega)
            | (refine q1 u v _ J0 ea eb hu hv (Or.inl ⟨rfl, fun k hk => ?_⟩) hsc
               by_cases hkn : k = n
               · subst hkn
                 rcases huv with ⟨e, h⟩ | ⟨e, h⟩
                 · omega
                 · exact h
               · exact hno k (by omega))
      · refine j_aload_n (pc := 56) dX12_schedule_56 rfl ?_
        refine j_getR (pc := 57) f_X12_39 dX12_schedule_57 rfl rfl (by decide) rfl ?_
        refine j_bipush (pc := 60) dX12_schedule_60 (by decide) ?_
        refine j_iload_n (pc := 62) dX12_schedule_62 rfl ?_
        refine j_imul (pc := 63) dX12_schedule_63 ?_
        refine j_iload_n (pc := 64) dX12_schedule_64 rfl ?_
        refine j_iadd (pc := 65) dX12_schedule_65 ?_
        refine j_zald_b (pc := 66) (8 * u + v) dX12_schedule_66 rfl (by decide) (by decide) (by omega) (by omega) ?_
        refine j_if_ne (pc := 67) 175 dX12_schedule_67 (by decide) (by omega) (fun h_67 => ?_) (fun h_67 => ?_)
        · refine j_aload_n (pc := 175) dX12_schedule_175 rfl ?_
          refine j_getR (pc := 176) f_X12_39 dX12_schedule_176 rfl rfl (by decide) rfl ?_
          refine j_bipush (pc := 179) dX12_schedule_179 (by decide) ?_
          refine j_iload_n (pc := 181) dX12_schedule_181 rfl ?_
          refine j_imul (pc := 182) dX12_schedule_182 ?_
          refine j_iload_n (pc := 183) dX12_schedule_183 rfl ?_
          refine j_iadd (pc := 184) dX12_schedule_184 ?_
          refine j_zald_b (pc := 185) (8 * u + v) dX12_schedule_185 rfl (by decide) (by decide) (by omega) (by omega) ?_
          refine j_if_eq (pc := 186) 193 dX12_schedule_186 (by decide) (by omega) (fun h_186 => ?_) (fun h_186 => ?_)
          · refine j_iconst (pc := 193) dX12_schedule_193 ?_
            refine j_reti dX12_schedule_194 (?_) rfl
            first
              | (refine q1 u v _ J0 ea eb hu hv (Or.inr ⟨n, rfl, by omega, ?_, hno⟩) hsc
                 rcases huv with ⟨e, h⟩ | ⟨e, h⟩
                 · exact h
                 · omega)
              | (refine q1 u v _ J0 ea eb hu hv (Or.inl ⟨rfl, fun k hk => ?_⟩) hsc
                 by_cases hkn : k = n
                 · subst hkn
                   rcases huv with ⟨e, h⟩ | ⟨e, h⟩
                   · omega
                   · exact h
                 · exact hno k (by omega))
          · refine j_iload_n (pc := 189) dX12_schedule_189 rfl ?_
            refine j_goto (pc := 190) 194 dX12_schedule_190 (by decide) ?_
            refine j_reti dX12_schedule_194 (?_) rfl
            first
              | (refine q1 u v _ J0 ea eb hu hv (Or.inr ⟨n, rfl, by omega, ?_, hno⟩) hsc
                 rcases huv with ⟨e, h⟩ | ⟨e, h⟩
                 · exact h
                 · omega)
              | (refine q1 u v _ J0 ea eb hu hv (Or.inl ⟨rfl, fun k hk => ?_⟩) hsc
                 by_cases hkn : k = n
                 · subst hkn
                   rcases huv with ⟨e, h⟩ | ⟨e, h⟩
                   · omega
                   · exact h
                 · exact hno k (by omega))
        · refine j_aload_n (pc := 70) dX12_schedule_70 rfl ?_
          refine j_iload_n (pc := 71) dX12_schedule_71 rfl ?_
          refine j_goV (pc := 72) (j_runV k_X12_235 m_X12_findQuiet (c_findQuiet X J0 n (by omega) (by rw [e6]; exact hok)) dX12_schedule_72 rfl (by decide) rfl (by decide) (by decide) rfl rfl (Nat.le_of_ble_eq_true rfl)) (fun I1 h1 => ?_)
          obtain ⟨h1, h2⟩ := h1
          rw [e6] at h1
          refine j_iconst (pc := 75) dX12_schedule_75 ?_
          refine j_istore4 (pc := 76) dX12_schedule_76 (by decide) rfl ?_
          refine k78 n (fun J1 y4 g1 g2 g3 g4 => ?_) 0 I1 (by omega) (fun z hz => (h2 z (by omega) (by omega)).trans (hsc z hz)) h1 (by rw [h2 114 (by omega) (by omega)]; exact hbo) (fun i hi => by omega)
          refine j_iconst (pc := 99) dX12_schedule_99 ?_
          refine j_istore4 (pc := 100) dX12_schedule_100 (by decide) rfl ?_
          refine k102 n (by omega) (fun J2 z4 g5 g6 => ?_) 0 J1 (by omega) g1 g2 g3 (fun x y hx hy => Or.inr ⟨g4 (8 * x + y) (by omega), fun ⟨i, hi, _⟩ => by omega⟩)
          refine j_iconst (pc := 139) dX12_schedule_139 ?_
          refine j_istore4 (pc := 140) dX12_schedule_140 (by decide) rfl ?_
          refine k142 n (by omega) (fun J3 w4 g7 g8 => ?_) 0 J2 (by omega) g5 g6 (fun i hi => by omega)
          refine j_iinc3 (pc := 169) dX12_schedule_169 (by decide) rfl ?_
          refine j_goto (pc := 172) 50 dX12_schedule_172 (by decide) ?_
          refine ih (n + 1) J3 (by omega) (by omega) g7 g8 (fun k hk => ?_) _
          by_cases hkn : k = n
          · subst hkn
            rcases huv with ⟨e, h⟩ | ⟨e, h⟩
            · omega
            · exact h
          · exact hno k (by omega)
    have k21 : ∀ (k : Nat) (J0 : jMI), k ≤ 64 → mSc I J0 → (∀ i, i < k → J0 114 i = if i = 0 then 1 else 0) → S_X12_schedule X 21 [some (jR 105), some (jI u), some (jI v), some (jI k), none] [] J0 q := by
      refine mu2 (fun k _ => 64 - k) _ (fun k J0 ih hk hsc hz => ?_)
      refine j_iload_n (pc := 21) dX12_schedule_21 rfl ?_
      refine j_bipush (pc := 22) dX12_schedule_22 (by decide) ?_
      refine j_icmp_ge (pc := 24) 48 dX12_schedule_24 (by decide) (by omega) (by omega) (fun h_24 => ?_) (fun h_24 => ?_)
      · refine j_iconst (pc := 48) dX12_schedule_48 ?_
        refine j_istore_n3 (pc := 49) dX12_schedule_49 (by decide) rfl ?_
        refine k50 0 J0 (by omega) hsc (fun x y hx hy => ?_) (fun k hk => by omega) _
        rw [hz (8 * x + y) (by omega)]
        by_cases h0 : 8 * x + y = 0
        · rw [if_pos h0]; exact Or.inl ⟨rfl, by omega, by omega⟩
        · rw [if_neg h0]; exact Or.inr ⟨rfl, fun h => h0 (by have := h.1; have := h.2; omega)⟩
      · refine j_aload_n (pc := 27) dX12_schedule_27 rfl ?_
        refine j_getR (pc := 28) f_X12_39 dX12_schedule_28 rfl rfl (by decide) rfl ?_
        refine j_iload_n (pc := 31) dX12_schedule_31 rfl ?_
        refine j_iload_n (pc := 32) dX12_schedule_32 rfl ?_
        refine j_if_ne (pc := 33) 40 dX12_schedule_33 (by decide) (by omega) (fun h_33 => ?_) (fun h_33 => ?_)
        · refine j_iconst (pc := 40) dX12_schedule_40 ?_
          refine j_zast_b (pc := 41) (k) dX12_schedule_41 rfl (by decide) (by decide) (by decide) (by omega) (by omega) ?_
          refine j_iinc3 (pc := 42) dX12_schedule_42 (by decide) rfl ?_
          refine j_goto (pc := 45) 21 dX12_schedule_45 (by decide) ?_
          refine ih (k + 1) _ (by omega) (by omega) (hsc.tr (mSc_f (by omega))) (fun i hi => ?_)
          rw [jSf_s]
          by_cases hik : i = k
          · subst hik; rw [jU_s]; split <;> omega
          · rw [jU_n hik]; exact hz i (by omega)
        · refine j_iconst (pc := 36) dX12_schedule_36 ?_
          refine j_goto (pc := 37) 41 dX12_schedule_37 (by decide) ?_
          refine j_zast_b (pc := 41) (k) dX12_schedule_41 rfl (by decide) (by decide) (by decide) (by omega) (by omega) ?_
          refine j_iinc3 (pc := 42) dX12_schedule_42 (by decide) rfl ?_
          refine j_goto (pc := 45) 21 dX12_schedule_45 (by decide) ?_
          refine ih (k + 1) _ (by omega) (by omega) (hsc.tr (mSc_f (by omega))) (fun i hi => ?_)
          rw [jSf_s]
          by_cases hik : i = k
          · subst hik; rw [jU_s]; split <;> omega
          · rw [jU_n hik]; exact hz i (by omega)
    refine j_iconst (pc := 19) dX12_schedule_19 ?_
    refine j_istore_n3 (pc := 20) dX12_schedule_20 (by decide) rfl ?_
    exact k21 0 I (by omega) mSc.rf (fun i hi => by omega)
  refine j_iload_n (pc := 0) dX12_schedule_0 rfl ?_
  refine j_goI (pc := 1) (j_runS k_X12_89 m_X12_isRoom (c_mRoom X I a ha) dX12_schedule_1 (by decide) rfl rfl (Nat.le_of_ble_eq_true rfl)) (fun r1 I1 h1 => ?_)
  obtain ⟨rfl, rfl⟩ := h1
  refine j_if_eq (pc := 4) 14 dX12_schedule_4 (by decide) (by omega) (fun h_4 => ?_) (fun h_4 => ?_)
  · exact kbad (by omega)
  · refine j_iload_n (pc := 7) dX12_schedule_7 rfl ?_
    refine j_goI (pc := 8) (j_runS k_X12_89 m_X12_isRoom (c_mRoom X I1 b hb) dX12_schedule_8 (by decide) rfl rfl (Nat.le_of_ble_eq_true rfl)) (fun r2 I2 h2 => ?_)
    obtain ⟨rfl, rfl⟩ := h2
    refine j_if_ne (pc := 11) 19 dX12_schedule_11 (by decide) (by omega) (fun h_11 => ?_) (fun h_11 => ?_)
    · obtain ⟨i, rfl⟩ := Int.eq_ofNat_of_zero_le (show 0 ≤ a by omega)
      obtain ⟨j, rfl⟩ := Int.eq_ofNat_of_zero_le (show 0 ≤ b by omega)
      exact key i j rfl rfl (by omega) (by omega)
    · exact kbad (by omega)
