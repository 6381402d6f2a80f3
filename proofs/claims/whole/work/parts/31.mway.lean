/-! ===== the reference: quiet ways ===== -/
/-- from one room to another in a minute, so that nobody wakes -/
def qt (f : Nat → Int) (m : Int) (a b : Nat) : Prop := a = b ∨ (0 ≤ cr f a b ∧ isW f (cr f a b) b m 0)
theorem c_isQuiet (X : jX) (I : jMI) (a b : Nat) (m : Int) (ha : a < 8) (hb : b < 8) (hm : 0 ≤ m ∧ m ≤ 59) (hok : okSt (I 106)) : C_X12_isQuiet X [jR 105, jI a, jI b, jI m] I (fun r I' => ((r = 1 ∧ qt (I 106) m a b) ∨ (r = 0 ∧ ¬ qt (I 106) m a b)) ∧ ∀ k, k ≠ 110 → I' k = I k) := by
  refine CG.of (by decide) [some (jR 105), some (jI a), some (jI b), some (jI m)] rfl (Nat.le_of_ble_eq_true rfl) ?_
  have hcr := cr_rng hok ha hb
  refine j_iload_n (pc := 0) dX12_isQuiet_0 rfl ?_
  refine j_iload_n (pc := 1) dX12_isQuiet_1 rfl ?_
  refine j_icmp_eq (pc := 2) 29 dX12_isQuiet_2 (by decide) (by omega) (by omega) (fun h_2 => ?_) (fun h_2 => ?_)
  · refine j_iconst (pc := 29) dX12_isQuiet_29 ?_
    refine j_goto (pc := 30) 34 dX12_isQuiet_30 (by decide) ?_
    refine j_retz dX12_isQuiet_34 (by omega) (?_) rfl
    first
      | exact ⟨Or.inl ⟨rfl, Or.inl (by omega)⟩, fun k hk => rfl⟩
      | exact ⟨Or.inr ⟨rfl, fun h => by rcases h with h | h <;> omega⟩, fun k hk => rfl⟩
      | exact ⟨Or.inl ⟨rfl, Or.inr ⟨by omega, by obtain rfl : w = 0 := by omega
                                                 exact hw⟩⟩, fun k hk => jSf_n hk⟩
      | exact ⟨Or.inr ⟨rfl, fun h => by
          rcases h with h | ⟨-, h⟩
          · omega
          · have := isW_uniq h hw
            omega⟩, fun k hk => jSf_n hk⟩
  · refine j_aload_n (pc := 5) dX12_isQuiet_5 rfl ?_
    refine j_iload_n (pc := 6) dX12_isQuiet_6 rfl ?_
    refine j_iload_n (pc := 7) dX12_isQuiet_7 rfl ?_
    refine j_goI (pc := 8) (j_runV k_X12_99 m_X12_creakOf (c_creakOf X I a b ha hb) dX12_isQuiet_8 rfl (by decide) rfl (by decide) (by decide) rfl rfl (Nat.le_of_ble_eq_true rfl)) (fun r1 I1 h1 => ?_)
    obtain ⟨rfl, rfl⟩ := h1
    refine j_if_lt (pc := 11) 33 dX12_isQuiet_11 (by decide) (by omega) (fun h_11 => ?_) (fun h_11 => ?_)
    · refine j_iconst (pc := 33) dX12_isQuiet_33 ?_
      refine j_retz dX12_isQuiet_34 (by omega) (?_) rfl
      first
        | exact ⟨Or.inl ⟨rfl, Or.inl (by omega)⟩, fun k hk => rfl⟩
        | exact ⟨Or.inr ⟨rfl, fun h => by rcases h with h | h <;> omega⟩, fun k hk => rfl⟩
        | exact ⟨Or.inl ⟨rfl, Or.inr ⟨by omega, by obtain rfl : w = 0 := by omega
                                                   exact hw⟩⟩, fun k hk => jSf_n hk⟩
        | exact ⟨Or.inr ⟨rfl, fun h => by
            rcases h with h | ⟨-, h⟩
            · omega
            · have := isW_uniq h hw
              omega⟩, fun k hk => jSf_n hk⟩
    · refine j_aload_n (pc := 14) dX12_isQuiet_14 rfl ?_
      refine j_aload_n (pc := 15) dX12_isQuiet_15 rfl ?_
      refine j_iload_n (pc := 16) dX12_isQuiet_16 rfl ?_
      refine j_iload_n (pc := 17) dX12_isQuiet_17 rfl ?_
      refine j_goI (pc := 18) (j_runV k_X12_99 m_X12_creakOf (c_creakOf X I1 a b ha hb) dX12_isQuiet_18 rfl (by decide) rfl (by decide) (by decide) rfl rfl (Nat.le_of_ble_eq_true rfl)) (fun r2 I2 h2 => ?_)
      obtain ⟨rfl, rfl⟩ := h2
      refine j_iload_n (pc := 21) dX12_isQuiet_21 rfl ?_
      refine j_iload_n (pc := 22) dX12_isQuiet_22 rfl ?_
      refine j_goI (pc := 23) (j_runV k_X12_211 m_X12_wakesBy (c_wakesBy X I2 (cr (I2 106) a b) b m (by omega) hb hm hok) dX12_isQuiet_23 rfl (by decide) rfl (by decide) (by decide) rfl rfl (Nat.le_of_ble_eq_true rfl)) (fun r3 I3 h3 => ?_)
      obtain ⟨w, g, rfl, rfl, hw⟩ := h3
      have hw32 := hw.1
      refine j_if_ne (pc := 26) 33 dX12_isQuiet_26 (by decide) (by omega) (fun h_26 => ?_) (fun h_26 => ?_)
      · refine j_iconst (pc := 33) dX12_isQuiet_33 ?_
        refine j_retz dX12_isQuiet_34 (by omega) (?_) rfl
        first
          | exact ⟨Or.inl ⟨rfl, Or.inl (by omega)⟩, fun k hk => rfl⟩
          | exact ⟨Or.inr ⟨rfl, fun h => by rcases h with h | h <;> omega⟩, fun k hk => rfl⟩
          | exact ⟨Or.inl ⟨rfl, Or.inr ⟨by omega, by obtain rfl : w = 0 := by omega
                                                     exact hw⟩⟩, fun k hk => jSf_n hk⟩
          | exact ⟨Or.inr ⟨rfl, fun h => by
              rcases h with h | ⟨-, h⟩
              · omega
              · have := isW_uniq h hw
                omega⟩, fun k hk => jSf_n hk⟩
      · refine j_iconst (pc := 29) dX12_isQuiet_29 ?_
        refine j_goto (pc := 30) 34 dX12_isQuiet_30 (by decide) ?_
        refine j_retz dX12_isQuiet_34 (by omega) (?_) rfl
        first
          | exact ⟨Or.inl ⟨rfl, Or.inl (by omega)⟩, fun k hk => rfl⟩
          | exact ⟨Or.inr ⟨rfl, fun h => by rcases h with h | h <;> omega⟩, fun k hk => rfl⟩
          | exact ⟨Or.inl ⟨rfl, Or.inr ⟨by omega, by obtain rfl : w = 0 := by omega
                                                     exact hw⟩⟩, fun k hk => jSf_n hk⟩
          | exact ⟨Or.inr ⟨rfl, fun h => by
              rcases h with h | ⟨-, h⟩
              · omega
              · have := isW_uniq h hw
                omega⟩, fun k hk => jSf_n hk⟩
/-- the row of quiet steps of a minute -/
def isQ (f : Nat → Int) (m : Int) (g : Nat → Int) : Prop := ∀ a b, a < 8 → b < 8 → (g (8 * a + b) = 1 ∧ qt f m a b) ∨ (g (8 * a + b) = 0 ∧ ¬ qt f m a b)
theorem c_findQuiet (X : jX) (I : jMI) (m : Int) (hm : 0 ≤ m ∧ m ≤ 59) (hok : okSt (I 106)) : C_X12_findQuiet X [jR 105, jI m] I (fun I' => isQ (I 106) m (I' 112) ∧ ∀ k, k ≠ 110 → k ≠ 112 → I' k = I k) := by
  refine CG.of (by decide) [some (jR 105), some (jI m), none] rfl (Nat.le_of_ble_eq_true rfl) ?_
  have key : ∀ (k : Nat) (J0 : jMI), k ≤ 64 → (∀ c, c ≠ 110 → c ≠ 112 → J0 c = I c) → (∀ i, i < k → (J0 112 i = 1 ∧ qt (I 106) m (i / 8) (i % 8)) ∨ (J0 112 i = 0 ∧ ¬ qt (I 106) m (i / 8) (i % 8))) → S_X12_findQuiet X 2 [some (jR 105), some (jI m), some (jI k)] [] J0 (fun I' => isQ (I 106) m (I' 112) ∧ ∀ k, k ≠ 110 → k ≠ 112 → I' k = I k) := by
    refine mu2 (fun k _ => 64 - k) _ (fun k J0 ih hk hJ hg => ?_)
    have e6 : J0 106 = I 106 := hJ 106 (by omega) (by omega)
    refine j_iload_n (pc := 2) dX12_findQuiet_2 rfl ?_
    refine j_bipush (pc := 3) dX12_findQuiet_3 (by decide) ?_
    refine j_icmp_ge (pc := 5) 33 dX12_findQuiet_5 (by decide) (by omega) (by omega) (fun h_5 => ?_) (fun h_5 => ?_)
    · refine j_retv dX12_findQuiet_33 (?_) rfl
      obtain rfl : k = 64 := by omega
      refine ⟨fun a b ha hb => ?_, hJ⟩
      have := hg (8 * a + b) (by omega)
      rw [show (8 * a + b) / 8 = a by omega, show (8 * a + b) % 8 = b by omega] at this
      exact this
    · refine j_aload_n (pc := 8) dX12_findQuiet_8 rfl ?_
      refine j_getR (pc := 9) f_X12_32 dX12_findQuiet_9 rfl rfl (by decide) rfl ?_
      refine j_iload_n (pc := 12) dX12_findQuiet_12 rfl ?_
      refine j_aload_n (pc := 13) dX12_findQuiet_13 rfl ?_
      refine j_iload_n (pc := 14) dX12_findQuiet_14 rfl ?_
      refine j_bipush (pc := 15) dX12_findQuiet_15 (by decide) ?_
      refine j_idiv (pc := 17) dX12_findQuiet_17 (by omega) (by omega) ?_
      refine j_iload_n (pc := 18) dX12_findQuiet_18 rfl ?_
      refine j_bipush (pc := 19) dX12_findQuiet_19 (by decide) ?_
      refine j_irem (pc := 21) dX12_findQuiet_21 (by omega) (by omega) ?_
      refine j_iload_n (pc := 22) dX12_findQuiet_22 rfl ?_
      rw [show (k : Int) / 8 = ((k / 8 : Nat) : Int) by omega, show (k : Int) % 8 = ((k % 8 : Nat) : Int) by omega]
      refine j_goI (pc := 23) (j_runV k_X12_231 m_X12_isQuiet (c_isQuiet X J0 (k / 8) (k % 8) m (by omega) (by omega) hm (by rw [e6]; exact hok)) dX12_findQuiet_23 rfl (by decide) rfl (by decide) (by decide) rfl rfl (Nat.le_of_ble_eq_true rfl)) (fun r1 I1 h1 => ?_)
      obtain ⟨h1, h2⟩ := h1
      rw [e6] at h1
      refine j_zast_b (pc := 26) (k) dX12_findQuiet_26 rfl (by decide) (by decide) (by rcases h1 with ⟨rfl, -⟩ | ⟨rfl, -⟩ <;> decide) (by omega) (by omega) ?_
      refine j_iinc2 (pc := 27) dX12_findQuiet_27 (by decide) rfl ?_
      refine j_goto (pc := 30) 2 dX12_findQuiet_30 (by decide) ?_
      refine ih (k + 1) _ (by omega) (by omega) (fun c hc1 hc2 => ?_) (fun i hi => ?_)
      · rw [jSf_n hc2, h2 c hc1]; exact hJ c hc1 hc2
      · rw [jSf_s]
        by_cases hik : i = k
        · subst hik; rw [jU_s]; exact h1
        · rw [jU_n hik, h2 112 (by omega)]; exact hg i (by omega)
  refine j_iconst (pc := 0) dX12_findQuiet_0 ?_
  refine j_istore_n2 (pc := 1) dX12_findQuiet_1 (by decide) rfl ?_
  exact key 0 I (by omega) (fun _ _ _ => rfl) (fun i hi => by omega)
/-- a quiet way of n minutes from a room in a minute to the goal -/
def wy (f : Nat → Int) (to : Nat) : Nat → Nat → Nat → Prop
  | 0, _, a => a = to
  | n + 1, m, a => ∃ b, b < 8 ∧ qt f m a b ∧ wy f to n (m + 1) b
/-- the fewest minutes to the goal, there in minute 59 at the latest; 99: none -/
def isL (f : Nat → Int) (to m a : Nat) (v : Int) : Prop := (v = 99 ∧ ∀ n, m + n ≤ 59 → ¬ wy f to n m a) ∨ ∃ n : Nat, v = n ∧ m + n ≤ 59 ∧ wy f to n m a ∧ ∀ n', m + n' ≤ 59 → wy f to n' m a → n ≤ n'
theorem isL_rng {f : Nat → Int} {to m a : Nat} {v : Int} (h : isL f to m a v) : 0 ≤ v ∧ v ≤ 99 ∧ (v = 99 ∨ (m : Int) + v ≤ 59) := by
  rcases h with ⟨h, -⟩ | ⟨n, h, h1, -⟩ <;> omega
theorem isL_uniq {f : Nat → Int} {to m a : Nat} {v w : Int} (h : isL f to m a v) (h' : isL f to m a w) : v = w := by
  rcases h with ⟨h, n⟩ | ⟨n, h, h1, h2, h3⟩ <;> rcases h' with ⟨h', n'⟩ | ⟨n', h', h1', h2', h3'⟩
  · omega
  · exact absurd h2' (n n' h1')
  · exact absurd h2 (n' n h1)
  · have := h3 n' h1' h2'; have := h3' n h1 h2; omega
theorem isL_to {f : Nat → Int} {to m : Nat} (hm : m ≤ 59) : isL f to m to 0 := Or.inr ⟨0, rfl, by omega, rfl, fun _ _ _ => Nat.zero_le _⟩
theorem isL_59 {f : Nat → Int} {to a : Nat} (h : a ≠ to) : isL f to 59 a 99 := by
  refine Or.inl ⟨rfl, fun n hn hw => ?_⟩
  obtain rfl : n = 0 := by omega
  exact h hw
/-- the best of the rooms that were looked at -/
def bst (f : Nat → Int) (m a : Nat) (lf : Nat → Int) (b : Nat) (v : Int) : Prop := (v = 99 ∨ ∃ c, c < b ∧ qt f m a c ∧ v = lf c + 1 ∧ v < 99) ∧ ∀ c, c < b → qt f m a c → lf c < 98 → v ≤ lf c + 1
theorem bst_end {f : Nat → Int} {to m a : Nat} {lf : Nat → Int} {v : Int} (hm : m < 59) (ha : a ≠ to) (hlf : ∀ c, c < 8 → isL f to (m + 1) c (lf c)) (h : bst f m a lf 8 v) : isL f to m a v := by
  rcases h.1 with h1 | ⟨c, hc, hq, h1, h2⟩
  · refine Or.inl ⟨h1, fun n hn hw => ?_⟩
    cases n with
    | zero => exact ha hw
    | succ n =>
      obtain ⟨b, hb, hq, hw⟩ := hw
      rcases hlf b hb with ⟨-, hno⟩ | ⟨n', e1, e2, e3, e4⟩
      · exact hno n (by omega) hw
      · have := h.2 b hb hq (by omega)
        omega
  · rcases hlf c hc with ⟨e0, -⟩ | ⟨n', e1, e2, e3, e4⟩
    · omega
    · refine Or.inr ⟨n' + 1, by omega, by omega, ⟨c, hc, hq, e3⟩, fun n hn hw => ?_⟩
      cases n with
      | zero => exact absurd hw ha
      | succ n =>
        obtain ⟨b, hb, hq', hw⟩ := hw
        rcases hlf b hb with ⟨-, hno⟩ | ⟨n2, f1, f2, f3, f4⟩
        · exact absurd hw (hno n (by omega))
        · have h5 := f4 n (by omega) hw
          have h6 := h.2 b hb hq' (by omega)
          omega
theorem bst_step {f : Nat → Int} {m a : Nat} {lf : Nat → Int} {b : Nat} {v w : Int} (h : bst f m a lf b v) (hv : (w = lf b + 1 ∧ lf b + 1 < v ∧ qt f m a b) ∨ (w = v ∧ (qt f m a b → v ≤ lf b + 1))) (hv9 : v ≤ 99) : bst f m a lf (b + 1) w := by
  have hle : w ≤ v := by rcases hv with ⟨h1, h2, -⟩ | ⟨h1, -⟩ <;> omega
  refine ⟨?_, fun c hc hq hl => ?_⟩
  · rcases hv with ⟨h1, h2, h3⟩ | ⟨h1, -⟩
    · exact Or.inr ⟨b, by omega, h3, h1, by omega⟩
    · rcases h.1 with h4 | ⟨c, h5, h6, h7, h8⟩
      · exact Or.inl (by omega)
      · exact Or.inr ⟨c, by omega, h6, by omega, by omega⟩
  · by_cases hcb : c = b
    · subst hcb
      rcases hv with ⟨h1, h2, -⟩ | ⟨h1, h2⟩
      · omega
      · have := h2 hq; omega
    · have := h.2 c (by omega) hq hl
      omega
set_option maxHeartbeats 4000000 in
theorem c_findWays (X : jX) (I : jMI) (to mi : Nat) (hto : to < 8) (hmi : mi ≤ 59) (hok : okSt (I 106)) : C_X12_findWays X [jR 105, jI to, jI mi] I (fun I' => (∀ m a, mi ≤ m → m ≤ 59 → a < 8 → isL (I 106) to m a (I' 113 (8 * m + a))) ∧ ∀ k, k ≠ 110 → k ≠ 112 → k ≠ 113 → I' k = I k) := by
  refine CG.of (by decide) [some (jR 105), some (jI to), some (jI mi), none, none, none, none, none] rfl (Nat.le_of_ble_eq_true rfl) ?_
  generalize hq : (fun (I' : jMI) => (∀ m a, mi ≤ m → m ≤ 59 → a < 8 → isL (I 106) to m a (I' 113 (8 * m + a))) ∧ ∀ k, k ≠ 110 → k ≠ 112 → k ≠ 113 → I' k = I k) = q
  -- what holds of the memory while minute m is under way: rooms below a are done
  have k40 : ∀ (m a : Nat) (J0 : jMI), m ≤ 59 → a < 8 → (∀ k, k ≠ 110 → k ≠ 112 → k ≠ 113 → J0 k = I k) → isQ (I 106) m (J0 112) → (m < 59 → ∀ c, c < 8 → isL (I 106) to (m + 1) c (J0 113 (8 * (m + 1) + c))) →
      (∀ (v : Int) x6 x7, isL (I 106) to m a v → S_X12_findWays X 115 [some (jR 105), some (jI to), some (jI mi), some (jI m), some (jI a), some (jI v), x6, x7] [] J0 q) →
      ∀ (b : Nat) (v : Int), b ≤ 8 → 0 ≤ v ∧ v ≤ 99 → ((m = 59 ∨ a = to) → isL (I 106) to m a v) → (m < 59 → a ≠ to → bst (I 106) m a (fun c => J0 113 (8 * (m + 1) + c)) b v) → ∀ x7, S_X12_findWays X 40 [some (jR 105), some (jI to), some (jI mi), some (jI m), some (jI a), some (jI v), some (jI b), x7] [] J0 q := by
    intro m a J0 hm ha hJ hQ hlf hx
    refine mu2 (fun b _ => 8 - b) _ (fun b v ih hb hv h0 hbs x7 => ?_)
    refine j_iload (pc := 40) dX12_findWays_40 rfl ?_
    refine j_bipush (pc := 42) dX12_findWays_42 (by decide) ?_
    refine j_icmp_ge (pc := 44) 115 dX12_findWays_44 (by decide) (by omega) (by omega) (fun h_44 => ?_) (fun h_44 => ?_)
    · obtain rfl : b = 8 := by omega
      refine hx v _ _ ?_
      by_cases h1 : m = 59 ∨ a = to
      · exact h0 h1
      · exact bst_end (by omega) (by omega) (hlf (by omega)) (hbs (by omega) (by omega))
    · refine j_iload_n (pc := 47) dX12_findWays_47 rfl ?_
      refine j_bipush (pc := 48) dX12_findWays_48 (by decide) ?_
      refine j_icmp_ge (pc := 50) 115 dX12_findWays_50 (by decide) (by omega) (by omega) (fun h_50 => ?_) (fun h_50 => ?_)
      · exact hx v _ _ (h0 (Or.inl (by omega)))
      · refine j_iload (pc := 53) dX12_findWays_53 rfl ?_
        refine j_iload_n (pc := 55) dX12_findWays_55 rfl ?_
        refine j_icmp_eq (pc := 56) 115 dX12_findWays_56 (by decide) (by omega) (by omega) (fun h_56 => ?_) (fun h_56 => ?_)
        · exact hx v _ _ (h0 (Or.inr (by omega)))
        · have hl := hlf (by omega) b (by omega)
          have hlr := isL_rng hl
          have hbs1 := hbs (by omega) (by omega)
          have hqq := hQ a b ha (by omega)
          refine j_aload_n (pc := 59) dX12_findWays_59 rfl ?_
          refine j_getR (pc := 60) f_X12_36 dX12_findWays_60 rfl rfl (by decide) rfl ?_
          refine j_bipush (pc := 63) dX12_findWays_63 (by decide) ?_
          refine j_iload_n (pc := 65) dX12_findWays_65 rfl ?_
          refine j_iconst (pc := 66) dX12_findWays_66 ?_
          refine j_iadd (pc := 67) dX12_findWays_67 ?_
          refine j_imul (pc := 68) dX12_findWays_68 ?_
          refine j_iload (pc := 69) dX12_findWays_69 rfl ?_
          refine j_iadd (pc := 71) dX12_findWays_71 ?_
          refine j_iald_b (pc := 72) (8 * (m + 1) + b) dX12_findWays_72 rfl (by decide) (by decide) (by omega) (by omega) ?_
          refine j_iconst (pc := 73) dX12_findWays_73 ?_
          refine j_iadd (pc := 74) dX12_findWays_74 ?_
          refine j_istore7 (pc := 75) dX12_findWays_75 (by decide) rfl ?_
          refine j_iload (pc := 77) dX12_findWays_77 rfl ?_
          refine j_iload (pc := 79) dX12_findWays_79 rfl ?_
          refine j_icmp_ge (pc := 81) 105 dX12_findWays_81 (by decide) (by omega) (by omega) (fun h_81 => ?_) (fun h_81 => ?_)
          · refine j_iload (pc := 105) dX12_findWays_105 rfl ?_
            refine j_istore5 (pc := 107) dX12_findWays_107 (by decide) rfl ?_
            refine j_iinc6 (pc := 109) dX12_findWays_109 (by decide) rfl ?_
            refine j_goto (pc := 112) 40 dX12_findWays_112 (by decide) ?_
            refine ih (b + 1) _ (by omega) (by omega) (by omega) (fun h => by omega) (fun _ _ => bst_step hbs1 ?_ (by omega)) _
            rcases hqq with ⟨e1, e2⟩ | ⟨e1, e2⟩
            · first | exact Or.inl ⟨rfl, by omega, e2⟩ | exact Or.inr ⟨rfl, fun _ => by omega⟩
            · first | exact Or.inr ⟨rfl, fun h => absurd h e2⟩ | (exfalso; omega)
          · refine j_aload_n (pc := 84) dX12_findWays_84 rfl ?_
            refine j_getR (pc := 85) f_X12_32 dX12_findWays_85 rfl rfl (by decide) rfl ?_
            refine j_bipush (pc := 88) dX12_findWays_88 (by decide) ?_
            refine j_iload (pc := 90) dX12_findWays_90 rfl ?_
            refine j_imul (pc := 92) dX12_findWays_92 ?_
            refine j_iload (pc := 93) dX12_findWays_93 rfl ?_
            refine j_iadd (pc := 95) dX12_findWays_95 ?_
            refine j_zald_b (pc := 96) (8 * a + b) dX12_findWays_96 rfl (by decide) (by decide) (by omega) (by omega) ?_
            refine j_if_eq (pc := 97) 105 dX12_findWays_97 (by decide) (by omega) (fun h_97 => ?_) (fun h_97 => ?_)
            · refine j_iload (pc := 105) dX12_findWays_105 rfl ?_
              refine j_istore5 (pc := 107) dX12_findWays_107 (by decide) rfl ?_
              refine j_iinc6 (pc := 109) dX12_findWays_109 (by decide) rfl ?_
              refine j_goto (pc := 112) 40 dX12_findWays_112 (by decide) ?_
              refine ih (b + 1) _ (by omega) (by omega) (by omega) (fun h => by omega) (fun _ _ => bst_step hbs1 ?_ (by omega)) _
              rcases hqq with ⟨e1, e2⟩ | ⟨e1, e2⟩
              · first | exact Or.inl ⟨rfl, by omega, e2⟩ | exact Or.inr ⟨rfl, fun _ => by omega⟩
              · first | exact Or.inr ⟨rfl, fun h => absurd h e2⟩ | (exfalso; omega)
            · refine j_iload (pc := 100) dX12_findWays_100 rfl ?_
              refine j_goto (pc := 102) 107 dX12_findWays_102 (by decide) ?_
              refine j_istore5 (pc := 107) dX12_findWays_107 (by decide) rfl ?_
              refine j_iinc6 (pc := 109) dX12_findWays_109 (by decide) rfl ?_
              refine j_goto (pc := 112) 40 dX12_findWays_112 (by decide) ?_
              refine ih (b + 1) _ (by omega) (by omega) (by omega) (fun h => by omega) (fun _ _ => bst_step hbs1 ?_ (by omega)) _
              rcases hqq with ⟨e1, e2⟩ | ⟨e1, e2⟩
              · first | exact Or.inl ⟨rfl, by omega, e2⟩ | exact Or.inr ⟨rfl, fun _ => by omega⟩
              · first | exact Or.inr ⟨rfl, fun h => absurd h e2⟩ | (exfalso; omega)
  have k16 : ∀ (m : Nat), mi ≤ m → m ≤ 59 → (∀ (J0 : jMI) x4 x5 x6 x7, (∀ k, k ≠ 110 → k ≠ 112 → k ≠ 113 → J0 k = I k) → (∀ m' c, m ≤ m' → m' ≤ 59 → c < 8 → isL (I 106) to m' c (J0 113 (8 * m' + c))) → S_X12_findWays X 135 [some (jR 105), some (jI to), some (jI mi), some (jI m), x4, x5, x6, x7] [] J0 q) →
      ∀ (a : Nat) (J0 : jMI), a ≤ 8 → (∀ k, k ≠ 110 → k ≠ 112 → k ≠ 113 → J0 k = I k) → isQ (I 106) m (J0 112) → (∀ m' c, m < m' → m' ≤ 59 → c < 8 → isL (I 106) to m' c (J0 113 (8 * m' + c))) → (∀ c, c < a → isL (I 106) to m c (J0 113 (8 * m + c))) → ∀ x5 x6 x7, S_X12_findWays X 16 [some (jR 105), some (jI to), some (jI mi), some (jI m), some (jI a), x5, x6, x7] [] J0 q := by
    intro m hm1 hm hx
    refine mu2 (fun a _ => 8 - a) _ (fun a J0 ih ha hJ hQ hd1 hd2 x5 x6 x7 => ?_)
    have k115 : a < 8 → ∀ (v : Int) x6 x7, isL (I 106) to m a v → S_X12_findWays X 115 [some (jR 105), some (jI to), some (jI mi), some (jI m), some (jI a), some (jI v), x6, x7] [] J0 q := by
      intro ha1 v x6 x7 hv
      refine j_aload_n (pc := 115) dX12_findWays_115 rfl ?_
      refine j_getR (pc := 116) f_X12_36 dX12_findWays_116 rfl rfl (by decide) rfl ?_
      refine j_bipush (pc := 119) dX12_findWays_119 (by decide) ?_
      refine j_iload_n (pc := 121) dX12_findWays_121 rfl ?_
      refine j_imul (pc := 122) dX12_findWays_122 ?_
      refine j_iload (pc := 123) dX12_findWays_123 rfl ?_
      refine j_iadd (pc := 125) dX12_findWays_125 ?_
      refine j_iload (pc := 126) dX12_findWays_126 rfl ?_
      refine j_iast_b (pc := 128) (8 * m + a) dX12_findWays_128 rfl (by decide) (by decide) (by omega) (by omega) ?_
      refine j_iinc4 (pc := 129) dX12_findWays_129 (by decide) rfl ?_
      refine j_goto (pc := 132) 16 dX12_findWays_132 (by decide) ?_
      refine ih (a + 1) _ (by omega) (by omega) (fun k h1 h2 h3 => ?_) ?_ (fun m' c h1 h2 h3 => ?_) (fun c hc => ?_) _ _ _
      · rw [jSf_n h3]; exact hJ k h1 h2 h3
      · rw [jSf_n (by decide)]; exact hQ
      · rw [jSf_s, jU_n (by omega)]; exact hd1 m' c h1 h2 h3
      · rw [jSf_s]
        by_cases hca : c = a
        · subst hca; rw [jU_s]; exact hv
        · rw [jU_n (by omega)]; exact hd2 c (by omega)
    refine j_iload (pc := 16) dX12_findWays_16 rfl ?_
    refine j_bipush (pc := 18) dX12_findWays_18 (by decide) ?_
    refine j_icmp_ge (pc := 20) 135 dX12_findWays_20 (by decide) (by omega) (by omega) (fun h_20 => ?_) (fun h_20 => ?_)
    · obtain rfl : a = 8 := by omega
      refine hx J0 _ _ _ _ hJ (fun m' c h1 h2 h3 => ?_)
      by_cases hmm : m' = m
      · subst hmm; exact hd2 c h3
      · exact hd1 m' c (by omega) h2 h3
    · refine j_iload (pc := 23) dX12_findWays_23 rfl ?_
      refine j_iload_n (pc := 25) dX12_findWays_25 rfl ?_
      refine j_icmp_ne (pc := 26) 33 dX12_findWays_26 (by decide) (by omega) (by omega) (fun h_26 => ?_) (fun h_26 => ?_)
      · refine j_bipush (pc := 33) dX12_findWays_33 (by decide) ?_
        refine j_istore5 (pc := 35) dX12_findWays_35 (by decide) rfl ?_
        refine j_iconst (pc := 37) dX12_findWays_37 ?_
        refine j_istore6 (pc := 38) dX12_findWays_38 (by decide) rfl ?_
        refine k40 m a J0 hm (by omega) hJ hQ (fun h c hc => hd1 (m + 1) c (by omega) (by omega) hc) (k115 (by omega)) 0 _ (by omega) (by omega) (fun h => ?_) (fun h1 h2 => ?_) _
        · first
            | (obtain rfl : a = to := by omega
               exact isL_to hm)
            | (obtain rfl : m = 59 := by omega
               exact isL_59 (by omega))
        · first
            | exact ⟨Or.inl rfl, fun c hc => by omega⟩
            | (exfalso; omega)
      · refine j_iconst (pc := 29) dX12_findWays_29 ?_
        refine j_goto (pc := 30) 35 dX12_findWays_30 (by decide) ?_
        refine j_istore5 (pc := 35) dX12_findWays_35 (by decide) rfl ?_
        refine j_iconst (pc := 37) dX12_findWays_37 ?_
        refine j_istore6 (pc := 38) dX12_findWays_38 (by decide) rfl ?_
        refine k40 m a J0 hm (by omega) hJ hQ (fun h c hc => hd1 (m + 1) c (by omega) (by omega) hc) (k115 (by omega)) 0 _ (by omega) (by omega) (fun h => ?_) (fun h1 h2 => ?_) _
        · first
            | (obtain rfl : a = to := by omega
               exact isL_to hm)
            | (obtain rfl : m = 59 := by omega
               exact isL_59 (by omega))
        · first
            | exact ⟨Or.inl rfl, fun c hc => by omega⟩
            | (exfalso; omega)
  have k3 : ∀ (m1 : Nat) (J0 : jMI), mi ≤ m1 → m1 ≤ 60 → (∀ k, k ≠ 110 → k ≠ 112 → k ≠ 113 → J0 k = I k) → (∀ m' c, m1 ≤ m' → m' ≤ 59 → c < 8 → isL (I 106) to m' c (J0 113 (8 * m' + c))) → ∀ x4 x5 x6 x7, S_X12_findWays X 3 [some (jR 105), some (jI to), some (jI mi), some (jI ((m1 : Int) - 1)), x4, x5, x6, x7] [] J0 q := by
    refine mu2 (fun m1 _ => m1) _ (fun m1 J0 ih hm0 hm hJ hd x4 x5 x6 x7 => ?_)
    have e6 : J0 106 = I 106 := hJ 106 (by omega) (by omega) (by omega)
    refine j_iload_n (pc := 3) dX12_findWays_3 rfl ?_
    refine j_iload_n (pc := 4) dX12_findWays_4 rfl ?_
    refine j_icmp_lt (pc := 5) 141 dX12_findWays_5 (by decide) (by omega) (by omega) (fun h_5 => ?_) (fun h_5 => ?_)
    · refine j_retv dX12_findWays_141 (?_) rfl
      obtain rfl : m1 = mi := by omega
      subst hq
      exact ⟨hd, hJ⟩
    · obtain ⟨m, rfl⟩ : ∃ m, m1 = m + 1 := ⟨m1 - 1, by omega⟩
      rw [show (((m + 1 : Nat) : Int) - 1) = (m : Int) by omega]
      refine j_aload_n (pc := 8) dX12_findWays_8 rfl ?_
      refine j_iload_n (pc := 9) dX12_findWays_9 rfl ?_
      refine j_goV (pc := 10) (j_runV k_X12_235 m_X12_findQuiet (c_findQuiet X J0 m (by omega) (by rw [e6]; exact hok)) dX12_findWays_10 rfl (by decide) rfl (by decide) (by decide) rfl rfl (Nat.le_of_ble_eq_true rfl)) (fun I1 h1 => ?_)
      obtain ⟨h1, h2⟩ := h1
      rw [e6] at h1
      refine j_iconst (pc := 13) dX12_findWays_13 ?_
      refine j_istore4 (pc := 14) dX12_findWays_14 (by decide) rfl ?_
      refine k16 m (by omega) (by omega) (fun J2 y4 y5 y6 y7 hJ2 hd2 => ?_) 0 I1 (by omega) (fun k g1 g2 g3 => (h2 k g1 g2).trans (hJ k g1 g2 g3)) h1 (fun m' c g1 g2 g3 => by rw [h2 113 (by omega) (by omega)]; exact hd m' c (by omega) g2 g3) (fun c hc => by omega) _ _ _
      have hn := ih m J2 (by omega) (by omega) (by omega) hJ2 hd2 y4 y5 y6 y7
      refine j_iinc3 (pc := 135) dX12_findWays_135 (by decide) rfl ?_
      refine j_goto (pc := 138) 3 dX12_findWays_138 (by decide) ?_
      exact hn
  refine j_bipush (pc := 0) dX12_findWays_0 (by decide) ?_
  refine j_istore_n3 (pc := 2) dX12_findWays_2 (by decide) rfl ?_
  exact k3 60 I (by omega) (by omega) (fun _ _ _ _ => rfl) (fun m' c h1 h2 => by omega) _ _ _ _
