/-! ===== induction by a measure ===== -/
theorem mu1 {α : Type} (μ : α → Nat) (G : α → Prop) (h : ∀ a, (∀ a', μ a' < μ a → G a') → G a) : ∀ a, G a := by
  have key : ∀ n a, μ a < n → G a := by
    intro n
    induction n with
    | zero => intro a ha; omega
    | succ n ih => intro a ha; exact h a (fun a' h' => ih a' (by omega))
  exact fun a => key (μ a + 1) a (by omega)
theorem mu2 {α β : Type} (μ : α → β → Nat) (G : α → β → Prop) (h : ∀ a b, (∀ a' b', μ a' b' < μ a b → G a' b') → G a b) : ∀ a b, G a b := fun a b =>
  mu1 (fun s : α × β => μ s.1 s.2) (fun s => G s.1 s.2) (fun s ih => h s.1 s.2 (fun a' b' hh => ih (a', b') hh)) (a, b)
theorem mu3 {α β γ : Type} (μ : α → β → γ → Nat) (G : α → β → γ → Prop) (h : ∀ a b c, (∀ a' b' c', μ a' b' c' < μ a b c → G a' b' c') → G a b c) : ∀ a b c, G a b c := fun a b c =>
  mu1 (fun s : α × β × γ => μ s.1 s.2.1 s.2.2) (fun s => G s.1 s.2.1 s.2.2) (fun s ih => h s.1 s.2.1 s.2.2 (fun a' b' c' hh => ih (a', b', c') hh)) (a, b, c)
theorem mu4 {α β γ δ : Type} (μ : α → β → γ → δ → Nat) (G : α → β → γ → δ → Prop) (h : ∀ a b c d, (∀ a' b' c' d', μ a' b' c' d' < μ a b c d → G a' b' c' d') → G a b c d) : ∀ a b c d, G a b c d := fun a b c d =>
  mu1 (fun s : α × β × γ × δ => μ s.1 s.2.1 s.2.2.1 s.2.2.2) (fun s => G s.1 s.2.1 s.2.2.1 s.2.2.2) (fun s ih => h s.1 s.2.1 s.2.2.1 s.2.2.2 (fun a' b' c' d' hh => ih (a', b', c', d') hh)) (a, b, c, d)
