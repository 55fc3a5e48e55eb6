/-! PURE: the model's search over all sets -/
def OptS (k : Nat) (ct : Nat → Nat) (A : Nat → Bool) (mu : Nat) (bb : Bool) (bx s : Nat) : Prop := if bb then bx < s ∧ mu &&& bx = mu ∧ A bx = true ∧ ∀ Y, Y < s → mu &&& Y = mu → A Y = true → bst ct k bx Y else ∀ Y, Y < s → mu &&& Y = mu → A Y = true → False
theorem OptS_no {k : Nat} {ct : Nat → Nat} {A : Nat → Bool} {mu : Nat} {bb : Bool} {bx s : Nat} (h : OptS k ct A mu bb bx s) (hn : ¬ (mu &&& s = mu ∧ A s = true)) : OptS k ct A mu bb bx (s + 1) := by
  cases bb
  · intro Y hY h1 h2
    rcases Nat.lt_or_ge Y s with h3 | h3
    · exact h Y h3 h1 h2
    · rw [show Y = s by omega] at h1 h2; exact hn ⟨h1, h2⟩
  · obtain ⟨a, b, c, d⟩ : bx < s ∧ mu &&& bx = mu ∧ A bx = true ∧ ∀ Y, Y < s → mu &&& Y = mu → A Y = true → bst ct k bx Y := h
    refine ⟨by omega, b, c, fun Y hY h1 h2 => ?_⟩
    rcases Nat.lt_or_ge Y s with h3 | h3
    · exact d Y h3 h1 h2
    · rw [show Y = s by omega] at h1 h2; exact absurd ⟨h1, h2⟩ hn
theorem OptS_first {k : Nat} {ct : Nat → Nat} {A : Nat → Bool} {mu bx s : Nat} (h : OptS k ct A mu false bx s) (h1 : mu &&& s = mu) (h2 : A s = true) : OptS k ct A mu true s (s + 1) := by
  refine ⟨by omega, h1, h2, fun Y hY h3 h4 => ?_⟩
  rcases Nat.lt_or_ge Y s with h5 | h5
  · exact absurd h4 (fun h4 => h Y h5 h3 h4)
  · exact Or.inl (by omega)
theorem OptS_rep {k : Nat} {ct : Nat → Nat} {A : Nat → Bool} {mu bx s : Nat} (hs : s < 65536) (h : OptS k ct A mu true bx s) (h1 : mu &&& s = mu) (h2 : A s = true) (hb : prc ct s k < prc ct bx k ∨ (prc ct s k = prc ct bx k ∧ rat s bx = true)) : OptS k ct A mu true s (s + 1) := by
  obtain ⟨a, b, c, d⟩ : bx < s ∧ mu &&& bx = mu ∧ A bx = true ∧ ∀ Y, Y < s → mu &&& Y = mu → A Y = true → bst ct k bx Y := h
  refine ⟨by omega, h1, h2, fun Y hY h3 h4 => ?_⟩
  rcases Nat.lt_or_ge Y s with h5 | h5
  · exact bst_trans hs (by omega) (by omega) (Or.inr hb) (d Y h5 h3 h4)
  · exact Or.inl (by omega)
theorem OptS_keep {k : Nat} {ct : Nat → Nat} {A : Nat → Bool} {mu bx s : Nat} (hs : s < 65536) (h : OptS k ct A mu true bx s) (hb : ¬ (prc ct s k < prc ct bx k ∨ (prc ct s k = prc ct bx k ∧ rat s bx = true))) : OptS k ct A mu true bx (s + 1) := by
  obtain ⟨a, b, c, d⟩ : bx < s ∧ mu &&& bx = mu ∧ A bx = true ∧ ∀ Y, Y < s → mu &&& Y = mu → A Y = true → bst ct k bx Y := h
  refine ⟨by omega, b, c, fun Y hY h3 h4 => ?_⟩
  rcases Nat.lt_or_ge Y s with h5 | h5
  · exact d Y h5 h3 h4
  · rw [show Y = s by omega]
    rcases Nat.lt_trichotomy (prc ct bx k) (prc ct s k) with h6 | h6 | h6
    · exact Or.inr (Or.inl h6)
    · rcases rat_tot (show bx < 65536 by omega) hs (by omega) with h7 | h7
      · exact Or.inr (Or.inr ⟨h6, h7⟩)
      · exact absurd (Or.inr ⟨h6.symm, h7⟩) hb
    · exact absurd (Or.inl h6) hb
theorem OptS_end {k : Nat} {ct : Nat → Nat} {A : Nat → Bool} {mu : Nat} {bb : Bool} {bx : Nat} (hmu : mu < 2 ^ k) (hfull : A (2 ^ k - 1) = true) (h : OptS k ct A mu bb bx (2 ^ k)) : bb = true ∧ Opt k ct A mu bx := by
  have hp : 0 < 2 ^ k := Nat.pow_pos (by decide)
  cases bb
  · exact absurd hfull (fun hf => h (2 ^ k - 1) (by omega) (by rw [Nat.and_two_pow_sub_one_eq_mod, Nat.mod_eq_of_lt hmu]) hf)
  · exact ⟨rfl, h⟩
theorem and_cm {s mu : Nat} (h : s &&& mu = mu) : mu &&& s = mu := by rw [Nat.and_comm]; exact h
theorem and_ncm {s mu : Nat} {A : Prop} (h : ¬ s &&& mu = mu) : ¬ (mu &&& s = mu ∧ A) := fun z => h (by rw [Nat.and_comm]; exact z.1)
