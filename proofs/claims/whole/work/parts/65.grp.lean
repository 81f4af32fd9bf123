theorem mB_tb (M k : Nat) : mB M k = M.testBit k := by rw [mB, Nat.testBit_eq_decide_div_mod_eq]
def ovr (p : Nat → Int32) (S c : Nat) : Prop := ¬ gS p S c 6 ≤ 50
theorem wc_tb (p : Nat → Int32) (M i : Nat) : ∀ k, (wc p M k).testBit i = true ↔ (M.testBit i = true ∨ (0 < i ∧ i ≤ k ∧ ovr p M i))
  | 0 => by
    rw [wc]
    constructor
    · exact Or.inl
    · rintro (h | ⟨h1, h2, -⟩)
      · exact h
      · omega
  | k + 1 => by
    have ih := wc_tb p M i k
    rw [wc, hA_gS]
    by_cases h : gS p M (k + 1) 6 ≤ 50
    · rw [if_pos h, ih]
      constructor
      · rintro (h1 | ⟨h1, h2, h3⟩)
        · exact Or.inl h1
        · exact Or.inr ⟨h1, by omega, h3⟩
      · rintro (h1 | ⟨h1, h2, h3⟩)
        · exact Or.inl h1
        · by_cases e : i = k + 1
          · subst e; exact absurd h h3
          · exact Or.inr ⟨h1, by omega, h3⟩
    · rw [if_neg h, Nat.testBit_or, Bool.or_eq_true, ih, Nat.testBit_two_pow, decide_eq_true_eq]
      constructor
      · rintro ((h1 | ⟨h1, h2, h3⟩) | h1)
        · exact Or.inl h1
        · exact Or.inr ⟨h1, by omega, h3⟩
        · subst h1; exact Or.inr ⟨by omega, by omega, h⟩
      · rintro (h1 | ⟨h1, h2, h3⟩)
        · exact Or.inl (Or.inl h1)
        · by_cases e : i = k + 1
          · exact Or.inr e.symm
          · exact Or.inl (Or.inr ⟨h1, by omega, h3⟩)
theorem gP_tb (p : Nat → Int32) (S k i : Nat) : (gP p S (k + 1)).testBit i = true ↔ ((gP p S k).testBit i = true ∨ (i = k + 1 ∧ ovr p (gP p S k) (k + 1))) := by
  rw [gP, Nat.testBit_or, Bool.or_eq_true]
  by_cases h : gS p (gP p S k) (k + 1) 6 ≤ 50
  · rw [if_pos h, Nat.zero_testBit]
    constructor
    · rintro (h1 | h1)
      · exact Or.inl h1
      · cases h1
    · rintro (h1 | ⟨-, h1⟩)
      · exact Or.inl h1
      · exact absurd h h1
  · rw [if_neg h, Nat.testBit_two_pow, decide_eq_true_eq]
    constructor
    · rintro (h1 | h1)
      · exact Or.inl h1
      · exact Or.inr ⟨h1.symm, h⟩
    · rintro (h1 | ⟨h1, -⟩)
      · exact Or.inl h1
      · exact Or.inr h1.symm
