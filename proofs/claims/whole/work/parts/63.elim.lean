theorem min_c (x y : Int32) : (if x < y then x else y) = (if x ≤ y then x else y) := by
  by_cases h : x < y
  · rw [if_pos h, if_pos (Int32.le_of_lt h)]
  · rw [if_neg h]
    by_cases h2 : x ≤ y
    · rw [if_pos h2]
      exact Int32.le_antisymm (Int32.not_lt.mp h) h2
    · rw [if_neg h2]
theorem elS_at (cl ad ad2 : Nat → Int32) (S i j : Nat) (hi : i < 6) (hj : j < 6) (ha : ∀ k, k < 36 → ad2 (6 * (k % 6) + k / 6) = ad k) : elS cl ad2 S (6 * i + (j + 1)) = (if mB S i = true then (if mB S j = true then elS cl ad2 S (6 * i + j) + (if ad (6 * i + j) < cl (6 * i + j) then ad (6 * i + j) else cl (6 * i + j)) else elS cl ad2 S (6 * i + j)) else elS cl ad2 S (6 * i + j)) := by
  rw [show 6 * i + (j + 1) = (6 * i + j) + 1 by omega, elS, ha _ (by omega), show (6 * i + j) / 6 = i by omega, show (6 * i + j) % 6 = j by omega, min_c]
  by_cases h1 : mB S i = true
  · have g1 : S / 2 ^ i % 2 = 1 := by rw [mB, decide_eq_true_eq] at h1; exact h1
    rw [if_pos h1, if_pos g1]
    by_cases h2 : mB S j = true
    · have g2 : S / 2 ^ j % 2 = 1 := by rw [mB, decide_eq_true_eq] at h2; exact h2
      rw [if_pos h2, if_pos g2]
    · have g2 : ¬ S / 2 ^ j % 2 = 1 := by rw [mB, decide_eq_true_eq] at h2; exact h2
      rw [if_neg h2, if_neg g2, Int32.add_zero]
  · have g1 : ¬ S / 2 ^ i % 2 = 1 := by rw [mB, decide_eq_true_eq] at h1; exact h1
    rw [if_neg h1, if_neg g1, Int32.add_zero]
theorem agI_elS (cl ad ad2 : Nat → Int32) (S i : Nat) (hi : i < 6) (ha : ∀ k, k < 36 → ad2 (6 * (k % 6) + k / 6) = ad k) : ∀ j, j ≤ 6 → agI cl ad S i (elS cl ad2 S (6 * i)) j = elS cl ad2 S (6 * i + j)
  | 0, _ => rfl
  | j + 1, h => by
    rw [agI, agI_elS cl ad ad2 S i hi ha j (by omega), elS_at cl ad ad2 S i j hi (by omega) ha]
theorem agO_elS (cl ad ad2 : Nat → Int32) (S : Nat) (ha : ∀ k, k < 36 → ad2 (6 * (k % 6) + k / 6) = ad k) : ∀ i, i ≤ 6 → agO cl ad S i = elS cl ad2 S (6 * i)
  | 0, _ => rfl
  | i + 1, h => by
    rw [agO, agO_elS cl ad ad2 S ha i (by omega), agI_elS cl ad ad2 S i (by omega) ha 6 (Nat.le_refl 6)]
    rfl
