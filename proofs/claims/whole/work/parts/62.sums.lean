theorem bit_1 {M k : Nat} (h : mB M k = true) : nI (M / 2 ^ k % 2) = 1 := by
  rw [mB, decide_eq_true_eq] at h
  rw [h]; decide
theorem bit_0 {M k : Nat} (h : ¬ mB M k = true) : nI (M / 2 ^ k % 2) = 0 := by
  rw [mB, decide_eq_true_eq] at h
  have h2 : M / 2 ^ k % 2 = 0 := by omega
  rw [h2]; decide
theorem hA_gS (p : Nat → Int32) (M c : Nat) : ∀ n, hA p M c n = gS p M c n
  | 0 => rfl
  | n + 1 => by
    rw [hA, gS, hA_gS p M c n]
    by_cases h : mB M n = true
    · rw [if_pos h, bit_1 h, Int32.one_mul]
    · rw [if_neg h, bit_0 h, Int32.zero_mul, Int32.add_zero]
theorem caS_asS (x r : Nat → Int32) (M : Nat) : ∀ n, (∀ k, k < n → tr (x k) (r k) = trM (x k) (r k)) → caS x r M n = asS x r M n
  | 0, _ => rfl
  | n + 1, h => by
    rw [caS, asS, caS_asS x r M n (fun k hk => h k (Nat.lt_succ_of_lt hk))]
    by_cases hb : mB M n = true
    · rw [if_pos hb, bit_1 hb, Int32.one_mul, h n (Nat.lt_succ_self n)]
    · rw [if_neg hb, bit_0 hb, Int32.zero_mul, Int32.add_zero]
