theorem scl_flM {x : Int32} {b w : Int64} (hw : 0 < w.toInt) : scl x b w = (flM (x.toInt64 * b) w).toInt32 := by
  unfold scl
  rw [if_neg (fun h => by rw [Int64.le_iff_toInt_le, i64_0] at h; omega), fdL_flM _ _ hw]
theorem mAm_miV {as de co : Nat → Int32} {A B : Nat → Int64} {S c : Nat} (hw : 0 < (B c).toInt) (h1 : tr (as c) (co c) = trM (as c) (co c)) (h2 : tr (de c) (co c) = trM (de c) (co c)) : mAm as de co A B S c = miV as de co A B S c := by
  unfold mAm miV ntM
  by_cases h : mB S c = true
  · have g : S / 2 ^ c % 2 = 1 := by rw [mB, decide_eq_true_eq] at h; exact h
    rw [if_pos h, if_neg (by omega), scl_flM hw, h1, h2]
  · have g : ¬ S / 2 ^ c % 2 = 1 := by rw [mB, decide_eq_true_eq] at h; exact h
    rw [if_neg h, if_pos (by omega)]
theorem crS_reS {re av : Nat → Int32} {A B : Nat → Int64} {S : Nat} : ∀ n, (∀ k, k < n → 0 < (B k).toInt ∧ tr (re k) (av k) = trM (re k) (av k)) → crS re av A B S n = reS re av A B S n
  | 0, _ => rfl
  | n + 1, h => by
    rw [crS, reS, crS_reS n (fun k hk => h k (Nat.lt_succ_of_lt hk))]
    obtain ⟨h1, h2⟩ := h n (Nat.lt_succ_self n)
    by_cases hb : mB S n = true
    · have g : S / 2 ^ n % 2 = 1 := by rw [mB, decide_eq_true_eq] at hb; exact hb
      rw [if_pos hb, if_pos g, scl_flM h1, h2]
    · have g : ¬ S / 2 ^ n % 2 = 1 := by rw [mB, decide_eq_true_eq] at hb; exact hb
      rw [if_neg hb, if_neg g, Int32.add_zero]
theorem cmS_emS {as de co : Nat → Int32} {A B : Nat → Int64} {S : Nat} (s : Int32) : ∀ n, (∀ k, k < n → mAm as de co A B S k = miV as de co A B S k) → s - cmS as de co A B S n = emS as de co A B S s n
  | 0, _ => by
    rw [cmS, emS]
    exact Int32.sub_zero s
  | n + 1, h => by
    rw [cmS, emS, ← cmS_emS s n (fun k hk => h k (Nat.lt_succ_of_lt hk)), h n (Nat.lt_succ_self n)]
    grind
