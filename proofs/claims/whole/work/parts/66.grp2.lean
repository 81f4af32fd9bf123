def pctB (p : Nat → Int32) : Prop := ∀ k, k < 36 → 0 ≤ (p k).toInt ∧ (p k).toInt ≤ 100
theorem gS_v {p : Nat → Int32} (hp : pctB p) (S c : Nat) (hc : c < 6) : ∀ n, n ≤ 6 → (0 ≤ (gS p S c n).toInt ∧ (gS p S c n).toInt ≤ 100 * n) ∧ (∀ n', n' + 1 = n → (gS p S c n).toInt = (gS p S c n').toInt + (if S.testBit n' = true then (p (6 * n' + c)).toInt else 0))
  | 0, _ => ⟨by show 0 ≤ (0 : Int32).toInt ∧ (0 : Int32).toInt ≤ _; rw [i32_0]; omega, fun n' h => by omega⟩
  | n + 1, h => by
    obtain ⟨⟨i1, i2⟩, -⟩ := gS_v hp S c hc n (by omega)
    obtain ⟨b1, b2⟩ := hp (6 * n + c) (by omega)
    have e : (gS p S c (n + 1)).toInt = (gS p S c n).toInt + (if S.testBit n = true then (p (6 * n + c)).toInt else 0) := by
      rw [gS]
      by_cases hb : mB S n = true
      · rw [bit_1 hb, Int32.one_mul, if_pos (by rw [← mB_tb]; exact hb), Int32.toInt_add]
        exact bmodI (by omega) (by omega)
      · rw [bit_0 hb, Int32.zero_mul, Int32.add_zero, if_neg (by rw [← mB_tb]; exact hb)]
        omega
    refine ⟨?_, fun n' hn => by obtain rfl : n' = n := by omega
                                exact e⟩
    rw [e]
    split <;> omega
theorem gS_mono {p : Nat → Int32} (hp : pctB p) {S T : Nat} (h : ∀ k, k < 6 → S.testBit k = true → T.testBit k = true) (c : Nat) (hc : c < 6) : ∀ n, n ≤ 6 → (gS p S c n).toInt ≤ (gS p T c n).toInt
  | 0, _ => Int.le_refl _
  | n + 1, hn => by
    have ih := gS_mono hp h c hc n (by omega)
    have b := hp (6 * n + c) (by omega)
    rw [(gS_v hp S c hc (n + 1) hn).2 n rfl, (gS_v hp T c hc (n + 1) hn).2 n rfl]
    by_cases h1 : S.testBit n = true
    · rw [if_pos h1, if_pos (h n (by omega) h1)]; omega
    · rw [if_neg h1]
      split <;> omega
theorem i32_50 : (50 : Int32).toInt = 50 := by decide
theorem ovr_mono {p : Nat → Int32} (hp : pctB p) {S T : Nat} (h : ∀ k, k < 6 → S.testBit k = true → T.testBit k = true) {c : Nat} (hc : c < 6) (ho : ovr p S c) : ovr p T c := by
  unfold ovr at ho ⊢
  have hm := gS_mono hp h c hc 6 (Nat.le_refl 6)
  rw [Int32.le_iff_toInt_le, i32_50] at ho ⊢
  omega
