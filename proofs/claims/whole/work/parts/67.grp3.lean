def inS (S T : Nat) : Prop := ∀ k, k < 6 → S.testBit k = true → T.testBit k = true
def cls (p : Nat → Int32) (T : Nat) : Prop := ∀ c, 0 < c → c < 6 → ovr p T c → T.testBit c = true
theorem wc_in {p : Nat → Int32} (hp : pctB p) {S T : Nat} (hT : cls p T) (h : inS S T) : inS (wc p S 5) T := by
  intro k hk hb
  rcases (wc_tb p S k 5).mp hb with h1 | ⟨h1, -, h3⟩
  · exact h k hk h1
  · exact hT k h1 hk (ovr_mono hp h hk h3)
theorem gP_in {p : Nat → Int32} (hp : pctB p) {S T : Nat} (hT : cls p T) (h : inS S T) : ∀ k, k ≤ 5 → inS (gP p S k) T
  | 0, _ => h
  | k + 1, hk => by
    intro i hi hb
    have ih := gP_in hp hT h k (by omega)
    rcases (gP_tb p S k i).mp hb with h1 | ⟨h1, h3⟩
    · exact ih i hi h1
    · subst h1
      exact hT (k + 1) (by omega) hi (ovr_mono hp ih hi h3)
theorem mem_in {p : Nat → Int32} (hp : pctB p) {T : Nat} (hT : cls p T) (h0 : T.testBit 0 = true) : ∀ j, inS (mem p j) T
  | 0 => by
    intro k hk hb
    have : k = 0 := by
      by_cases e : k = 0
      · exact e
      · rw [mem, show (1 : Nat) = 2 ^ 0 from rfl, Nat.testBit_two_pow, decide_eq_true_eq] at hb
        omega
    subst this
    exact h0
  | j + 1 => by rw [mem]; exact wc_in hp hT (mem_in hp hT h0 j)
theorem gF_in {p : Nat → Int32} (hp : pctB p) {T : Nat} (hT : cls p T) : ∀ n o s, inS s T → inS (gF p n o s) T
  | 0, _, _, h => h
  | n + 1, o, s, h => by
    rw [gF]
    split
    · exact h
    · exact gF_in hp hT n s _ (gP_in hp hT h 5 (Nat.le_refl 5))
