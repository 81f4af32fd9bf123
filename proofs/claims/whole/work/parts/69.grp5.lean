theorem gP_le (p : Nat → Int32) (s k : Nat) : ∀ d, gP p s k ≤ gP p s (k + d)
  | 0 => Nat.le_refl _
  | d + 1 => Nat.le_trans (gP_le p s k d) (by show gP p s (k + d) ≤ gP p s (k + d + 1); rw [gP]; exact Nat.left_le_or)
theorem fix_cls {p : Nat → Int32} {s : Nat} (h : gP p s 5 = s) : cls p s := by
  have e : ∀ k, k ≤ 5 → gP p s k = s := fun k hk => by
    have h1 := gP_ge p s k
    have h2 := gP_le p s k (5 - k)
    rw [show k + (5 - k) = 5 by omega, h] at h2
    omega
  intro c h0 h6 ho
  obtain ⟨k, rfl⟩ : ∃ k, c = k + 1 := ⟨c - 1, by omega⟩
  have hb := (gP_tb p s k (k + 1)).mpr (Or.inr ⟨rfl, by rw [e k (by omega)]; exact ho⟩)
  rw [e (k + 1) (by omega)] at hb
  exact hb
theorem gF_cls {p : Nat → Int32} : ∀ n o s, s < 64 → 66 ≤ n + s → (o = s → cls p s) → cls p (gF p n o s)
  | 0, _, s, h1, h2, _ => by omega
  | n + 1, o, s, h1, h2, h3 => by
    rw [gF]
    by_cases e : o = s
    · rw [if_pos e]; exact h3 e
    · rw [if_neg e]
      by_cases f : gP p s 5 = s
      · rw [f]
        obtain ⟨m, rfl⟩ : ∃ m, n = m + 1 := ⟨n - 1, by omega⟩
        rw [gF, if_pos rfl]
        exact fix_cls f
      · have g := gP_ge p s 5
        exact gF_cls n s (gP p s 5) (gP_lt p h1 5 (Nat.le_refl 5)) (by omega) (fun h => absurd h.symm f)
theorem mem_0 (p : Nat → Int32) : ∀ j, (mem p j).testBit 0 = true
  | 0 => by rw [mem]; decide
  | j + 1 => by rw [mem]; exact (wc_tb p (mem p j) 0 5).mpr (Or.inl (mem_0 p j))
theorem gP_0 (p : Nat → Int32) {s : Nat} (h : s.testBit 0 = true) : ∀ k, (gP p s k).testBit 0 = true
  | 0 => h
  | k + 1 => (gP_tb p s k 0).mpr (Or.inl (gP_0 p h k))
theorem gF_0 (p : Nat → Int32) : ∀ n o s, s.testBit 0 = true → (gF p n o s).testBit 0 = true
  | 0, _, _, h => h
  | n + 1, o, s, h => by
    rw [gF]
    split
    · exact h
    · exact gF_0 p n s _ (gP_0 p h 5)
theorem mem_grp {p : Nat → Int32} (hp : pctB p) : mem p 5 = grp p := by
  have c2 : cls p (grp p) := gF_cls 66 0 1 (by decide) (by decide) (fun h => absurd h (by decide))
  have z2 : (grp p).testBit 0 = true := gF_0 p 66 0 1 (by decide)
  have i1 : inS (mem p 5) (grp p) := mem_in hp c2 z2 5
  have i2 : inS (grp p) (mem p 5) := gF_in hp (mem_cls hp) 66 0 1 (mem_in hp (mem_cls hp) (mem_0 p 5) 0)
  apply Nat.eq_of_testBit_eq
  intro i
  by_cases hi : i < 6
  · exact Bool.eq_iff_iff.mpr ⟨i1 i hi, i2 i hi⟩
  · have hlt : ∀ x : Nat, x < 64 → x.testBit i = false := fun x hx => Nat.testBit_lt_two_pow (Nat.lt_of_lt_of_le hx (show 2 ^ 6 ≤ 2 ^ i from Nat.pow_le_pow_right (Nat.le_succ 1) (by omega)))
    rw [hlt _ ((by have := mem_lt p 5; omega)), hlt _ (grp_lt p)]
