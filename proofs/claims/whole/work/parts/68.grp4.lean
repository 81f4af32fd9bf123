def cnt (S : Nat) : Nat := (S.testBit 0).toNat + (S.testBit 1).toNat + (S.testBit 2).toNat + (S.testBit 3).toNat + (S.testBit 4).toNat + (S.testBit 5).toNat
theorem cnt_lt {S T : Nat} (h : inS S T) {i : Nat} (hi : i < 6) (h1 : T.testBit i = true) (h2 : ¬ S.testBit i = true) : cnt S < cnt T := by
  have m : ∀ k, k < 6 → (S.testBit k).toNat ≤ (T.testBit k).toNat := fun k hk => by
    cases hs : S.testBit k
    · exact Nat.zero_le _
    · rw [h k hk hs]; exact Nat.le_refl _
  have z : (S.testBit i).toNat < (T.testBit i).toNat := by
    rw [h1, Bool.eq_false_iff.mpr h2]; decide
  have m0 := m 0 (by omega)
  have m1 := m 1 (by omega)
  have m2 := m 2 (by omega)
  have m3 := m 3 (by omega)
  have m4 := m 4 (by omega)
  have m5 := m 5 (by omega)
  unfold cnt
  rcases (show i = 0 ∨ i = 1 ∨ i = 2 ∨ i = 3 ∨ i = 4 ∨ i = 5 by omega) with rfl | rfl | rfl | rfl | rfl | rfl <;> omega
theorem cnt_6 {S : Nat} (h : 6 ≤ cnt S) : ∀ i, i < 6 → S.testBit i = true := by
  intro i hi
  have b : ∀ k, (S.testBit k).toNat ≤ 1 := fun k => Bool.toNat_le _
  have b0 := b 0
  have b1 := b 1
  have b2 := b 2
  have b3 := b 3
  have b4 := b 4
  have b5 := b 5
  unfold cnt at h
  cases hb : S.testBit i
  · exfalso
    have hz : (S.testBit i).toNat = 0 := by rw [hb]; rfl
    rcases (show i = 0 ∨ i = 1 ∨ i = 2 ∨ i = 3 ∨ i = 4 ∨ i = 5 by omega) with rfl | rfl | rfl | rfl | rfl | rfl <;> omega
  · rfl
theorem mem_dich {p : Nat → Int32} (hp : pctB p) : ∀ j, cls p (mem p j) ∨ j + 1 ≤ cnt (mem p j)
  | 0 => Or.inr (by rw [mem]; decide)
  | j + 1 => by
    have hs : inS (mem p j) (mem p (j + 1)) := fun k hk hb => by rw [mem]; exact (wc_tb p (mem p j) k 5).mpr (Or.inl hb)
    by_cases hc : cls p (mem p j)
    · left
      intro c h0 h6 ho
      have hi : inS (mem p (j + 1)) (mem p j) := by rw [mem]; exact wc_in hp hc (fun k _ h => h)
      exact hs c h6 (hc c h0 h6 (ovr_mono hp hi h6 ho))
    · right
      have ih := (mem_dich hp j).resolve_left hc
      have ⟨c, hx⟩ : ∃ c, ¬ (0 < c → c < 6 → ovr p (mem p j) c → (mem p j).testBit c = true) := Classical.not_forall.mp hc
      have h0 : 0 < c := Classical.byContradiction fun h => hx (fun h1 => absurd h1 h)
      have h6 : c < 6 := Classical.byContradiction fun h => hx (fun _ h1 => absurd h1 h)
      have ho : ovr p (mem p j) c := Classical.byContradiction fun h => hx (fun _ _ h1 => absurd h1 h)
      have hb : ¬ (mem p j).testBit c = true := fun h => hx (fun _ _ _ => h)
      have hn : (mem p (j + 1)).testBit c = true := by rw [mem]; exact (wc_tb p (mem p j) c 5).mpr (Or.inr ⟨h0, by omega, ho⟩)
      have := cnt_lt hs h6 hn hb
      omega
theorem mem_cls {p : Nat → Int32} (hp : pctB p) : cls p (mem p 5) := by
  rcases mem_dich hp 5 with h | h
  · exact h
  · exact fun c _ h6 _ => cnt_6 (by omega) c h6
