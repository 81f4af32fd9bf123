theorem upd_at (f : Nat → Int32) (i : Nat) (x : Int32) : upd f i x i = x := by simp [upd]
theorem upd_off (f : Nat → Int32) {i j : Nat} (x : Int32) (h : j ≠ i) : upd f i x j = f j := by simp [upd, h]
theorem miA_at (am : Nat → Int32) : ∀ k c, c < k → miA am k c = if c = 0 then 1000000 else 0
  | 0, c, h => absurd h (Nat.not_lt_zero c)
  | k + 1, c, h => by
    rw [miA]
    by_cases e : c = k
    · subst e; rw [upd_at]
    · rw [upd_off _ _ e, miA_at am k c (by omega)]
theorem plN_at (p am nx : Nat → Int32) : ∀ k c, 0 < c → c ≤ k → plN p am nx k c = sI (fun o => p (6 * o + c) * am o) 6 / 100
  | 0, c, h0, h => by omega
  | k + 1, c, h0, h => by
    rw [plN]
    by_cases e : c = k + 1
    · subst e; rw [upd_at]
    · rw [upd_off _ _ e, plN_at p am nx k c h0 (by omega)]
theorem plA_0 (am nx : Nat → Int32) : ∀ k, plA am nx k 0 = am 0
  | 0 => rfl
  | k + 1 => by rw [plA, upd_off _ _ (by omega), plA_0 am nx k]
theorem plA_at (am nx : Nat → Int32) : ∀ k c, 0 < c → c ≤ k → plA am nx k c = nx c
  | 0, c, h0, h => by omega
  | k + 1, c, h0, h => by
    rw [plA]
    by_cases e : c = k + 1
    · subst e; rw [upd_at]
    · rw [upd_off _ _ e, plA_at am nx k c h0 (by omega)]
theorem sI_congr {f g : Nat → Int32} : ∀ n, (∀ k, k < n → f k = g k) → sI f n = sI g n
  | 0, _ => rfl
  | n + 1, h => by rw [sI, sI, sI_congr n (fun k hk => h k (Nat.lt_succ_of_lt hk)), h n (Nat.lt_succ_self n)]
theorem mr_free (p am nx am2 nx2 : Nat → Int32) : ∀ j c, c < 6 → (mr p am nx j).1 c = (mr p am2 nx2 j).1 c
  | 0, c, h => by
    rw [mr, mr]
    show miA am 6 c = miA am2 6 c
    rw [miA_at _ _ _ h, miA_at _ _ _ h]
  | j + 1, c, h => by
    rw [mr, mr]
    show plA _ _ 5 c = plA _ _ 5 c
    by_cases e : c = 0
    · subst e
      rw [plA_0, plA_0]
      exact mr_free p am nx am2 nx2 j 0 (by decide)
    · rw [plA_at _ _ _ _ (by omega) (by omega), plA_at _ _ _ _ (by omega) (by omega), plN_at _ _ _ _ _ (by omega) (by omega), plN_at _ _ _ _ _ (by omega) (by omega)]
      rw [sI_congr 6 (fun o ho => by rw [mr_free p am nx am2 nx2 j o ho])]
