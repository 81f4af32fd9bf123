def bbI : Nat → Nat → Int32 | 0 => z32 | k + 1 => upd (upd (upd (bbI k) (7 * k + 4) 100) (7 * k + 5) 100) (7 * k + 6) 100
theorem kb_v : ∀ k, k < 6 → bbI 6 (7 * k) = 0 ∧ bbI 6 (7 * k + 1) = 0 ∧ bbI 6 (7 * k + 2) = 0 ∧ bbI 6 (7 * k + 3) = 0 ∧ bbI 6 (7 * k + 4) = 100 ∧ bbI 6 (7 * k + 5) = 100 ∧ bbI 6 (7 * k + 6) = 100 := by decide +kernel
abbrev LR (a : Nat → Nat) (cI : ClassId) (nw : Nat → Int32) : va_W := [(a 21, eI cI 36 z32), (a 22, eI cI 36 z32), (a 23, eI cI 36 z32), (a 24, eI cI 42 (bbI 6)), (a 25, eI cI 18 z32), (a 26, eI cI 1 z32), (a 27, eI cI 6 nw), (a 28, eI cI 6 z32)]
abbrev KG (a : Nat → Nat) (cI cJ : ClassId) (am nx : Nat → Int32) : va_W := GW a cI cJ z32 (nuI 6) (dnmI 6) z64 am nx z32 z32 z32 z32 (rtI 6) (rtI 6) (rtI 6) z32 z32 z32 z32 0
abbrev KW (a : Nat → Nat) (cI cJ : ClassId) (am nx nw : Nat → Int32) : va_W := KG a cI cJ am nx ++ LR a cI nw
theorem kq_group : nI (mem z32 5) = 1 := by decide +kernel
theorem kq_net : ∀ c, c < 6 → tr (z32 c) (rtI 6 c) - tr (z32 c) (rtI 6 c) = 0 := by decide +kernel
theorem kq_tr : ∀ c, c < 6 → tr (z32 c) (rtI 6 c) = 0 := by decide +kernel
theorem kq_res : ∀ c, c < 6 → tr (z32 c) (rtI 6 c) - tr (z32 c) (rtI 6 c) - tr (z32 c) (rtI 6 c) - tr (z32 c) (rtI 6 c) = 0 := by decide +kernel
theorem kq_min : ∀ c, c < 6 → mAm z32 z32 (rtI 6) (nuI 6) (dnmI 6) (mem z32 5) c = 0 := by decide +kernel
theorem kq_elim : agO z32 z32 (mem z32 5) 6 = 0 := by decide +kernel
theorem kq_ass : caS z32 (rtI 6) (mem z32 5) 6 - agO z32 z32 (mem z32 5) 6 = 0 := by decide +kernel
theorem kq_eqty : caS z32 (rtI 6) (mem z32 5) 6 - agO z32 z32 (mem z32 5) 6 - (caS z32 (rtI 6) (mem z32 5) 6 - agO z32 z32 (mem z32 5) 6) - cmS z32 z32 (rtI 6) (nuI 6) (dnmI 6) (mem z32 5) 6 = 0 := by decide +kernel
theorem kq_result : crS z32 (rtI 6) (nuI 6) (dnmI 6) (mem z32 5) 6 = 0 := by decide +kernel
theorem kq_nu : ∀ c, c < 6 → 0 < c → nuI 6 c = 0 := by decide +kernel
theorem kq_nu0 : nuI 6 0 = 1 := by decide +kernel
theorem kq_de : ∀ c, c < 6 → dnmI 6 c = 1 := by decide +kernel
theorem kq_mr (am nx : Nat → Int32) : (mr z32 am nx 0).1 0 = 1000000 := by simp [mr, miA, upd]
theorem ln_half {m : Nat} (h : m < 2147483648) : lN m / 2 = lN (m / 2) := pk_lDiv (by omega) (by decide) (by decide)
theorem hf_lt {m n : Nat} (h : m < 2 ^ (n + 1)) : m / 2 < 2 ^ n := by rw [Nat.pow_succ] at h; omega
theorem ln_pos {m : Nat} (h : m < 2147483648) (h0 : ¬ lN m ≤ 0) : 0 < m := by
  rcases Nat.eq_zero_or_pos m with h1 | h1
  · subst h1; exact absurd (by decide) h0
  · exact h1
def rnI (nw : Nat → Int32) : Nat → Nat → Int32 | 0 => nw | k + 1 => upd (rnI nw k) k (if k = 0 then 1000000 else 0)
theorem rnI_0 (nw : Nat → Int32) : rnI nw 6 0 = 1000000 := by simp [rnI, upd]
