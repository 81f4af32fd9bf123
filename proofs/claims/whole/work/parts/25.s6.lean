def gS (he : Nat → Int32) (S c : Nat) : Nat → Int32 | 0 => 0 | k + 1 => gS he S c k + nI (S / 2 ^ k % 2) * he (6 * k + c)
def gP (he : Nat → Int32) (S : Nat) : Nat → Nat | 0 => S | k + 1 => gP he S k ||| (if gS he (gP he S k) (k + 1) 6 ≤ 50 then 0 else 2 ^ (k + 1))
def gF (he : Nat → Int32) : Nat → Nat → Nat → Nat | 0, _, s => s | n + 1, o, s => if o = s then s else gF he n s (gP he s 5)
def grp (he : Nat → Int32) : Nat := gF he 66 0 1
theorem gP_lt (he : Nat → Int32) {S : Nat} (hS : S < 64) : ∀ k, k ≤ 5 → gP he S k < 64
  | 0, _ => hS
  | k + 1, h => by
    have ih := gP_lt he hS k (by omega)
    rw [gP]
    refine Nat.or_lt_two_pow (n := 6) ih ?_
    split
    · decide
    · exact Nat.pow_lt_pow_right (by decide) (by omega)
theorem gP_ge (he : Nat → Int32) (S : Nat) : ∀ k, S ≤ gP he S k
  | 0 => Nat.le_refl S
  | k + 1 => Nat.le_trans (gP_ge he S k) Nat.left_le_or
theorem gF_lt (he : Nat → Int32) : ∀ n o s, s < 64 → gF he n o s < 64
  | 0, _, _, h => h
  | n + 1, o, s, h => by
    rw [gF]
    split
    · exact h
    · exact gF_lt he n s _ (gP_lt he h 5 (Nat.le_refl 5))
theorem grp_lt (he : Nat → Int32) : grp he < 64 := gF_lt he 66 0 1 (by decide)
theorem grp_31 (he : Nat → Int32) : grp he < 2 ^ 31 := Nat.lt_trans (grp_lt he) (by decide)
theorem gF_s (he : Nat → Int32) (n o s : Nat) : gF he (n + 1) o s = if o = s then s else gF he n s (gP he s 5) := rfl
def elS (cm ad : Nat → Int32) (S : Nat) : Nat → Int32
  | 0 => 0
  | k + 1 => elS cm ad S k + (if S / 2 ^ (k / 6) % 2 = 1 then (if S / 2 ^ (k % 6) % 2 = 1 then (if ad (6 * (k % 6) + k / 6) ≤ cm k then ad (6 * (k % 6) + k / 6) else cm k) else 0) else 0)
def asS (x r : Nat → Int32) (S : Nat) : Nat → Int32 | 0 => 0 | k + 1 => asS x r S k + nI (S / 2 ^ k % 2) * trM (x k) (r k)
def ntM (as de co : Nat → Int32) (c : Nat) : Int32 := trM (as c) (co c) - trM (de c) (co c)
def aF (he : Nat → Int32) (c : Nat) : Int64 := if c = 0 then 1 else dW he c / byV he c
def bF (he : Nat → Int32) (c : Nat) : Int64 := if c = 0 then 1 else dW he 0 / byV he c
theorem abK_at (he : Nat → Int32) (ab : Nat → Int64) : ∀ t c, c ≤ t → abK he ab t c = aF he c
  | 0, c, h => by
    obtain rfl : c = 0 := by omega
    rfl
  | t + 1, c, h => by
    rw [abK, vp_updL]
    split
    · next e => subst e; rw [aF, if_neg (by omega)]
    · exact abK_at he ab t c (by omega)
theorem beK_at (he : Nat → Int32) (be : Nat → Int64) : ∀ t c, c ≤ t → beK he be t c = bF he c
  | 0, c, h => by
    obtain rfl : c = 0 := by omega
    rfl
  | t + 1, c, h => by
    rw [beK, vp_updL]
    split
    · next e => subst e; rw [bF, if_neg (by omega)]
    · exact beK_at he be t c (by omega)
def miV (as de co : Nat → Int32) (A B : Nat → Int64) (S c : Nat) : Int32 := if S / 2 ^ c % 2 = 0 then 0 else (flM ((ntM as de co c).toInt64 * (B c - A c)) (B c)).toInt32
def reS (re av : Nat → Int32) (A B : Nat → Int64) (S : Nat) : Nat → Int32 | 0 => 0 | k + 1 => reS re av A B S k + (if S / 2 ^ k % 2 = 1 then (flM ((trM (re k) (av k)).toInt64 * A k) (B k)).toInt32 else 0)
def emS (as de co : Nat → Int32) (A B : Nat → Int64) (S : Nat) (s : Int32) : Nat → Int32 | 0 => s | k + 1 => emS as de co A B S s k - miV as de co A B S k
