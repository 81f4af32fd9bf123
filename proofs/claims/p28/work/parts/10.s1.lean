def mB (M c : Nat) : Bool := decide (M / 2 ^ c % 2 = 1)
def fdI (x y : Int32) : Int32 := if 0 ≤ (x ^^^ y) then x / y else if x / y * y = x then x / y else x / y - 1
def fdL (x y : Int64) : Int64 := if 0 ≤ (x ^^^ y) then x / y else if x / y * y = x then x / y else x / y - 1
theorem s_lc : ∀ n, n < 32 → ((nI n &&& 31).toBitVec.smod 32).toNat = n := by decide
theorem sh_and (M c : Nat) (hM : M < 2 ^ 31) (hc : c < 32) : nI M >>> (nI c &&& 31) = nI (M / 2 ^ c) := pk_shrN hM _ c (s_lc c hc)
theorem an_1 (M : Nat) (hM : M < 2 ^ 31) : nI M &&& 1 = nI (M % 2) := pk_andN (Nat.lt_trans hM (by decide)) 1 rfl
theorem dv_lt {M c : Nat} (hM : M < 2 ^ 31) : M / 2 ^ c < 2 ^ 31 := Nat.lt_of_le_of_lt (Nat.div_le_self _ _) hM
def scl (x : Int32) (b w : Int64) : Int32 := if w ≤ 0 then 0 else (fdL (x.toInt64 * b) w).toInt32
theorem ne_of_nle {w : Int64} (h : ¬ w ≤ 0) : ¬ w = 0 := fun e => h (by rw [e]; decide)
def tr (x y : Int32) : Int32 := fdI (x * y) 100
