theorem or_n (a b : Nat) : nI a ||| nI b = nI (a ||| b) := by
  apply Int32.toBitVec_inj.mp
  rw [Int32.toBitVec_or]
  show BitVec.ofNat 32 a ||| BitVec.ofNat 32 b = BitVec.ofNat 32 (a ||| b)
  apply BitVec.eq_of_getLsbD_eq
  intro i hi
  simp [Nat.testBit_or, hi]
theorem sh_1 (c : Nat) (hc : c < 31) : (1 : Int32) <<< (nI c &&& 31) = nI (2 ^ c) := by
  have h := pk_shlN (n := 1) (nI c &&& 31) c (s_lc c (Nat.lt_trans hc (by decide))) (by
    rw [Nat.one_mul]
    exact Nat.lt_trans (Nat.pow_lt_pow_right (by decide) hc) (by decide))
  rw [Nat.one_mul] at h
  exact h
def hA (p : Nat → Int32) (M c : Nat) : Nat → Int32 | 0 => 0 | k + 1 => if mB M k = true then hA p M c k + p (6 * k + c) else hA p M c k
def wc (p : Nat → Int32) (M : Nat) : Nat → Nat | 0 => M | k + 1 => if hA p M (k + 1) 6 ≤ 50 then wc p M k else wc p M k ||| 2 ^ (k + 1)
def mem (p : Nat → Int32) : Nat → Nat | 0 => 1 | j + 1 => wc p (mem p j) 5
theorem wc_lt (p : Nat → Int32) {M : Nat} (hM : M < 64) : ∀ k, k ≤ 5 → wc p M k < 64
  | 0, _ => hM
  | k + 1, h => by
    have ih := wc_lt p hM k (by omega)
    rw [wc]
    split
    · exact ih
    · exact Nat.or_lt_two_pow (n := 6) ih (Nat.pow_lt_pow_right (by decide) (by omega))
theorem mem_lt (p : Nat → Int32) : ∀ j, mem p j < 64
  | 0 => (by decide : 1 < 64)
  | j + 1 => wc_lt p (mem_lt p j) 5 (Nat.le_refl 5)
theorem lt31 {M : Nat} (h : M < 64) : M < 2 ^ 31 := Nat.lt_trans h (by decide)
def agI (cl ad : Nat → Int32) (M i : Nat) (s : Int32) : Nat → Int32
  | 0 => s
  | j + 1 => if mB M i = true then (if mB M j = true then agI cl ad M i s j + (if ad (6 * i + j) < cl (6 * i + j) then ad (6 * i + j) else cl (6 * i + j)) else agI cl ad M i s j) else agI cl ad M i s j
def agO (cl ad : Nat → Int32) (M : Nat) : Nat → Int32 | 0 => 0 | i + 1 => agI cl ad M i (agO cl ad M i) 6
def cP (oP : Nat → Int32) : Nat → Nat → Int32 | 0 => oP | k + 1 => upd (cP oP k) k 0
def cE (oE oP : Nat → Int32) : Nat → Nat → Int32 | 0 => oE | k + 1 => upd (cE oE oP k) k (cE oE oP k k + cP oP k k)
