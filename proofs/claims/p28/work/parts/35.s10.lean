def mAm (oA oD cR : Nat → Int32) (nu de : Nat → Int64) (M c : Nat) : Int32 := if mB M c = true then scl (tr (oA c) (cR c) - tr (oD c) (cR c)) (de c - nu c) (de c) else 0
def caS (x r : Nat → Int32) (M : Nat) : Nat → Int32 | 0 => 0 | k + 1 => if mB M k = true then caS x r M k + tr (x k) (r k) else caS x r M k
def cmS (oA oD cR : Nat → Int32) (nu de : Nat → Int64) (M : Nat) : Nat → Int32 | 0 => 0 | k + 1 => cmS oA oD cR nu de M k + mAm oA oD cR nu de M k
def crS (oP aR : Nat → Int32) (nu de : Nat → Int64) (M : Nat) : Nat → Int32 | 0 => 0 | k + 1 => if mB M k = true then crS oP aR nu de M k + scl (tr (oP k) (aR k)) (nu k) (de k) else crS oP aR nu de M k
theorem inB_11 : ∀ j, j < 12 → inB (nI j) 0 11 = true := by decide
theorem rz_of {x : Int32} {z : Nat} (hz : z ≤ 12) (h : inB x 0 11 = true) (h2 : x < nI z) : inB x 0 (nI z - 1) = true := by
  refine inB_of (inB_lo h) ?_
  have h0 := Int32.not_lt.mp (inB_lo h)
  rw [Int32.le_iff_toInt_le] at h0 ⊢
  rw [Int32.lt_iff_toInt_lt, nI_toInt (by omega)] at h2
  have e0 : (0 : Int32).toInt = 0 := by decide
  rw [e0] at h0
  obtain ⟨y, rfl⟩ : ∃ y, z = y + 1 := ⟨z - 1, by omega⟩
  rw [nI_pred, nI_toInt (by omega)]
  omega
