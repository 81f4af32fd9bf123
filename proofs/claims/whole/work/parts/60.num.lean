theorem edivU {x y t : Int} (hy : 0 < y) (h1 : t * y ≤ x) (h2 : x < t * y + y) : x / y = t := by
  have a1 : t ≤ x / y := Int.le_ediv_of_mul_le hy h1
  have a2 : x / y < t + 1 := Int.ediv_lt_of_lt_mul hy (by rw [Int.add_mul, Int.one_mul]; exact h2)
  omega
theorem tdivB {X Y : Int} (hY : 0 < Y) : (0 ≤ X ∧ 0 ≤ X.tdiv Y * Y ∧ X.tdiv Y * Y ≤ X ∧ X < X.tdiv Y * Y + Y ∧ 0 ≤ X.tdiv Y ∧ X.tdiv Y ≤ X) ∨ (X < 0 ∧ X ≤ X.tdiv Y * Y ∧ X.tdiv Y * Y ≤ 0 ∧ X.tdiv Y * Y - Y < X ∧ X.tdiv Y ≤ 0 ∧ X ≤ X.tdiv Y) := by
  by_cases h : 0 ≤ X
  · left
    rw [Int.tdiv_eq_ediv_of_nonneg h]
    have e := Int.mul_ediv_add_emod X Y
    have m1 := Int.emod_nonneg X (Int.ne_of_gt hY)
    have m2 := Int.emod_lt_of_pos X hY
    have q0 : 0 ≤ X / Y := Int.ediv_nonneg h (Int.le_of_lt hY)
    have q1 : X / Y ≤ X := Int.ediv_le_self _ h
    rw [Int.mul_comm] at e
    have p0 := Int.mul_nonneg q0 (Int.le_of_lt hY)
    omega
  · right
    obtain ⟨Z, rfl⟩ : ∃ Z, X = -Z := ⟨-X, by omega⟩
    have hZ : 0 ≤ Z := by omega
    rw [Int.neg_tdiv, Int.tdiv_eq_ediv_of_nonneg hZ, Int.neg_mul]
    have e := Int.mul_ediv_add_emod Z Y
    have m1 := Int.emod_nonneg Z (Int.ne_of_gt hY)
    have m2 := Int.emod_lt_of_pos Z hY
    have q0 : 0 ≤ Z / Y := Int.ediv_nonneg hZ (Int.le_of_lt hY)
    have q1 : Z / Y ≤ Z := Int.ediv_le_self _ hZ
    rw [Int.mul_comm] at e
    have p0 := Int.mul_nonneg q0 (Int.le_of_lt hY)
    omega
theorem q64 (x y : Int64) (hy : 0 < y.toInt) : (x / y).toInt = x.toInt.tdiv y.toInt ∧ (x / y * y).toInt = x.toInt.tdiv y.toInt * y.toInt := by
  have b1 := Int64.le_toInt x
  have b2 := Int64.toInt_lt x
  have e1 : (x / y).toInt = x.toInt.tdiv y.toInt := by
    rw [Int64.toInt_div]
    rcases tdivB (X := x.toInt) hy with h | h <;> exact bmodL (by omega) (by omega)
  refine ⟨e1, ?_⟩
  rw [Int64.toInt_mul, e1]
  rcases tdivB (X := x.toInt) hy with h | h <;> exact bmodL (by omega) (by omega)
theorem xs64 (x y : Int64) (hy : 0 < y.toInt) : (0 ≤ x ^^^ y) ↔ 0 ≤ x.toInt := by
  rw [Int64.le_iff_toInt_le, i64_0]
  have e : ∀ z : Int64, z.toBitVec.msb = decide (z.toInt < 0) := fun z => BitVec.msb_eq_toInt
  have h1 : (x ^^^ y).toBitVec.msb = x.toBitVec.msb := by
    have h2 : y.toBitVec.msb = false := by rw [e]; exact decide_eq_false (by omega)
    rw [Int64.toBitVec_xor, BitVec.msb_xor, h2]
    exact Bool.xor_false _
  rw [e, e] at h1
  have h3 := decide_eq_decide.mp h1
  omega
theorem flM_val (x y : Int64) (hy : 0 < y.toInt) : (flM x y).toInt = x.toInt / y.toInt := by
  obtain ⟨e1, e2⟩ := q64 x y hy
  have b1 := Int64.le_toInt x
  have b2 := Int64.toInt_lt x
  have e3 : (x - x / y * y).toInt = x.toInt - x.toInt.tdiv y.toInt * y.toInt := by
    rw [Int64.toInt_sub, e2]
    rcases tdivB (X := x.toInt) hy with h | h <;> exact bmodL (by omega) (by omega)
  unfold flM
  by_cases hc : 0 ≤ x - x / y * y
  · rw [if_pos hc, e1]
    rw [Int64.le_iff_toInt_le, i64_0, e3] at hc
    symm
    rcases tdivB (X := x.toInt) hy with h | h <;> exact edivU hy (by omega) (by omega)
  · rw [if_neg hc]
    rw [Int64.le_iff_toInt_le, i64_0, e3] at hc
    have e4 : (x / y - 1).toInt = x.toInt.tdiv y.toInt - 1 := by
      have o1 : (1 : Int64).toInt = 1 := by decide
      rw [Int64.toInt_sub, e1, o1]
      rcases tdivB (X := x.toInt) hy with h | h
      · omega
      · refine bmodL ?_ (by omega)
        by_cases hq : x.toInt.tdiv y.toInt = -9223372036854775808
        · exfalso
          have h9 : x.toInt = -9223372036854775808 := by omega
          have h8 : x.toInt.tdiv y.toInt * y.toInt = -9223372036854775808 * y.toInt := by rw [hq]
          omega
        · omega
    rw [e4]
    symm
    rcases tdivB (X := x.toInt) hy with h | h
    · omega
    · refine edivU hy ?_ ?_ <;> rw [Int.sub_mul, Int.one_mul] <;> omega
theorem fdL_flM (x y : Int64) (hy : 0 < y.toInt) : fdL x y = flM x y := by
  obtain ⟨e1, e2⟩ := q64 x y hy
  have b1 := Int64.le_toInt x
  have b2 := Int64.toInt_lt x
  have e3 : (x - x / y * y).toInt = x.toInt - x.toInt.tdiv y.toInt * y.toInt := by
    rw [Int64.toInt_sub, e2]
    rcases tdivB (X := x.toInt) hy with h | h <;> exact bmodL (by omega) (by omega)
  unfold fdL flM
  by_cases h0 : 0 ≤ x.toInt
  · rw [if_pos ((xs64 x y hy).mpr h0)]
    rw [if_pos]
    rw [Int64.le_iff_toInt_le, i64_0, e3]
    rcases tdivB (X := x.toInt) hy with h | h <;> omega
  · rw [if_neg (fun h => h0 ((xs64 x y hy).mp h))]
    by_cases hx : x / y * y = x
    · rw [if_pos hx, if_pos]
      rw [Int64.le_iff_toInt_le, i64_0, e3, ← e2, hx]
      omega
    · rw [if_neg hx, if_neg]
      rw [Int64.le_iff_toInt_le, i64_0, e3]
      intro hc
      apply hx
      apply Int64.toInt_inj.mp
      rw [e2]
      rcases tdivB (X := x.toInt) hy with h | h <;> omega
