theorem bmodI {z : Int} (h1 : -2147483648 ≤ z) (h2 : z < 2147483648) : z.bmod (2 ^ 32) = z := by
  rw [Int.bmod_eq_of_le (by omega) (by omega)]
theorem i32_0 : (0 : Int32).toInt = 0 := by decide
theorem i32_1 : (1 : Int32).toInt = 1 := by decide
theorem i32_100 : (100 : Int32).toInt = 100 := by decide
theorem i64_1 : (1 : Int64).toInt = 1 := by decide
theorem i64_100 : (100 : Int64).toInt = 100 := by decide
theorem q32 (x y : Int32) (hy : 0 < y.toInt) : (x / y).toInt = x.toInt.tdiv y.toInt ∧ (x / y * y).toInt = x.toInt.tdiv y.toInt * y.toInt := by
  have b1 := Int32.le_toInt x
  have b2 := Int32.toInt_lt x
  have e1 : (x / y).toInt = x.toInt.tdiv y.toInt := by
    rw [Int32.toInt_div]
    rcases tdivB (X := x.toInt) hy with h | h <;> exact bmodI (by omega) (by omega)
  refine ⟨e1, ?_⟩
  rw [Int32.toInt_mul, e1]
  rcases tdivB (X := x.toInt) hy with h | h <;> exact bmodI (by omega) (by omega)
theorem xs32 (x y : Int32) (hy : 0 < y.toInt) : (0 ≤ x ^^^ y) ↔ 0 ≤ x.toInt := by
  rw [Int32.le_iff_toInt_le, i32_0]
  have e : ∀ z : Int32, z.toBitVec.msb = decide (z.toInt < 0) := fun z => BitVec.msb_eq_toInt
  have h1 : (x ^^^ y).toBitVec.msb = x.toBitVec.msb := by
    have h2 : y.toBitVec.msb = false := by rw [e]; exact decide_eq_false (by omega)
    rw [Int32.toBitVec_xor, BitVec.msb_xor, h2]
    exact Bool.xor_false _
  rw [e, e] at h1
  have h3 := decide_eq_decide.mp h1
  omega
theorem fdI_val (x y : Int32) (hy : 0 < y.toInt) : (fdI x y).toInt = x.toInt / y.toInt := by
  obtain ⟨e1, e2⟩ := q32 x y hy
  have b1 := Int32.le_toInt x
  have b2 := Int32.toInt_lt x
  unfold fdI
  by_cases h0 : 0 ≤ x.toInt
  · rw [if_pos ((xs32 x y hy).mpr h0), e1]
    exact Int.tdiv_eq_ediv_of_nonneg h0
  · rw [if_neg (fun h => h0 ((xs32 x y hy).mp h))]
    by_cases hx : x / y * y = x
    · rw [if_pos hx, e1]
      have e9 : x.toInt.tdiv y.toInt * y.toInt = x.toInt := by rw [← e2, hx]
      symm
      exact edivU hy (by omega) (by omega)
    · rw [if_neg hx]
      have hne : x.toInt.tdiv y.toInt * y.toInt ≠ x.toInt := fun h9 => hx (Int32.toInt_inj.mp (by rw [e2]; exact h9))
      have e4 : (x / y - 1).toInt = x.toInt.tdiv y.toInt - 1 := by
        rw [Int32.toInt_sub, e1, i32_1]
        rcases tdivB (X := x.toInt) hy with h | h
        · omega
        · refine bmodI ?_ (by omega)
          by_cases hq : x.toInt.tdiv y.toInt = -2147483648
          · exfalso
            have h8 : x.toInt.tdiv y.toInt * y.toInt = -2147483648 * y.toInt := by rw [hq]
            omega
          · omega
      rw [e4]
      symm
      rcases tdivB (X := x.toInt) hy with h | h
      · omega
      · refine edivU hy ?_ ?_ <;> rw [Int.sub_mul, Int.one_mul] <;> omega
theorem to64 (x : Int32) : x.toInt64.toInt = x.toInt := Int32.toInt_toInt64 x
theorem to32 {x : Int64} (h1 : -2147483648 ≤ x.toInt) (h2 : x.toInt < 2147483648) : x.toInt32.toInt = x.toInt := by
  rw [Int64.toInt_toInt32]
  exact bmodI h1 h2
theorem tr_trM {x y : Int32} (h1 : -2147483648 ≤ x.toInt * y.toInt) (h2 : x.toInt * y.toInt < 2147483648) : tr x y = trM x y ∧ (tr x y).toInt = x.toInt * y.toInt / 100 := by
  have e1 : (x * y).toInt = x.toInt * y.toInt := by rw [Int32.toInt_mul]; exact bmodI h1 h2
  have e2 : (tr x y).toInt = x.toInt * y.toInt / 100 := by
    unfold tr
    rw [fdI_val _ _ (by decide), e1, i32_100]
  refine ⟨?_, e2⟩
  have e3 : (x.toInt64 * y.toInt64).toInt = x.toInt * y.toInt := by
    rw [Int64.toInt_mul, to64, to64]
    exact bmodL (by omega) (by omega)
  have e4 : (flM (x.toInt64 * y.toInt64) 100).toInt = x.toInt * y.toInt / 100 := by
    rw [flM_val _ _ (by decide), e3, i64_100]
  apply Int32.toInt_inj.mp
  rw [e2]
  unfold trM
  rw [to32 (by rw [e4]; omega) (by rw [e4]; omega), e4]
theorem fd_fl {x y : Int32} (h1 : -2147483648 ≤ x.toInt * y.toInt) (h2 : x.toInt * y.toInt < 2147483648) : fdI (x * y) 100 = (flM (x.toInt64 * y.toInt64) 100).toInt32 := (tr_trM h1 h2).1
