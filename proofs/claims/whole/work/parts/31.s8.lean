theorem dW_by {he : Nat → Int32} (h : okB he) (h0 : ¬ dW he 0 = 0) {c : Nat} (hc : c < 6) : dW he 0 / byV he c = lN ((dW he 0).toInt.natAbs / gq he c) ∧ 0 < (dW he 0).toInt.natAbs / gq he c := by
  have hW : (dW he 0).toInt ≠ 0 := fun e => h0 (Int64.toInt_inj.mp (by rw [e, i64_0]))
  have hb := h 0 (by decide)
  have hg : 0 < gq he c := Nat.gcd_pos_of_pos_right _ (by omega)
  have hg2 : gq he c ≤ (dW he 0).toInt.natAbs := Nat.le_of_dvd (by omega) (Nat.gcd_dvd_right _ _)
  have hd : 0 < (dW he 0).toInt.natAbs / gq he c := Nat.div_pos hg2 hg
  have hd2 : (dW he 0).toInt.natAbs / gq he c ≤ (dW he 0).toInt.natAbs := Nat.div_le_self _ _
  refine ⟨?_, hd⟩
  unfold byV
  by_cases hs : 0 ≤ dW he 0
  · rw [if_pos hs]
    conv => lhs; rw [absN_pos hs]
    exact pk_lDiv (by omega) hg (by omega)
  · rw [if_neg hs]
    have hs2 : (dW he 0).toInt < 0 := by
      rw [Int64.le_iff_toInt_le, i64_0] at hs; omega
    have e2 : (-(lN (gq he c))).toInt = -(gq he c : Int) := by
      have e : (lN (gq he c)).toInt = gq he c := pk_lT (by omega)
      rw [Int64.toInt_neg, e, bmodL (by omega) (by omega)]
    apply Int64.toInt_inj.mp
    have e3 : (dW he 0).toInt = -((dW he 0).toInt.natAbs : Int) := by omega
    have e4 : (dW he 0).toInt.tdiv (-(gq he c : Int)) = ((dW he 0).toInt.natAbs / gq he c : Nat) := by
      conv => lhs; rw [e3]
      rw [Int.neg_tdiv_neg, Int.tdiv_eq_ediv_of_nonneg (by omega)]
      exact (Int.natCast_ediv _ _).symm
    rw [Int64.toInt_div, e2, e4, pk_lT (by omega), bmodL (by omega) (by omega)]
theorem bF_ne {he : Nat → Int32} (h : okB he) (h0 : ¬ dW he 0 = 0) {c : Nat} (hc : c < 6) : ¬ bF he c = 0 := by
  unfold bF
  split
  · decide
  · obtain ⟨e, hp⟩ := dW_by h h0 hc
    have hb := h 0 (by decide)
    have hd2 : (dW he 0).toInt.natAbs / gq he c ≤ (dW he 0).toInt.natAbs := Nat.div_le_self _ _
    rw [e]
    intro hz
    have h9 := congrArg Int64.toInt hz
    rw [i64_0, pk_lT (by omega)] at h9
    omega
theorem miV_at (as de co : Nat → Int32) (he : Nat → Int32) (ab be : Nat → Int64) (S : Nat) {c : Nat} (hc : c ≤ 5) : miV as de co (abK he ab 5) (beK he be 5) S c = miV as de co (aF he) (bF he) S c := by
  unfold miV
  rw [abK_at _ _ 5 c hc, beK_at _ _ 5 c hc]
theorem be_ne {he : Nat → Int32} (be : Nat → Int64) (h : okB he) (h0 : ¬ dW he 0 = 0) {c : Nat} (hc : c < 6) : ¬ beK he be 5 c = 0 := by
  rw [beK_at _ _ 5 c (by omega)]
  exact bF_ne h h0 hc
