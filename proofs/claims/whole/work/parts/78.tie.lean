theorem dvk_0 (R : Nat → Nat → Int) : dvk R 0 = 1 := rfl
theorem weI_ne (p : Nat → Int32) (c : Nat) (e : Nat → Int64) (q : Nat) : ∀ m, (∀ j, j < m → q ≠ 6 * c + (j + 1)) → weI p c e m q = e q
  | 0, _ => rfl
  | m + 1, h => by
    rw [weI]
    unfold vp_updL
    rw [if_neg (h m (Nat.lt_succ_self m))]
    exact weI_ne p c e q m (fun j hj => h j (Nat.lt_succ_of_lt hj))
theorem weI_at (p : Nat → Int32) (c : Nat) (e : Nat → Int64) : ∀ m j, j < m → weI p c e m (6 * c + (j + 1)) = if j + 1 = c then 100 else (-(p (6 * (j + 1) + c))).toInt64
  | 0, j, h => absurd h (Nat.not_lt_zero j)
  | m + 1, j, h => by
    rw [weI]
    unfold vp_updL
    by_cases g : j = m
    · subst g
      rw [if_pos rfl]
    · rw [if_neg (by omega)]
      exact weI_at p c e m j (by omega)
theorem weO_at (p : Nat → Int32) (eq : Nat → Int64) : ∀ m i t, i < m → t < 6 → weO p eq m (6 * (i + 1) + t) = if t = 0 then (p (i + 1)).toInt64 else if t = i + 1 then 100 else (-(p (6 * t + (i + 1)))).toInt64
  | 0, i, t, h, _ => absurd h (Nat.not_lt_zero i)
  | m + 1, i, t, h, ht => by
    rw [weO]
    by_cases g : i = m
    · subst g
      by_cases z : t = 0
      · subst z
        rw [if_pos rfl, weI_ne _ _ _ _ _ (fun j hj => by omega)]
        unfold vp_updL
        rw [if_pos rfl]
        congr 2
        omega
      · obtain ⟨j, rfl⟩ : ∃ j, t = j + 1 := ⟨t - 1, by omega⟩
        rw [weI_at p (i + 1) _ 5 j (by omega), if_neg (show ¬ j + 1 = 0 by omega)]
    · rw [weI_ne _ _ _ _ _ (fun j hj => by omega)]
      unfold vp_updL
      rw [if_neg (by omega)]
      exact weO_at p eq m i t (by omega) ht
theorem ev_0 (R : Nat → Nat → Int) (i j : Nat) : ev_ R 0 i j = R i j := by
  rw [ev_hi R (Nat.zero_le j), if_neg (Nat.not_lt_zero i)]
  rfl
theorem st_0 {p : Nat → Int32} (h : pctB p) (eq : Nat → Int64) : st_ (Rp_ p) 0 (weO p eq 5) := by
  intro i t hi ht
  rw [weO_at p eq 5 i t hi ht, ev_0]
  unfold Rp_ cc_
  by_cases z : t = 0
  · rw [if_pos z, if_pos z, if_pos rfl, to64]
  · rw [if_neg z, if_neg z, if_neg (show ¬ t - 1 = 5 by omega)]
    by_cases g : t = i + 1
    · rw [if_pos g, if_pos (show i = t - 1 by omega), i64_100]
    · rw [if_neg g, if_neg (show ¬ i = t - 1 by omega), to64, show t - 1 + 1 = t by omega, neg32 (h _ (by omega)).1]
theorem dm_0 {p : Nat → Int32} (h : pcB p) : dm_ (Rp_ p) 0 := by
  obtain ⟨h1, h2, h3⟩ := h
  have dg : ∀ i, i < 5 → Rp_ p i i = 100 := fun i hi => by
    unfold Rp_
    rw [if_neg (by omega), if_pos rfl]
  have of : ∀ i j, i < 5 → j < 5 → j ≠ i → Rp_ p i j = -(p (6 * (j + 1) + (i + 1))).toInt := fun i j hi hj hn => by
    unfold Rp_
    rw [if_neg (by omega), if_neg (by omega)]
  have r5 : ∀ i, Rp_ p i 5 = (p (i + 1)).toInt := fun i => rfl
  refine ⟨by rw [dvk_0]; decide, by rw [dvk_0]; decide, ?_, ?_, ?_, ?_⟩
  · intro i _ hi
    rw [ev_0, dg i hi, dvk_0]
    decide
  · intro i j hi hj hn
    rw [ev_0, of i j hi hj hn]
    have := (h1 (6 * (j + 1) + (i + 1)) (by omega)).1
    omega
  · intro i hi
    rw [ev_0, r5]
    exact (h1 (i + 1) (by omega)).1
  · intro i hi
    rw [ev_0, ev_0, ev_0, ev_0, ev_0, ev_0, r5]
    have s := h3 (i + 1) (by omega)
    rw [show 6 * 0 + (i + 1) = i + 1 by omega] at s
    have b1 := (h1 (6 * 1 + (i + 1)) (by omega)).1
    have b2 := (h1 (6 * 2 + (i + 1)) (by omega)).1
    have b3 := (h1 (6 * 3 + (i + 1)) (by omega)).1
    have b4 := (h1 (6 * 4 + (i + 1)) (by omega)).1
    have b5 := (h1 (6 * 5 + (i + 1)) (by omega)).1
    have v : ∀ j, j < 5 → -(p (6 * (j + 1) + (i + 1))).toInt ≤ Rp_ p i j ∧ (j = i → 0 ≤ Rp_ p i j - 100 ) := fun j hj => by
      by_cases e : j = i
      · subst e
        rw [dg j hj]
        have := (h1 (6 * (j + 1) + (j + 1)) (by omega)).1
        omega
      · rw [of i j hi hj e]
        omega
    have v0 : -(p (6 * 1 + (i + 1))).toInt ≤ Rp_ p i 0 ∧ (0 = i → 0 ≤ Rp_ p i 0 - 100) := v 0 (by omega)
    have v1 : -(p (6 * 2 + (i + 1))).toInt ≤ Rp_ p i 1 ∧ (1 = i → 0 ≤ Rp_ p i 1 - 100) := v 1 (by omega)
    have v2 : -(p (6 * 3 + (i + 1))).toInt ≤ Rp_ p i 2 ∧ (2 = i → 0 ≤ Rp_ p i 2 - 100) := v 2 (by omega)
    have v3 : -(p (6 * 4 + (i + 1))).toInt ≤ Rp_ p i 3 ∧ (3 = i → 0 ≤ Rp_ p i 3 - 100) := v 3 (by omega)
    have v4 : -(p (6 * 5 + (i + 1))).toInt ≤ Rp_ p i 4 ∧ (4 = i → 0 ≤ Rp_ p i 4 - 100) := v 4 (by omega)
    omega
theorem dsI_0 {p : Nat → Int32} (h : pcB p) (eq : Nat → Int64) : dsI (Rp_ p) (weO p eq 5) 0 := ⟨st_0 h.1 eq, by rw [dvk_0]; exact i64_1, dm_0 h⟩
theorem dW_0 {p : Nat → Int32} (h : pcB p) : (dW p 0).toInt = dvk (Rp_ p) 5 := by rw [dW_val (rb_Rp h (by omega)), dvk_Rp h.1]
theorem dW_i {p : Nat → Int32} (h : pcB p) {i : Nat} (hi : i < 5) : (dW p (i + 1)).toInt = dR_ (Rp_ p) i := by rw [dW_val (rb_Rp h (by omega)), dR_Rp h.1 hi]
theorem okB_p {p : Nat → Int32} (h : pcB p) : okB p := okB_of (fun c hc => rb_Rp h hc)
theorem dW_ne {p : Nat → Int32} (h : pcB p) : ¬ dW p 0 = 0 ↔ dvk (Rp_ p) 5 ≠ 0 := by
  rw [← dW_0 h]
  constructor
  · intro a b
    exact a (Int64.toInt_inj.mp (by rw [b, i64_0]))
  · intro a b
    exact a (by rw [b, i64_0])
theorem piv_dW {p : Nat → Int32} (h : pcB p) (eq : Nat → Int64) : (∀ k, k < 5 → 0 < pvt (weO p eq 5) k) ↔ ¬ dW p 0 = 0 := by rw [dW_ne h]; exact piv_iff (dsI_0 h eq)
theorem fin_dW {p : Nat → Int32} (h : pcB p) (eq : Nat → Int64) (h0 : ¬ dW p 0 = 0) : (ds (weO p eq 5) 5).2 = dW p 0 ∧ 0 < (dW p 0).toInt ∧ ∀ i, i < 5 → (ds (weO p eq 5) 5).1 (6 * (i + 1) + 0) = dW p (i + 1) ∧ 0 ≤ (dW p (i + 1)).toInt := by
  obtain ⟨a, b, c⟩ := fin_v (dsI_0 h eq) ((dW_ne h).mp h0)
  refine ⟨Int64.toInt_inj.mp (by rw [a, dW_0 h]), by rw [dW_0 h]; exact b, fun i hi => ?_⟩
  obtain ⟨d, e⟩ := c i hi
  exact ⟨Int64.toInt_inj.mp (by rw [d, dW_i h hi]), by rw [dW_i h hi]; exact e⟩
theorem cd_gq {p : Nat → Int32} (h : pcB p) (h0 : 0 < (dW p 0).toInt) {c : Nat} (hc : c < 6) (hp : 0 ≤ (dW p c).toInt) : cdF 100 (dW p 0) (dW p c) = lN (gq p c) ∧ 0 < gq p c ∧ gq p c < 2 ^ 63 := by
  have b0 : (dW p 0).toInt.natAbs ≤ 320000000000 := by rw [dW_val (rb_Rp h (by omega))]; exact dvk_b (rb_Rp h (by omega))
  have bc : (dW p c).toInt.natAbs ≤ 320000000000 := by rw [dW_val (rb_Rp h hc)]; exact dvk_b (rb_Rp h hc)
  have e0 : dW p 0 = lN (dW p 0).toInt.natAbs := absN_pos (by rw [Int64.le_iff_toInt_le, i64_0]; omega)
  have ec : dW p c = lN (dW p c).toInt.natAbs := absN_pos (by rw [Int64.le_iff_toInt_le, i64_0]; omega)
  have g := cdF_g 39 100 (dW p 0).toInt.natAbs (dW p c).toInt.natAbs (Nat.lt_of_le_of_lt bc (Nat.le_of_ble_eq_true rfl)) (Nat.lt_of_le_of_lt b0 (Nat.le_of_ble_eq_true rfl)) (Nat.lt_of_le_of_lt bc (Nat.le_of_ble_eq_true rfl)) (by omega)
  rw [← e0, ← ec, Nat.gcd_comm] at g
  have q : 0 < gq p c := Nat.gcd_pos_of_pos_right _ (by omega)
  have q2 : gq p c ≤ (dW p 0).toInt.natAbs := Nat.le_of_dvd (by omega) (Nat.gcd_dvd_right _ _)
  exact ⟨g, q, by omega⟩
theorem ksN_at (eq : Nat → Int64) (dn : Int64) (nu : Nat → Int64) : ∀ k, (∀ c, 0 < c → c ≤ k → ¬ cdF 100 dn (eq (6 * c + 0)) ≤ 0) → ∀ c, c ≤ k → ksN eq dn nu k c = if c = 0 then nu 0 else eq (6 * c + 0) / cdF 100 dn (eq (6 * c + 0))
  | 0, _, c, hc => by
    obtain rfl : c = 0 := by omega
    rfl
  | k + 1, h, c, hc => by
    have ih := ksN_at eq dn nu k (fun c a b => h c a (by omega))
    rw [ksN, if_neg (h (k + 1) (by omega) (Nat.le_refl _))]
    unfold vp_updL
    by_cases e : c = k + 1
    · subst e
      rw [if_pos rfl, if_neg (by omega)]
    · rw [if_neg e]
      exact ih c (by omega)
theorem ksD_at (eq : Nat → Int64) (dn : Int64) (de : Nat → Int64) : ∀ k, (∀ c, 0 < c → c ≤ k → ¬ cdF 100 dn (eq (6 * c + 0)) ≤ 0) → ∀ c, c ≤ k → ksD eq dn de k c = if c = 0 then de 0 else dn / cdF 100 dn (eq (6 * c + 0))
  | 0, _, c, hc => by
    obtain rfl : c = 0 := by omega
    rfl
  | k + 1, h, c, hc => by
    have ih := ksD_at eq dn de k (fun c a b => h c a (by omega))
    rw [ksD, if_neg (h (k + 1) (by omega) (Nat.le_refl _))]
    unfold vp_updL
    by_cases e : c = k + 1
    · subst e
      rw [if_pos rfl, if_neg (by omega)]
    · rw [if_neg e]
      exact ih c (by omega)
/-- the shares that the class keeps are those that the reference lays -/
theorem sh_eq {p : Nat → Int32} (h : pcB p) (eq nu de : Nat → Int64) (h0 : ¬ dW p 0 = 0) (hn : nu 0 = 1) (hd : de 0 = 1) : ∀ c, c < 6 → ksN (ds (weO p eq 5) 5).1 (ds (weO p eq 5) 5).2 nu 5 c = aF p c ∧ ksD (ds (weO p eq 5) 5).1 (ds (weO p eq 5) 5).2 de 5 c = bF p c := by
  obtain ⟨a, b, f⟩ := fin_dW h eq h0
  rw [a]
  have v : ∀ c, 0 < c → c ≤ 5 → (ds (weO p eq 5) 5).1 (6 * c + 0) = dW p c ∧ cdF 100 (dW p 0) (dW p c) = byV p c ∧ ¬ byV p c ≤ 0 := fun c c0 c5 => by
    obtain ⟨i, rfl⟩ : ∃ i, c = i + 1 := ⟨c - 1, by omega⟩
    obtain ⟨x, y⟩ := f i (by omega)
    obtain ⟨g1, g2, g3⟩ := cd_gq h b (show i + 1 < 6 by omega) y
    have e : byV p (i + 1) = lN (gq p (i + 1)) := by
      unfold byV
      rw [if_pos (by rw [Int64.le_iff_toInt_le, i64_0]; omega)]
    refine ⟨x, by rw [e]; exact g1, ?_⟩
    rw [e]
    intro z
    rw [Int64.le_iff_toInt_le, i64_0, pk_lT g3] at z
    omega
  have k : ∀ c, 0 < c → c ≤ 5 → ¬ cdF 100 (dW p 0) ((ds (weO p eq 5) 5).1 (6 * c + 0)) ≤ 0 := fun c c0 c5 => by
    obtain ⟨x, y, z⟩ := v c c0 c5
    rw [x, y]
    exact z
  intro c hc
  rw [ksN_at _ _ nu 5 k c (by omega), ksD_at _ _ de 5 k c (by omega)]
  unfold aF bF
  by_cases z : c = 0
  · rw [if_pos z, if_pos z, if_pos z, if_pos z]
    exact ⟨hn, hd⟩
  · obtain ⟨x, y, w⟩ := v c (by omega) (by omega)
    rw [if_neg z, if_neg z, if_neg z, if_neg z, x, y]
    exact ⟨rfl, rfl⟩
theorem bF_pos {p : Nat → Int32} (h : pcB p) (h0 : ¬ dW p 0 = 0) {c : Nat} (hc : c < 6) : 0 < (bF p c).toInt := by
  unfold bF
  by_cases z : c = 0
  · rw [if_pos z]; decide
  · rw [if_neg z]
    obtain ⟨a, b⟩ := dW_by (okB_p h) h0 hc
    have hb := okB_p h 0 (by decide)
    have hd2 : (dW p 0).toInt.natAbs / gq p c ≤ (dW p 0).toInt.natAbs := Nat.div_le_self _ _
    rw [a, pk_lT (by omega)]
    omega
