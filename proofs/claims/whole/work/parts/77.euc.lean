theorem cdF_g : ∀ (m n X Y : Nat), Y < 2 ^ m → X < 2 ^ 63 → Y < 2 ^ 63 → 2 * m + 1 ≤ n → cdF n (lN X) (lN Y) = lN (Nat.gcd X Y)
  | 0, n, X, Y, h, hX, hY, hn => by
    obtain rfl : Y = 0 := by simpa using h
    obtain ⟨n', rfl⟩ : ∃ n', n = n' + 1 := ⟨n - 1, by omega⟩
    rw [cdF, if_pos (show lN 0 = 0 from rfl), Nat.gcd_zero_right]
  | m + 1, n, X, Y, h, hX, hY, hn => by
    obtain ⟨n', rfl⟩ : ∃ n', n = n' + 1 + 1 := ⟨n - 2, by omega⟩
    by_cases c : Y = 0
    · subst c
      rw [cdF, if_pos (show lN 0 = 0 from rfl), Nat.gcd_zero_right]
    · have c1 : ¬ lN Y = 0 := fun e => c ((pk_lEQ hY (by decide : 0 < 2 ^ 63)).mp e)
      have hm := Nat.mod_lt X (Nat.pos_of_ne_zero c)
      rw [cdF, if_neg c1, pk_lRem hX (Nat.pos_of_ne_zero c) hY, ← gcd_step (X := X) (Y := Y)]
      generalize X % Y = Z at *
      by_cases d : Z = 0
      · subst d
        rw [cdF, if_pos (show lN 0 = 0 from rfl), Nat.gcd_zero_right]
      · have d1 : ¬ lN Z = 0 := fun e => d ((pk_lEQ (by omega) (by decide : 0 < 2 ^ 63)).mp e)
        rw [cdF, if_neg d1, pk_lRem hY (Nat.pos_of_ne_zero d) (by omega), ← gcd_step (X := Y) (Y := Z)]
        have h1 := Nat.mod_lt Y (Nat.pos_of_ne_zero d)
        have h2 : Y % Z + Z ≤ Y := by
          have e := Nat.div_add_mod Y Z
          have q : 1 ≤ Y / Z := Nat.div_pos (Nat.le_of_lt hm) (Nat.pos_of_ne_zero d)
          have := Nat.mul_le_mul_left Z q
          omega
        have h3 : Y % Z < 2 ^ m := by
          rw [Nat.pow_succ] at h
          omega
        exact cdF_g m n' Z (Y % Z) h3 (by omega) (by omega) (by omega)
theorem mn_2c {a b a' b' : Nat → Int} {f : Nat → Nat} (ha : ∀ t, t < 5 → a t = a' (f t)) (hb : ∀ t, t < 5 → b t = b' (f t)) {i j : Nat} (hi : i < 5) (hj : j < 5) : mn_2 a b i j = mn_2 a' b' (f i) (f j) := by
  rw [mn_2, mn_2, ha i hi, ha j hj, hb i hi, hb j hj]
theorem mn_3c {a b c a' b' c' : Nat → Int} {f : Nat → Nat} (ha : ∀ t, t < 5 → a t = a' (f t)) (hb : ∀ t, t < 5 → b t = b' (f t)) (hc : ∀ t, t < 5 → c t = c' (f t)) {i j k : Nat} (hi : i < 5) (hj : j < 5) (hk : k < 5) : mn_3 a b c i j k = mn_3 a' b' c' (f i) (f j) (f k) := by
  rw [mn_3, mn_3, ha i hi, ha j hj, ha k hk, mn_2c hb hc hj hk, mn_2c hb hc hi hk, mn_2c hb hc hi hj]
theorem mn_4c {a b c d a' b' c' d' : Nat → Int} {f : Nat → Nat} (ha : ∀ t, t < 5 → a t = a' (f t)) (hb : ∀ t, t < 5 → b t = b' (f t)) (hc : ∀ t, t < 5 → c t = c' (f t)) (hd : ∀ t, t < 5 → d t = d' (f t)) {i j k l : Nat} (hi : i < 5) (hj : j < 5) (hk : k < 5) (hl : l < 5) : mn_4 a b c d i j k l = mn_4 a' b' c' d' (f i) (f j) (f k) (f l) := by
  rw [mn_4, mn_4, ha i hi, ha j hj, ha k hk, ha l hl, mn_3c hb hc hd hj hk hl, mn_3c hb hc hd hi hk hl, mn_3c hb hc hd hi hj hl, mn_3c hb hc hd hi hj hk]
theorem mn_5c {a b c d e a' b' c' d' e' : Nat → Int} {f : Nat → Nat} (ha : ∀ t, t < 5 → a t = a' (f t)) (hb : ∀ t, t < 5 → b t = b' (f t)) (hc : ∀ t, t < 5 → c t = c' (f t)) (hd : ∀ t, t < 5 → d t = d' (f t)) (he : ∀ t, t < 5 → e t = e' (f t)) : mn_5 a b c d e 0 1 2 3 4 = mn_5 a' b' c' d' e' (f 0) (f 1) (f 2) (f 3) (f 4) := by
  have h0 : 0 < 5 := by omega
  have h1 : 1 < 5 := by omega
  have h2 : 2 < 5 := by omega
  have h3 : 3 < 5 := by omega
  have h4 : 4 < 5 := by omega
  rw [mn_5, mn_5, ha 0 h0, ha 1 h1, ha 2 h2, ha 3 h3, ha 4 h4, mn_4c hb hc hd he h1 h2 h3 h4, mn_4c hb hc hd he h0 h2 h3 h4, mn_4c hb hc hd he h0 h1 h3 h4, mn_4c hb hc hd he h0 h1 h2 h4, mn_4c hb hc hd he h0 h1 h2 h3]
/-- the equations: a row a company, the last column what the parent holds -/
def Rp_ (p : Nat → Int32) (i j : Nat) : Int := if j = 5 then (p (i + 1)).toInt else if i = j then 100 else -(p (6 * (j + 1) + (i + 1))).toInt
def pcB (p : Nat → Int32) : Prop := pctB p ∧ (∀ c, c < 6 → (p (7 * c)).toInt = 0) ∧ ∀ c, c < 6 → (p (6 * 0 + c)).toInt + (p (6 * 1 + c)).toInt + (p (6 * 2 + c)).toInt + (p (6 * 3 + c)).toInt + (p (6 * 4 + c)).toInt + (p (6 * 5 + c)).toInt ≤ 100
theorem neg32 {x : Int32} (h : 0 ≤ x.toInt) : (-x).toInt = -x.toInt := by
  have := Int32.toInt_lt x
  rw [Int32.toInt_neg]
  exact bmodI (by omega) (by omega)
theorem sq_at {p : Nat → Int32} (h : pctB p) (c : Nat) {i j : Nat} (hi : i < 5) (hj : j < 5) : sqR p c i j = Rp_ p i (if j + 1 = c then 5 else j) := by
  unfold sqR sqB Rp_
  rw [show (5 * i + j) % 5 = j by omega, show (5 * i + j) / 5 = i by omega]
  by_cases e : j + 1 = c
  · rw [if_pos e, if_pos e, if_pos rfl, to64]
  · rw [if_neg e, if_neg e, if_neg (show ¬ j = 5 by omega), to64]
    by_cases g : i = j
    · rw [if_pos (show i + 1 = j + 1 by omega), if_pos g]; rfl
    · rw [if_neg (show ¬ i + 1 = j + 1 by omega), if_neg g, neg32 (h _ (by omega)).1]
theorem dvk_Rp {p : Nat → Int32} (h : pctB p) : dvk (sqR p 0) 5 = dvk (Rp_ p) 5 := by
  have e : ∀ i, i < 5 → ∀ t, t < 5 → sqR p 0 i t = Rp_ p i (id t) := fun i hi t ht => by
    rw [sq_at h 0 hi ht, if_neg (show ¬ t + 1 = 0 by omega)]; rfl
  exact mn_5c (f := id) (e 0 (by omega)) (e 1 (by omega)) (e 2 (by omega)) (e 3 (by omega)) (e 4 (by omega))
theorem dR_Rp {p : Nat → Int32} (h : pctB p) {i : Nat} (hi : i < 5) : dvk (sqR p (i + 1)) 5 = dR_ (Rp_ p) i := by
  have e : ∀ i', i' < 5 → ∀ t, t < 5 → sqR p (i + 1) i' t = Rp_ p i' ((fun t => if t + 1 = i + 1 then 5 else t) t) := fun i' hi' t ht => sq_at h (i + 1) hi' ht
  have m := mn_5c (f := fun t => if t + 1 = i + 1 then 5 else t) (e 0 (by omega)) (e 1 (by omega)) (e 2 (by omega)) (e 3 (by omega)) (e 4 (by omega))
  have c : i = 0 ∨ i = 1 ∨ i = 2 ∨ i = 3 ∨ i = 4 := by omega
  rcases c with rfl | rfl | rfl | rfl | rfl <;> exact m
theorem one5 (c x : Nat) : (if 1 = c then x else 0) + (if 2 = c then x else 0) + (if 3 = c then x else 0) + (if 4 = c then x else 0) + (if 5 = c then x else 0) ≤ x := by
  repeat' split
  all_goals omega
theorem dia5 (i a b c d e : Nat) : (if i = 0 then 100 else a) + (if i = 1 then 100 else b) + (if i = 2 then 100 else c) + (if i = 3 then 100 else d) + (if i = 4 then 100 else e) ≤ 100 + a + b + c + d + e := by
  repeat' split
  all_goals omega
theorem rb_Rp {p : Nat → Int32} (h : pcB p) {c : Nat} (hc : c < 6) : rb_ (sqR p c) := by
  obtain ⟨h1, h2, h3⟩ := h
  intro i hi
  have s := h3 (i + 1) (by omega)
  have b0 := (h1 (6 * 0 + (i + 1)) (by omega)).1
  have b1 := (h1 (6 * 1 + (i + 1)) (by omega)).1
  have b2 := (h1 (6 * 2 + (i + 1)) (by omega)).1
  have b3 := (h1 (6 * 3 + (i + 1)) (by omega)).1
  have b4 := (h1 (6 * 4 + (i + 1)) (by omega)).1
  have b5 := (h1 (6 * 5 + (i + 1)) (by omega)).1
  have g : ∀ j, j < 5 → (sqR p c i j).natAbs ≤ (if i = j then 100 else (p (6 * (j + 1) + (i + 1))).toInt.natAbs) + (if j + 1 = c then (p (6 * 0 + (i + 1))).toInt.natAbs else 0) := fun j hj => by
    rw [sq_at h1 c hi hj]
    by_cases e : j + 1 = c
    · rw [if_pos e, if_pos e]
      have : (Rp_ p i 5).natAbs = (p (6 * 0 + (i + 1))).toInt.natAbs := by
        rw [show 6 * 0 + (i + 1) = i + 1 by omega]; rfl
      omega
    · rw [if_neg e, if_neg e]
      unfold Rp_
      rw [if_neg (show ¬ j = 5 by omega)]
      by_cases e2 : i = j
      · rw [if_pos e2, if_pos e2]; omega
      · rw [if_neg e2, if_neg e2]; omega
  have w0 : (sqR p c i 0).natAbs ≤ (if i = 0 then 100 else (p (6 * 1 + (i + 1))).toInt.natAbs) + (if 1 = c then (p (6 * 0 + (i + 1))).toInt.natAbs else 0) := g 0 (by omega)
  have w1 : (sqR p c i 1).natAbs ≤ (if i = 1 then 100 else (p (6 * 2 + (i + 1))).toInt.natAbs) + (if 2 = c then (p (6 * 0 + (i + 1))).toInt.natAbs else 0) := g 1 (by omega)
  have w2 : (sqR p c i 2).natAbs ≤ (if i = 2 then 100 else (p (6 * 3 + (i + 1))).toInt.natAbs) + (if 3 = c then (p (6 * 0 + (i + 1))).toInt.natAbs else 0) := g 2 (by omega)
  have w3 : (sqR p c i 3).natAbs ≤ (if i = 3 then 100 else (p (6 * 4 + (i + 1))).toInt.natAbs) + (if 4 = c then (p (6 * 0 + (i + 1))).toInt.natAbs else 0) := g 3 (by omega)
  have w4 : (sqR p c i 4).natAbs ≤ (if i = 4 then 100 else (p (6 * 5 + (i + 1))).toInt.natAbs) + (if 5 = c then (p (6 * 0 + (i + 1))).toInt.natAbs else 0) := g 4 (by omega)
  have o := one5 c (p (6 * 0 + (i + 1))).toInt.natAbs
  have d := dia5 i (p (6 * 1 + (i + 1))).toInt.natAbs (p (6 * 2 + (i + 1))).toInt.natAbs (p (6 * 3 + (i + 1))).toInt.natAbs (p (6 * 4 + (i + 1))).toInt.natAbs (p (6 * 5 + (i + 1))).toInt.natAbs
  unfold sa_
  generalize (p (6 * 0 + (i + 1))).toInt = x0 at *
  generalize (p (6 * 1 + (i + 1))).toInt = x1 at *
  generalize (p (6 * 2 + (i + 1))).toInt = x2 at *
  generalize (p (6 * 3 + (i + 1))).toInt = x3 at *
  generalize (p (6 * 4 + (i + 1))).toInt = x4 at *
  generalize (p (6 * 5 + (i + 1))).toInt = x5 at *
  have t : x0.natAbs + x1.natAbs + x2.natAbs + x3.natAbs + x4.natAbs + x5.natAbs ≤ 100 := by omega
  omega
