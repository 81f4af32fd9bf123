def sqB (he : Nat → Int32) (rp q : Nat) : Int64 := if q % 5 + 1 = rp then (he (q / 5 + 1)).toInt64 else (if q / 5 + 1 = q % 5 + 1 then (100 : Int32) else -(he (6 * (q % 5 + 1) + (q / 5 + 1)))).toInt64
def dW (he : Nat → Int32) (c : Nat) : Int64 := dtG 4 0 (sqB he c) 1 1
theorem lsI_ne (he : Nat → Int32) (rp i : Nat) (s : Nat → Int64) (q : Nat) : ∀ t, (∀ j, j < t → q ≠ 5 * (i + 1) + (j + 1) - 6) → lsI he rp i s t q = s q
  | 0, _ => rfl
  | t + 1, h => by
    rw [lsI, vp_updL, if_neg (h t (Nat.lt_succ_self t))]
    exact lsI_ne he rp i s q t (fun j hj => h j (Nat.lt_succ_of_lt hj))
theorem lsI_at (he : Nat → Int32) (rp i : Nat) (s : Nat → Int64) : ∀ t j, j < t → t ≤ 5 → lsI he rp i s t (5 * i + j) = sqB he rp (5 * i + j) := by
  intro t
  induction t with
  | zero => intro j hj; exact absurd hj (Nat.not_lt_zero j)
  | succ t ih =>
    intro j hj h5
    rw [lsI, vp_updL]
    by_cases h : j = t
    · subst h
      rw [if_pos (by omega)]
      have e1 : (5 * i + j) % 5 = j := by omega
      have e2 : (5 * i + j) / 5 = i := by omega
      rw [sqB, e1, e2]
    · rw [if_neg (by omega)]
      exact ih j (by omega) (by omega)
theorem lsO_at (he : Nat → Int32) (rp : Nat) (s : Nat → Int64) : ∀ t i j, i < t → j < 5 → lsO he rp s t (5 * i + j) = sqB he rp (5 * i + j) := by
  intro t
  induction t with
  | zero => intro i j hi; exact absurd hi (Nat.not_lt_zero i)
  | succ t ih =>
    intro i j hi hj
    rw [lsO]
    by_cases h : i = t
    · subst h
      exact lsI_at he rp i _ 5 j hj (Nat.le_refl 5)
    · rw [lsI_ne _ _ _ _ _ _ (fun j' hj' => by omega)]
      exact ih i j (by omega) hj
theorem lay_eq (he : Nat → Int32) (rp : Nat) (s : Nat → Int64) (q : Nat) (hq : q < 25) : lsO he rp s 5 q = sqB he rp q := by
  have h := lsO_at he rp s 5 (q / 5) (q % 5) (by omega) (by omega)
  rw [show 5 * (q / 5) + q % 5 = q by omega] at h
  exact h
def eq25 (s t : Nat → Int64) : Prop := ∀ q, q < 25 → s q = t q
theorem eq25_up {s t : Nat → Int64} (h : eq25 s t) (i : Nat) {x y : Int64} (hx : x = y) : eq25 (vp_updL s i x) (vp_updL t i y) := by
  intro q hq
  unfold vp_updL
  split
  · exact hx
  · exact h q hq
theorem exK_25 {s t : Nat → Int64} (h : eq25 s t) {r1 r2 : Nat} (h1 : r1 < 5) (h2 : r2 < 5) : ∀ k, k ≤ 5 → eq25 (exK s r1 r2 k) (exK t r1 r2 k)
  | 0, _ => h
  | k + 1, hk => by
    have ih := exK_25 h h1 h2 k (by omega)
    exact eq25_up (eq25_up ih _ (ih _ (by omega))) _ (ih _ (by omega))
theorem swp_25 {s t : Nat → Int64} (h : eq25 s t) {k r : Nat} (h1 : k < 5) (h2 : r < 5) : eq25 (swp s k r) (swp t k r) := by
  unfold swp
  split
  · exact h
  · exact exK_25 h h2 h1 5 (Nat.le_refl 5)
theorem deJ_25 {s t : Nat → Int64} (h : eq25 s t) {k i : Nat} (bf : Int64) (hk : k < 4) (hi : i < 5) : ∀ v, v ≤ 5 - (k + 1) → eq25 (deJ s k i bf v) (deJ t k i bf v)
  | 0, _ => h
  | v + 1, hv => by
    have ih := deJ_25 h bf hk hi v (by omega)
    refine eq25_up ih _ ?_
    rw [ih _ (by omega), ih (6 * k) (by omega), ih (5 * i + k) (by omega), ih (5 * k + (k + 1 + v)) (by omega)]
theorem deI_25 {s t : Nat → Int64} (h : eq25 s t) {k : Nat} (bf : Int64) (hk : k < 4) : ∀ v, v ≤ 5 - (k + 1) → eq25 (deI s k bf v) (deI t k bf v)
  | 0, _ => h
  | v + 1, hv => deJ_25 (deI_25 h bf hk v (by omega)) bf hk (by omega) _ (Nat.le_refl _)
theorem frF_25 {s t : Nat → Int64} (h : eq25 s t) {k : Nat} (hk : k < 5) : ∀ n r, r + n ≤ 5 → frF s k n r = frF t k n r
  | 0, _, _ => rfl
  | n + 1, r, hr => by rw [frF_s, frF_s, h _ (by omega), frF_25 h hk n (r + 1) (by omega)]
theorem frF_le (s : Nat → Int64) (k : Nat) : ∀ n r, frF s k n r ≤ r + n
  | 0, r => Nat.le_refl r
  | n + 1, r => by
    rw [frF_s]
    split
    · have := frF_le s k n (r + 1); omega
    · omega
theorem dtG_25 : ∀ (n k : Nat) (s t : Nat → Int64) (sg bf : Int64), k + n = 4 → eq25 s t → dtG n k s sg bf = dtG n k t sg bf
  | 0, _, s, t, sg, bf, _, h => by show sg * s 24 = sg * t 24; rw [h 24 (by decide)]
  | n + 1, k, s, t, sg, bf, hk, h => by
    rw [dtG_s, dtG_s, frF_25 h (by omega) _ _ (by omega)]
    have hle := frF_le t k (5 - k) k
    split
    · rfl
    · next hne =>
      have hI := deI_25 (swp_25 h (k := k) (r := frF t k (5 - k) k) (by omega) (by omega)) bf (by omega) (5 - (k + 1)) (Nat.le_refl _)
      rw [hI (6 * k) (by omega)]
      exact dtG_25 n (k + 1) _ _ _ _ (by omega) hI
theorem dt_lay (he : Nat → Int32) (rp : Nat) (s : Nat → Int64) : dtG 4 0 (lsO he rp s 5) 1 1 = dW he rp := dtG_25 4 0 _ _ _ _ rfl (fun q hq => lay_eq he rp s q hq)
def okB (he : Nat → Int32) : Prop := ∀ c, c < 6 → -4611686018427387904 < (dW he c).toInt ∧ (dW he c).toInt < 4611686018427387904
def gq (he : Nat → Int32) (c : Nat) : Nat := Nat.gcd (dW he c).toInt.natAbs (dW he 0).toInt.natAbs
def byV (he : Nat → Int32) (c : Nat) : Int64 := if 0 ≤ dW he 0 then lN (gq he c) else -(lN (gq he c))
def abK (he : Nat → Int32) (ab : Nat → Int64) : Nat → Nat → Int64 | 0 => vp_updL ab 0 1 | k + 1 => vp_updL (abK he ab k) (k + 1) (dW he (k + 1) / byV he (k + 1))
def beK (he : Nat → Int32) (be : Nat → Int64) : Nat → Nat → Int64 | 0 => vp_updL be 0 1 | k + 1 => vp_updL (beK he be k) (k + 1) (dW he 0 / byV he (k + 1))
theorem bmodL {z : Int} (h1 : -9223372036854775808 ≤ z) (h2 : z < 9223372036854775808) : z.bmod (2 ^ 64) = z := by
  rw [Int.bmod_eq_of_le (by omega) (by omega)]
theorem i64_0 : (0 : Int64).toInt = 0 := by decide
theorem absN_pos {x : Int64} (h : 0 ≤ x) : x = lN x.toInt.natAbs := by
  rw [Int64.le_iff_toInt_le, i64_0] at h
  have := Int64.toInt_lt x
  apply Int64.toInt_inj.mp
  rw [pk_lT (by omega)]
  omega
theorem absN_neg {x : Int64} (h : ¬ 0 ≤ x) (hb : -4611686018427387904 < x.toInt) : -x = lN x.toInt.natAbs := by
  rw [Int64.le_iff_toInt_le, i64_0] at h
  apply Int64.toInt_inj.mp
  rw [pk_lT (by omega), Int64.toInt_neg, bmodL (by omega) (by omega)]
  omega
theorem abs_lt {he : Nat → Int32} (h : okB he) {c : Nat} (hc : c < 6) : (dW he c).toInt.natAbs < 2 ^ 63 := by
  have := h c hc
  omega
theorem by_ne {he : Nat → Int32} (h : okB he) (h0 : ¬ dW he 0 = 0) {c : Nat} (hc : c < 6) : ¬ byV he c = 0 := by
  have hW : (dW he 0).toInt ≠ 0 := fun e => h0 (Int64.toInt_inj.mp (by rw [e, i64_0]))
  have hb := h 0 (by decide)
  have hg : 0 < gq he c := Nat.gcd_pos_of_pos_right _ (by omega)
  have hg2 : gq he c ≤ (dW he 0).toInt.natAbs := Nat.le_of_dvd (by omega) (Nat.gcd_dvd_right _ _)
  have e : (lN (gq he c)).toInt = gq he c := pk_lT (by omega)
  unfold byV
  intro hz
  have h9 := congrArg Int64.toInt hz
  rw [i64_0] at h9
  split at h9
  · omega
  · rw [Int64.toInt_neg, bmodL (by omega) (by omega)] at h9
    omega
theorem gcd_step {X Y : Nat} : Nat.gcd Y (X % Y) = Nat.gcd X Y := by rw [Nat.gcd_comm X Y, Nat.gcd_rec Y X, Nat.gcd_comm]
