def inB (v lo hi : Int32) : Bool := if v < lo then false else if hi < v then false else true
def prB (x y : Int32) : Bool := if inB x 0 5 = true then (if inB y 0 5 = true then (if x = y then false else true) else false) else false
def flM (x y : Int64) : Int64 := if 0 ≤ x - x / y * y then x / y else x / y - 1
def trM (x y : Int32) : Int32 := (flM (x.toInt64 * y.toInt64) 100).toInt32
def lsI (he : Nat → Int32) (rp i : Nat) (s : Nat → Int64) : Nat → Nat → Int64
  | 0 => s
  | j + 1 => vp_updL (lsI he rp i s j) (5 * (i + 1) + (j + 1) - 6) (if j + 1 = rp then (he (i + 1)).toInt64 else (if i + 1 = j + 1 then (100 : Int32) else -(he (6 * (j + 1) + (i + 1)))).toInt64)
def lsO (he : Nat → Int32) (rp : Nat) (s : Nat → Int64) : Nat → Nat → Int64 | 0 => s | i + 1 => lsI he rp i (lsO he rp s i) 5
def exK (s : Nat → Int64) (r1 r2 : Nat) : Nat → Nat → Int64
  | 0 => s
  | k + 1 => vp_updL (vp_updL (exK s r1 r2 k) (5 * r1 + k) (exK s r1 r2 k (5 * r2 + k))) (5 * r2 + k) (exK s r1 r2 k (5 * r1 + k))
def frF (s : Nat → Int64) (k : Nat) : Nat → Nat → Nat | 0, r => r | n + 1, r => if s (5 * r + k) = 0 then frF s k n (r + 1) else r
def deJ (s : Nat → Int64) (k i : Nat) (bf : Int64) : Nat → Nat → Int64
  | 0 => s
  | t + 1 => vp_updL (deJ s k i bf t) (5 * i + (k + 1 + t)) ((deJ s k i bf t (5 * i + (k + 1 + t)) * deJ s k i bf t (6 * k) - deJ s k i bf t (5 * i + k) * deJ s k i bf t (5 * k + (k + 1 + t))) / bf)
def deI (s : Nat → Int64) (k : Nat) (bf : Int64) : Nat → Nat → Int64 | 0 => s | t + 1 => deJ (deI s k bf t) k (k + 1 + t) bf (5 - (k + 1))
def swp (s : Nat → Int64) (k r : Nat) : Nat → Int64 := if r = k then s else exK s r k 5
theorem frF_s (s : Nat → Int64) (k n r : Nat) : frF s k (n + 1) r = if s (5 * r + k) = 0 then frF s k n (r + 1) else r := rfl
def dtG : Nat → Nat → (Nat → Int64) → Int64 → Int64 → Int64
  | 0, _, s, sg, _ => sg * s 24
  | n + 1, k, s, sg, bf => if frF s k (5 - k) k = 5 then 0 else
      dtG n (k + 1) (deI (swp s k (frF s k (5 - k) k)) k bf (5 - (k + 1))) (if frF s k (5 - k) k = k then sg else -sg) (deI (swp s k (frF s k (5 - k) k)) k bf (5 - (k + 1)) (6 * k))
theorem dtG_s (n k : Nat) (s : Nat → Int64) (sg bf : Int64) : dtG (n + 1) k s sg bf = if frF s k (5 - k) k = 5 then 0 else dtG n (k + 1) (deI (swp s k (frF s k (5 - k) k)) k bf (5 - (k + 1))) (if frF s k (5 - k) k = k then sg else -sg) (deI (swp s k (frF s k (5 - k) k)) k bf (5 - (k + 1)) (6 * k)) := rfl
theorem deJ_ne (s : Nat → Int64) (k i : Nat) (bf : Int64) (q : Nat) : ∀ t, (∀ j, j < t → q ≠ 5 * i + (k + 1 + j)) → deJ s k i bf t q = s q
  | 0, _ => rfl
  | t + 1, h => by
    rw [deJ, vp_updL, if_neg (h t (Nat.lt_succ_self t))]
    exact deJ_ne s k i bf q t (fun j hj => h j (Nat.lt_succ_of_lt hj))
theorem deI_ne (s : Nat → Int64) (k : Nat) (bf : Int64) (q : Nat) : ∀ t, (∀ i j, i < t → j < 5 - (k + 1) → q ≠ 5 * (k + 1 + i) + (k + 1 + j)) → deI s k bf t q = s q
  | 0, _ => rfl
  | t + 1, h => by
    rw [deI, deJ_ne _ _ _ _ _ _ (fun j hj => h t j (Nat.lt_succ_self t) hj)]
    exact deI_ne s k bf q t (fun i j hi hj => h i j (Nat.lt_succ_of_lt hi) hj)
theorem exK_r2 (s : Nat → Int64) (r1 r2 : Nat) (h : r1 < 5) (h2 : r2 < 5) : ∀ t q, q < t → t ≤ 5 → exK s r1 r2 t (5 * r2 + q) = s (5 * r1 + q) := by
  have low : ∀ t q, t ≤ q → q < 5 → exK s r1 r2 t (5 * r1 + q) = s (5 * r1 + q) ∧ exK s r1 r2 t (5 * r2 + q) = s (5 * r2 + q) := by
    intro t
    induction t with
    | zero => intro q _ _; exact ⟨rfl, rfl⟩
    | succ t ih =>
      intro q hq h5
      obtain ⟨a1, a2⟩ := ih q (by omega) h5
      constructor
      · rw [exK, vp_updL, if_neg (by omega), vp_updL, if_neg (by omega)]; exact a1
      · rw [exK, vp_updL, if_neg (by omega), vp_updL, if_neg (by omega)]; exact a2
  intro t
  induction t with
  | zero => intro q hq; exact absurd hq (Nat.not_lt_zero q)
  | succ t ih =>
    intro q hq h5
    rcases Nat.lt_or_ge q t with z | z
    · rw [exK, vp_updL, if_neg (by omega), vp_updL, if_neg (by omega)]
      exact ih q z (by omega)
    · obtain rfl : q = t := by omega
      rw [exK, vp_updL, if_pos rfl]
      exact (low q q (Nat.le_refl q) (by omega)).1
theorem swp_d (s : Nat → Int64) {k r : Nat} (hk : k < 5) (hr : r < 5) : swp s k r (6 * k) = s (5 * r + k) := by
  unfold swp
  split
  · next h => subst h; congr 1; omega
  · rw [show 6 * k = 5 * k + k by omega]
    exact exK_r2 s r k hr hk 5 k hk (Nat.le_refl 5)
theorem de_d (s : Nat → Int64) {k r : Nat} (bf : Int64) (hk : k < 4) (hr : r < 5) : deI (swp s k r) k bf (5 - (k + 1)) (6 * k) = s (5 * r + k) := by
  rw [deI_ne _ _ _ _ _ (fun i j hi hj => by omega)]
  exact swp_d s (by omega) hr
