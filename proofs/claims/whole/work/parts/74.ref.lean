def sa_ (a : Nat → Int) : Prop := (a 0).natAbs + (a 1).natAbs + (a 2).natAbs + (a 3).natAbs + (a 4).natAbs ≤ 200
theorem sa_1 {a : Nat → Int} (h : sa_ a) {i : Nat} (hi : i < 5) : (a i).natAbs ≤ 200 := by
  unfold sa_ at h
  have c : i = 0 ∨ i = 1 ∨ i = 2 ∨ i = 3 ∨ i = 4 := by omega
  rcases c with rfl | rfl | rfl | rfl | rfl <;> omega
theorem sa_2 {a : Nat → Int} (h : sa_ a) {i j : Nat} (h1 : i < j) (h2 : j < 5) : (a i).natAbs + (a j).natAbs ≤ 200 := by
  unfold sa_ at h
  have c : (i = 0 ∧ j = 1) ∨ (i = 0 ∧ j = 2) ∨ (i = 0 ∧ j = 3) ∨ (i = 0 ∧ j = 4) ∨ (i = 1 ∧ j = 2) ∨ (i = 1 ∧ j = 3) ∨ (i = 1 ∧ j = 4) ∨ (i = 2 ∧ j = 3) ∨ (i = 2 ∧ j = 4) ∨ (i = 3 ∧ j = 4) := by omega
  rcases c with ⟨rfl, rfl⟩ | ⟨rfl, rfl⟩ | ⟨rfl, rfl⟩ | ⟨rfl, rfl⟩ | ⟨rfl, rfl⟩ | ⟨rfl, rfl⟩ | ⟨rfl, rfl⟩ | ⟨rfl, rfl⟩ | ⟨rfl, rfl⟩ | ⟨rfl, rfl⟩ <;> omega
theorem sa_3 {a : Nat → Int} (h : sa_ a) {i j k : Nat} (h1 : i < j) (h2 : j < k) (h3 : k < 5) : (a i).natAbs + (a j).natAbs + (a k).natAbs ≤ 200 := by
  unfold sa_ at h
  have c : (i = 0 ∧ j = 1 ∧ k = 2) ∨ (i = 0 ∧ j = 1 ∧ k = 3) ∨ (i = 0 ∧ j = 1 ∧ k = 4) ∨ (i = 0 ∧ j = 2 ∧ k = 3) ∨ (i = 0 ∧ j = 2 ∧ k = 4) ∨ (i = 0 ∧ j = 3 ∧ k = 4) ∨ (i = 1 ∧ j = 2 ∧ k = 3) ∨ (i = 1 ∧ j = 2 ∧ k = 4) ∨ (i = 1 ∧ j = 3 ∧ k = 4) ∨ (i = 2 ∧ j = 3 ∧ k = 4) := by omega
  rcases c with ⟨rfl, rfl, rfl⟩ | ⟨rfl, rfl, rfl⟩ | ⟨rfl, rfl, rfl⟩ | ⟨rfl, rfl, rfl⟩ | ⟨rfl, rfl, rfl⟩ | ⟨rfl, rfl, rfl⟩ | ⟨rfl, rfl, rfl⟩ | ⟨rfl, rfl, rfl⟩ | ⟨rfl, rfl, rfl⟩ | ⟨rfl, rfl, rfl⟩ <;> omega
theorem sa_4 {a : Nat → Int} (h : sa_ a) {i j k l : Nat} (h1 : i < j) (h2 : j < k) (h3 : k < l) (h4 : l < 5) : (a i).natAbs + (a j).natAbs + (a k).natAbs + (a l).natAbs ≤ 200 := by
  unfold sa_ at h
  have c : (i = 0 ∧ j = 1 ∧ k = 2 ∧ l = 3) ∨ (i = 0 ∧ j = 1 ∧ k = 2 ∧ l = 4) ∨ (i = 0 ∧ j = 1 ∧ k = 3 ∧ l = 4) ∨ (i = 0 ∧ j = 2 ∧ k = 3 ∧ l = 4) ∨ (i = 1 ∧ j = 2 ∧ k = 3 ∧ l = 4) := by omega
  rcases c with ⟨rfl, rfl, rfl, rfl⟩ | ⟨rfl, rfl, rfl, rfl⟩ | ⟨rfl, rfl, rfl, rfl⟩ | ⟨rfl, rfl, rfl, rfl⟩ | ⟨rfl, rfl, rfl, rfl⟩ <;> omega
theorem am_ (x : Int) {y : Int} {Y : Nat} (hy : y.natAbs ≤ Y) : (x * y).natAbs ≤ x.natAbs * Y := by
  rw [Int.natAbs_mul]
  exact Nat.mul_le_mul_left _ hy
theorem mb_2 {a b : Nat → Int} (ha : sa_ a) (hb : sa_ b) {i j : Nat} (h1 : i < j) (h2 : j < 5) : (mn_2 a b i j).natAbs ≤ 40000 := by
  have p1 := am_ (a i) (sa_1 hb h2)
  have p2 := am_ (a j) (sa_1 hb (Nat.lt_trans h1 h2))
  have s := sa_2 ha h1 h2
  unfold mn_2
  omega
theorem mb_3 {a b c : Nat → Int} (ha : sa_ a) (hb : sa_ b) (hc : sa_ c) {i j k : Nat} (h1 : i < j) (h2 : j < k) (h3 : k < 5) : (mn_3 a b c i j k).natAbs ≤ 8000000 := by
  have p1 := am_ (a i) (mb_2 hb hc h2 h3)
  have p2 := am_ (a j) (mb_2 hb hc (Nat.lt_trans h1 h2) h3)
  have p3 := am_ (a k) (mb_2 hb hc h1 (Nat.lt_trans h2 h3))
  have s := sa_3 ha h1 h2 h3
  unfold mn_3
  omega
theorem mb_4 {a b c d : Nat → Int} (ha : sa_ a) (hb : sa_ b) (hc : sa_ c) (hd : sa_ d) {i j k l : Nat} (h1 : i < j) (h2 : j < k) (h3 : k < l) (h4 : l < 5) : (mn_4 a b c d i j k l).natAbs ≤ 1600000000 := by
  have p1 := am_ (a i) (mb_3 hb hc hd h2 h3 h4)
  have p2 := am_ (a j) (mb_3 hb hc hd (Nat.lt_trans h1 h2) h3 h4)
  have p3 := am_ (a k) (mb_3 hb hc hd h1 (Nat.lt_trans h2 h3) h4)
  have p4 := am_ (a l) (mb_3 hb hc hd h1 h2 (Nat.lt_trans h3 h4))
  have s := sa_4 ha h1 h2 h3 h4
  unfold mn_4
  omega
theorem mb_5 {a b c d e : Nat → Int} (ha : sa_ a) (hb : sa_ b) (hc : sa_ c) (hd : sa_ d) (he : sa_ e) : (mn_5 a b c d e 0 1 2 3 4).natAbs ≤ 320000000000 := by
  have p1 := am_ (a 0) (mb_4 hb hc hd he (i := 1) (j := 2) (k := 3) (l := 4) (by omega) (by omega) (by omega) (by omega))
  have p2 := am_ (a 1) (mb_4 hb hc hd he (i := 0) (j := 2) (k := 3) (l := 4) (by omega) (by omega) (by omega) (by omega))
  have p3 := am_ (a 2) (mb_4 hb hc hd he (i := 0) (j := 1) (k := 3) (l := 4) (by omega) (by omega) (by omega) (by omega))
  have p4 := am_ (a 3) (mb_4 hb hc hd he (i := 0) (j := 1) (k := 2) (l := 4) (by omega) (by omega) (by omega) (by omega))
  have p5 := am_ (a 4) (mb_4 hb hc hd he (i := 0) (j := 1) (k := 2) (l := 3) (by omega) (by omega) (by omega) (by omega))
  unfold sa_ at ha
  unfold mn_5
  omega
def rb_ (R : Nat → Nat → Int) : Prop := ∀ i, i < 5 → sa_ (R i)
theorem scv_b {R : Nat → Nat → Int} (h : rb_ R) {k : Nat} (hk : k < 4) {v : Nat → Int} (hv : sa_ v) {j : Nat} (h1 : k ≤ j) (h2 : j < 5) : (scv R k v j).natAbs ≤ 1600000000 := by
  have c : k = 0 ∨ k = 1 ∨ k = 2 ∨ k = 3 := by omega
  rcases c with rfl | rfl | rfl | rfl
  · have := sa_1 hv h2
    show (v j).natAbs ≤ _
    omega
  · have := mb_2 (h 0 (by omega)) hv (i := 0) (j := j) (by omega) h2
    show (mn_2 (R 0) v 0 j).natAbs ≤ _
    omega
  · have := mb_3 (h 0 (by omega)) (h 1 (by omega)) hv (i := 0) (j := 1) (k := j) (by omega) (by omega) h2
    show (mn_3 (R 0) (R 1) v 0 1 j).natAbs ≤ _
    omega
  · exact mb_4 (h 0 (by omega)) (h 1 (by omega)) (h 2 (by omega)) hv (i := 0) (j := 1) (k := 2) (l := j) (by omega) (by omega) (by omega) h2
theorem dvk_b {R : Nat → Nat → Int} (h : rb_ R) : (dvk R 5).natAbs ≤ 320000000000 := mb_5 (h 0 (by omega)) (h 1 (by omega)) (h 2 (by omega)) (h 3 (by omega)) (h 4 (by omega))
theorem qx_ {x y u w dv : Int64} {z : Int} (hd : dv.toInt ≠ 0) (h1 : (x.toInt * y.toInt).natAbs ≤ 4000000000000000000) (h2 : (u.toInt * w.toInt).natAbs ≤ 4000000000000000000) (hz : x.toInt * y.toInt - u.toInt * w.toInt = dv.toInt * z) : ((x * y - u * w) / dv).toInt = z := by
  have e1 : (x * y).toInt = x.toInt * y.toInt := by rw [Int64.toInt_mul]; exact bmodL (by omega) (by omega)
  have e2 : (u * w).toInt = u.toInt * w.toInt := by rw [Int64.toInt_mul]; exact bmodL (by omega) (by omega)
  have e3 : (x * y - u * w).toInt = dv.toInt * z := by
    rw [Int64.toInt_sub, e1, e2, hz]
    exact bmodL (by omega) (by omega)
  have b1 : z.natAbs ≤ (dv.toInt * z).natAbs := by
    rw [Int.natAbs_mul]
    exact Nat.le_mul_of_pos_left _ (by omega)
  rw [Int64.toInt_div, e3, Int.mul_tdiv_cancel_left _ hd]
  exact bmodL (by omega) (by omega)
def HK_ (R : Nat → Nat → Int) (k : Nat) (s : Nat → Int64) : Prop := ∀ i j, k ≤ i → i < 5 → k ≤ j → j < 5 → (s (5 * i + j)).toInt = scv R k (R i) j
theorem frF_sp (s : Nat → Int64) (k : Nat) : ∀ n r, r + n = 5 → (frF s k n r = 5 ∧ ∀ i, r ≤ i → i < 5 → s (5 * i + k) = 0) ∨ (r ≤ frF s k n r ∧ frF s k n r < 5 ∧ s (5 * frF s k n r + k) ≠ 0)
  | 0, r, h => Or.inl ⟨by rw [frF]; omega, fun i h1 h2 => by omega⟩
  | n + 1, r, h => by
    rw [frF_s]
    by_cases c : s (5 * r + k) = 0
    · rw [if_pos c]
      rcases frF_sp s k n (r + 1) (by omega) with ⟨a, b⟩ | ⟨a, b, d⟩
      · exact Or.inl ⟨a, fun i h1 h2 => by
          by_cases e : i = r
          · subst e; exact c
          · exact b i (by omega) h2⟩
      · exact Or.inr ⟨by omega, b, d⟩
    · rw [if_neg c]
      exact Or.inr ⟨Nat.le_refl r, by omega, c⟩
theorem exK_at (s : Nat → Int64) {r1 r2 : Nat} (hr : r1 ≠ r2) (h1 : r1 < 5) (h2 : r2 < 5) : ∀ t, t ≤ 5 → ∀ i q, i < 5 → q < 5 → exK s r1 r2 t (5 * i + q) = if q < t then s (5 * sw r2 r1 i + q) else s (5 * i + q)
  | 0, _, i, q, _, _ => by rw [exK, if_neg (Nat.not_lt_zero q)]
  | t + 1, ht, i, q, hi, hq => by
    have ih := exK_at s hr h1 h2 t (by omega)
    rw [exK]
    by_cases e : q = t
    · subst e
      rw [if_pos (Nat.lt_succ_self q)]
      have g1 := ih r1 q h1 hq
      have g2 := ih r2 q h2 hq
      rw [if_neg (Nat.lt_irrefl q)] at g1 g2
      unfold vp_updL sw
      by_cases c2 : i = r2
      · subst c2
        rw [if_pos rfl, if_pos rfl, g1]
      · rw [if_neg (by omega), if_neg c2]
        by_cases c1 : i = r1
        · subst c1
          rw [if_pos rfl, if_pos rfl, g2]
        · rw [if_neg (by omega), if_neg c1, ih i q hi hq, if_neg (Nat.lt_irrefl q)]
    · unfold vp_updL
      rw [if_neg (by omega), if_neg (by omega), ih i q hi hq]
      by_cases c : q < t
      · rw [if_pos c, if_pos (by omega)]
      · rw [if_neg c, if_neg (by omega)]
theorem deJ_at (s : Nat → Int64) (k i : Nat) (bf : Int64) (hi : k < i) (hi5 : i < 5) : ∀ t, t ≤ 5 - (k + 1) → ∀ j, j < t → deJ s k i bf t (5 * i + (k + 1 + j)) = (s (5 * i + (k + 1 + j)) * s (6 * k) - s (5 * i + k) * s (5 * k + (k + 1 + j))) / bf
  | 0, _, j, hj => absurd hj (Nat.not_lt_zero j)
  | t + 1, ht, j, hj => by
    rw [deJ]
    by_cases e : j = t
    · subst e
      unfold vp_updL
      rw [if_pos rfl, deJ_ne _ _ _ _ _ _ (fun j' hj' => by omega), deJ_ne _ _ _ _ (6 * k) _ (fun j' hj' => by omega), deJ_ne _ _ _ _ (5 * i + k) _ (fun j' hj' => by omega), deJ_ne _ _ _ _ (5 * k + (k + 1 + j)) _ (fun j' hj' => by omega)]
    · unfold vp_updL
      rw [if_neg (by omega)]
      exact deJ_at s k i bf hi hi5 t (by omega) j (by omega)
theorem deI_at (s : Nat → Int64) (k : Nat) (bf : Int64) : ∀ t, t ≤ 5 - (k + 1) → ∀ i j, i < t → j < 5 - (k + 1) → deI s k bf t (5 * (k + 1 + i) + (k + 1 + j)) = (s (5 * (k + 1 + i) + (k + 1 + j)) * s (6 * k) - s (5 * (k + 1 + i) + k) * s (5 * k + (k + 1 + j))) / bf
  | 0, _, i, j, hi, _ => absurd hi (Nat.not_lt_zero i)
  | t + 1, ht, i, j, hi, hj => by
    rw [deI]
    by_cases e : i = t
    · subst e
      rw [deJ_at _ k (k + 1 + i) bf (by omega) (by omega) (5 - (k + 1)) (Nat.le_refl _) j hj]
      have n : ∀ q, (∀ i' j', i' < i → j' < 5 - (k + 1) → q ≠ 5 * (k + 1 + i') + (k + 1 + j')) → deI s k bf i q = s q := fun q h => deI_ne s k bf q i h
      rw [n (5 * (k + 1 + i) + (k + 1 + j)) (fun i' j' a b => by omega), n (6 * k) (fun i' j' a b => by omega), n (5 * (k + 1 + i) + k) (fun i' j' a b => by omega), n (5 * k + (k + 1 + j)) (fun i' j' a b => by omega)]
    · rw [deJ_ne _ _ _ _ _ _ (fun j' hj' => by omega)]
      exact deI_at s k bf t (by omega) i j (by omega) hj
theorem mul_b {x y : Int} (hx : x.natAbs ≤ 1600000000) (hy : y.natAbs ≤ 1600000000) : (x * y).natAbs ≤ 4000000000000000000 := by
  rw [Int.natAbs_mul]
  exact Nat.le_trans (Nat.mul_le_mul hx hy) (Nat.le_of_ble_eq_true rfl)
theorem HK_step {R : Nat → Nat → Int} (hR : rb_ R) {k : Nat} (hk : k < 4) {s : Nat → Int64} {bf : Int64} (h : HK_ R k s) (hb : bf.toInt = dvk R k) (h0 : bf.toInt ≠ 0) : HK_ R (k + 1) (deI s k bf (5 - (k + 1))) := by
  intro i j hi hi5 hj hj5
  obtain ⟨i', rfl⟩ : ∃ i', i = k + 1 + i' := ⟨i - (k + 1), by omega⟩
  obtain ⟨j', rfl⟩ : ∃ j', j = k + 1 + j' := ⟨j - (k + 1), by omega⟩
  rw [deI_at s k bf (5 - (k + 1)) (Nat.le_refl _) i' j' (by omega) (by omega)]
  have f1 := h (k + 1 + i') (k + 1 + j') (by omega) hi5 (by omega) hj5
  have f2 := h k k (Nat.le_refl k) (by omega) (Nat.le_refl k) (by omega)
  have f3 := h (k + 1 + i') k (by omega) hi5 (Nat.le_refl k) (by omega)
  have f4 := h k (k + 1 + j') (Nat.le_refl k) (by omega) (by omega) hj5
  rw [show 5 * k + k = 6 * k by omega] at f2
  have sv := hR (k + 1 + i') hi5
  have sk := hR k (by omega)
  refine qx_ h0 ?_ ?_ ?_
  · rw [f1, f2]; exact mul_b (scv_b hR hk sv (by omega) hj5) (scv_b hR hk sk (Nat.le_refl k) (by omega))
  · rw [f3, f4]; exact mul_b (scv_b hR hk sv (Nat.le_refl k) (by omega)) (scv_b hR hk sk (by omega) hj5)
  · rw [f1, f2, f3, f4, hb]
    exact syl R (R (k + 1 + i')) (k + 1 + j') k hk
theorem HK_swp {R : Nat → Nat → Int} {k r : Nat} (hk : k < 4) (h1 : k ≤ r) (h2 : r < 5) {s : Nat → Int64} (hR : rb_ R) (h : HK_ R k s) (h0 : s (5 * r + k) ≠ 0) (sg : Int64) (hsg : sg = 1 ∨ sg = -1) :
    ∃ R', rb_ R' ∧ HK_ R' k (swp s k r) ∧ dvk R' k = dvk R k ∧ dvk R' (k + 1) ≠ 0 ∧ ((if r = k then sg else -sg) = 1 ∨ (if r = k then sg else -sg) = -1) ∧ (if r = k then sg else -sg).toInt * dvk R' 5 = sg.toInt * dvk R 5 := by
  have hz : (s (5 * r + k)).toInt ≠ 0 := fun e => h0 (Int64.toInt_inj.mp (by rw [e, i64_0]))
  by_cases e : r = k
  · subst e
    refine ⟨R, hR, ?_, rfl, ?_, ?_, ?_⟩
    · unfold swp; rw [if_pos rfl]; exact h
    · rw [dvk_s, ← h r r (Nat.le_refl r) h2 (Nat.le_refl r) h2]; exact hz
    · rw [if_pos rfl]; exact hsg
    · rw [if_pos rfl]
  · have hlt : k < r := by omega
    have hsw : ∀ i, i < 5 → sw k r i < 5 := fun i hi => by
      unfold sw
      split
      · exact h2
      · split <;> omega
    refine ⟨swR R k r, fun i hi => hR _ (hsw i hi), ?_, dvk_sw R hlt hk, ?_, ?_, ?_⟩
    · intro i j hi hi5 hj hj5
      unfold swp
      rw [if_neg e, exK_at s e h2 (by omega) 5 (Nat.le_refl 5) i j hi5 hj5, if_pos hj5, scv_sw R hlt hk]
      refine h (sw k r i) j ?_ (hsw i hi5) hj hj5
      unfold sw
      split
      · omega
      · split <;> omega
    · rw [dvk_s, scv_sw R hlt hk]
      show scv R k (R (sw k r k)) k ≠ 0
      rw [show sw k r k = r by unfold sw; rw [if_pos rfl], ← h r k h1 h2 (Nat.le_refl k) (by omega)]
      exact hz
    · rw [if_neg e]
      rcases hsg with rfl | rfl
      · exact Or.inr rfl
      · exact Or.inl (by decide)
    · rw [if_neg e, swR_D R hlt h2]
      rcases hsg with rfl | rfl
      · rw [show (-(1 : Int64)).toInt = -1 by decide, i64_1]; omega
      · rw [show (-(-1 : Int64)).toInt = 1 by decide, show (-1 : Int64).toInt = -1 by decide]; omega
theorem dtG_val : ∀ (n k : Nat) (R : Nat → Nat → Int) (s : Nat → Int64) (sg bf : Int64), k + n = 4 → rb_ R → HK_ R k s → bf.toInt = dvk R k → bf.toInt ≠ 0 → (sg = 1 ∨ sg = -1) → (dtG n k s sg bf).toInt = sg.toInt * dvk R 5
  | 0, k, R, s, sg, bf, hk, hR, h, hb, h0, hsg => by
    obtain rfl : k = 4 := by omega
    have f : (s 24).toInt = dvk R 5 := h 4 4 (by omega) (by omega) (by omega) (by omega)
    have b := dvk_b hR
    show (sg * s 24).toInt = _
    rw [Int64.toInt_mul, f]
    rcases hsg with rfl | rfl
    · rw [i64_1]; exact bmodL (by omega) (by omega)
    · rw [show (-1 : Int64).toInt = -1 by decide]; exact bmodL (by omega) (by omega)
  | n + 1, k, R, s, sg, bf, hk, hR, h, hb, h0, hsg => by
    rw [dtG_s]
    rcases frF_sp s k (5 - k) k (by omega) with ⟨a, b⟩ | ⟨a, b, d⟩
    · rw [if_pos a, i64_0]
      have e := zc R k (by omega) (fun i h1 h2 => by rw [← h i k h1 h2 (Nat.le_refl k) (by omega), b i h1 h2, i64_0])
      have e5 : dvk R 5 = 0 := by
        rcases Int.mul_eq_zero.mp e with g | g
        · rw [hb] at h0; exact absurd g h0
        · exact g
      rw [e5, Int.mul_zero]
    · rw [if_neg (by omega)]
      generalize frF s k (5 - k) k = r at *
      obtain ⟨R', r1, r2, r3, r4, r5, r6⟩ := HK_swp (by omega) a b hR h d sg hsg
      have hb' : bf.toInt = dvk R' k := by rw [r3]; exact hb
      have st := HK_step r1 (by omega) r2 hb' h0
      have q : (deI (swp s k r) k bf (5 - (k + 1)) (6 * k)).toInt = dvk R' (k + 1) := by
        rw [deI_ne _ _ _ _ _ (fun i' j' _ _ => by omega), show 6 * k = 5 * k + k by omega, r2 k k (Nat.le_refl k) (by omega) (Nat.le_refl k) (by omega)]
        rfl
      rw [← r6]
      exact dtG_val n (k + 1) R' _ _ _ (by omega) r1 st q (by rw [q]; exact r4) r5
def sqR (he : Nat → Int32) (c : Nat) : Nat → Nat → Int := fun i j => (sqB he c (5 * i + j)).toInt
theorem dW_val {he : Nat → Int32} {c : Nat} (h : rb_ (sqR he c)) : (dW he c).toInt = dvk (sqR he c) 5 := by
  have e := dtG_val 4 0 (sqR he c) (sqB he c) 1 1 rfl h (fun i j _ _ _ _ => rfl) (by rw [i64_1]; rfl) (by decide) (Or.inl rfl)
  rw [i64_1, Int.one_mul] at e
  exact e
theorem okB_of {he : Nat → Int32} (h : ∀ c, c < 6 → rb_ (sqR he c)) : okB he := fun c hc => by
  have b := dvk_b (h c hc)
  rw [dW_val (h c hc)]
  omega
