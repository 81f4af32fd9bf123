def cc_ (t : Nat) : Nat := if t = 0 then 5 else t - 1
theorem cc_s (t : Nat) : cc_ (t + 1) = t := by unfold cc_; rw [if_neg (by omega)]; omega
theorem cc_lt {t : Nat} (h : t < 6) : cc_ t < 6 := by unfold cc_; split <;> omega
theorem ceK_ne (eq : Nat → Int64) (r c : Nat) (pv dv : Int64) (q : Nat) : ∀ m, (∀ j, j < m → q ≠ 6 * r + j) → ceK eq r c pv dv m q = eq q
  | 0, _ => rfl
  | m + 1, h => by
    rw [ceK]
    unfold vp_updL
    rw [if_neg (h m (Nat.lt_succ_self m))]
    exact ceK_ne eq r c pv dv q m (fun j hj => h j (Nat.lt_succ_of_lt hj))
theorem ceK_at (eq : Nat → Int64) {r c : Nat} (pv dv : Int64) (hrc : r ≠ c) : ∀ m, m ≤ 6 → ∀ t, t < m → ceK eq r c pv dv m (6 * r + t) = (eq (6 * r + t) * pv - eq (6 * r + c) * eq (6 * c + t)) / dv
  | 0, _, t, h => absurd h (Nat.not_lt_zero t)
  | m + 1, hm, t, h => by
    rw [ceK]
    unfold vp_updL
    by_cases e : t = m
    · subst e
      rw [if_pos rfl, ceK_ne eq r c pv dv (6 * r + t) t (fun j hj => by omega), ceK_ne eq r c pv dv (6 * c + t) t (fun j hj => by omega)]
    · rw [if_neg (by omega)]
      exact ceK_at eq pv dv hrc m (by omega) t (by omega)
theorem cex_at (eq : Nat → Int64) {r c : Nat} {pv dv : Int64} (hd : 0 < dv.toInt) (hrc : r ≠ c) {t : Nat} (ht : t < 6) : ce eq r c pv dv (6 * r + t) = (eq (6 * r + t) * pv - eq (6 * r + c) * eq (6 * c + t)) / dv := by
  unfold ce
  rw [if_neg (fun h => by rw [Int64.le_iff_toInt_le, i64_0] at h; omega)]
  exact ceK_at eq pv dv hrc 6 (Nat.le_refl 6) t ht
theorem cex_ne (eq : Nat → Int64) {r r' c : Nat} {pv dv : Int64} (hr : r' ≠ r) {t : Nat} (ht : t < 6) : ce eq r c pv dv (6 * r' + t) = eq (6 * r' + t) := by
  unfold ce
  split
  · rfl
  · exact ceK_ne eq r c pv dv _ 6 (fun j hj => by omega)
theorem ccK_at (eq : Nat → Int64) {c : Nat} {pv dv : Int64} (hd : 0 < dv.toInt) (hc0 : 0 < c) (hc : c < 6) : ∀ m, m ≤ 5 → ∀ r t, 0 < r → r < 6 → t < 6 → ccK eq c pv dv m (6 * r + t) = if r ≤ m ∧ r ≠ c then (eq (6 * r + t) * pv - eq (6 * r + c) * eq (6 * c + t)) / dv else eq (6 * r + t)
  | 0, _, r, t, h0, _, _ => by rw [ccK, if_neg (fun h => by omega)]
  | m + 1, hm, r, t, h0, hr, ht => by
    have ih := ccK_at eq (pv := pv) hd hc0 hc m (by omega)
    rw [ccK]
    by_cases e : m + 1 = c
    · rw [if_pos e, ih r t h0 hr ht]
      by_cases g : r ≤ m ∧ r ≠ c
      · rw [if_pos g, if_pos ⟨by omega, g.2⟩]
      · rw [if_neg g, if_neg (fun h => g ⟨by omega, h.2⟩)]
    · rw [if_neg e]
      by_cases g : r = m + 1
      · subst g
        rw [cex_at _ hd e ht, ih (m + 1) t h0 hr ht, ih (m + 1) c h0 hr hc, if_neg (fun h => by omega), if_neg (fun h => by omega), if_pos ⟨Nat.le_refl _, e⟩]
        rw [ih c t hc0 hc ht, if_neg (fun h => h.2 rfl)]
      · rw [cex_ne _ g ht, ih r t h0 hr ht]
        by_cases g2 : r ≤ m ∧ r ≠ c
        · rw [if_pos g2, if_pos ⟨by omega, g2.2⟩]
        · rw [if_neg g2, if_neg (fun h => g2 ⟨by omega, h.2⟩)]
def st_ (R : Nat → Nat → Int) (k : Nat) (eq : Nat → Int64) : Prop := ∀ i t, i < 5 → t < 6 → (eq (6 * (i + 1) + t)).toInt = ev_ R k i (cc_ t)
theorem pw_le {k : Nat} (h : k ≤ 4) : (100 : Int) ^ k ≤ 100000000 := by
  have c : k = 0 ∨ k = 1 ∨ k = 2 ∨ k = 3 ∨ k = 4 := by omega
  rcases c with rfl | rfl | rfl | rfl | rfl <;> decide
theorem pw_le3 {k : Nat} (h : k ≤ 3) : (100 : Int) ^ k ≤ 1000000 := by
  have c : k = 0 ∨ k = 1 ∨ k = 2 ∨ k = 3 := by omega
  rcases c with rfl | rfl | rfl | rfl <;> decide
theorem bd_k {R : Nat → Nat → Int} {k : Nat} (h : dm_ R k) (hk : k < 5) {j : Nat} (hj : j < 6) : (ev_ R k k j).natAbs ≤ 10000000000 := by
  have a := (dm_dg h hk hj).1
  have b := (dm_dg h hk hj).2.1
  have c := h.2.2.1 k (Nat.le_refl k) hk
  have d := h.2.1
  have p := pw_le (show k ≤ 4 by omega)
  omega
theorem bd_i {R : Nat → Nat → Int} {k : Nat} (h : dm_ R k) (hk : k < 5) {i j : Nat} (hi : i < 5) (hn : i ≠ k) (hj : j < 6) : (ev_ R k i j).natAbs ≤ 100000000 := by
  have a := (dm_dg h hi hj).1
  have b := (dm_dg h hi hj).2.1
  have d := h.2.1
  have p := pw_le (show k ≤ 4 by omega)
  by_cases c : i < k
  · rw [ev_lo R (j := i) (i := i) c, if_pos rfl] at a b
    omega
  · have g := h.2.2.1 i (by omega) hi
    have p3 := pw_le3 (show k ≤ 3 by omega)
    omega
theorem mul_c {x y : Int} (hx : x.natAbs ≤ 100000000) (hy : y.natAbs ≤ 10000000000) : (x * y).natAbs ≤ 4000000000000000000 := by
  rw [Int.natAbs_mul]
  exact Nat.le_trans (Nat.mul_le_mul hx hy) (Nat.le_of_ble_eq_true rfl)
theorem st_step {R : Nat → Nat → Int} {k : Nat} (hk : k < 4) {eq : Nat → Int64} {dv : Int64} (h : st_ R k eq) (hd : dv.toInt = dvk R k) (hm : dm_ R k) : st_ R (k + 1) (ccK eq (k + 1) (eq (6 * (k + 1) + (k + 1))) dv 5) := by
  intro i t hi ht
  rw [ccK_at eq (by rw [hd]; exact hm.1) (by omega) (by omega) 5 (Nat.le_refl 5) (i + 1) t (by omega) (by omega) ht]
  by_cases c : i = k
  · subst c
    rw [if_neg (fun g => g.2 rfl), h i t hi ht, ev_same R hk]
  · rw [if_pos ⟨by omega, by omega⟩]
    have f1 := h i t hi ht
    have f2 := h k (k + 1) (by omega) (by omega)
    have f3 := h i (k + 1) hi (by omega)
    have f4 := h k t (by omega) ht
    rw [cc_s] at f2 f3
    refine qx_ (by rw [hd]; have := hm.1; omega) ?_ ?_ ?_
    · rw [f1, f2]; exact mul_c (bd_i hm (by omega) hi c (cc_lt ht)) (bd_k hm (by omega) (by omega))
    · rw [f3, f4]; exact mul_c (bd_i hm (by omega) hi c (by omega)) (bd_k hm (by omega) (cc_lt ht))
    · rw [f1, f2, f3, f4, hd]
      exact ev_step R hk (cc_ t) c
def dsI (R : Nat → Nat → Int) (e0 : Nat → Int64) (k : Nat) : Prop := st_ R k (ds e0 k).1 ∧ (ds e0 k).2.toInt = dvk R k ∧ dm_ R k
theorem pvt_v {R : Nat → Nat → Int} {e0 : Nat → Int64} {k : Nat} (hk : k < 5) (h : dsI R e0 k) : (pvt e0 k).toInt = dvk R (k + 1) := by
  unfold pvt
  rw [h.1 k (k + 1) hk (by omega), cc_s, ev_pv]
theorem ds_s (e0 : Nat → Int64) (k : Nat) : ds e0 (k + 1) = (ccK (ds e0 k).1 (k + 1) ((ds e0 k).1 (6 * (k + 1) + (k + 1))) (ds e0 k).2 5, (ds e0 k).1 (6 * (k + 1) + (k + 1))) := rfl
theorem dsI_s {R : Nat → Nat → Int} {e0 : Nat → Int64} {k : Nat} (hk : k < 4) (h : dsI R e0 k) (hp : 0 < dvk R (k + 1)) : dsI R e0 (k + 1) := by
  refine ⟨?_, ?_, dm_step hk h.2.2 hp⟩
  · rw [ds_s]; exact st_step hk h.1 h.2.1 h.2.2
  · exact pvt_v (by omega) h
theorem i64_lt {x : Int64} : 0 < x ↔ 0 < x.toInt := by rw [Int64.lt_iff_toInt_lt, i64_0]
theorem all_p {R : Nat → Nat → Int} {e0 : Nat → Int64} (h0 : dsI R e0 0) (h5 : dvk R 5 ≠ 0) : ∀ k, k < 5 → dsI R e0 k ∧ 0 < dvk R (k + 1)
  | 0, _ => ⟨h0, by
    have a := dm_ge (show 0 < 5 by omega) h0.2.2
    have b : dvk R (0 + 1) ≠ 0 := fun e => h5 (dm_z (by omega) h0.2.2 e)
    omega⟩
  | k + 1, hk => by
    obtain ⟨a, b⟩ := all_p h0 h5 k (by omega)
    have c := dsI_s (by omega) a b
    refine ⟨c, ?_⟩
    have d := dm_ge hk c.2.2
    have e : dvk R (k + 1 + 1) ≠ 0 := fun e => h5 (dm_z hk c.2.2 e)
    omega
theorem all_q {R : Nat → Nat → Int} {e0 : Nat → Int64} (h0 : dsI R e0 0) (hp : ∀ k, k < 5 → 0 < pvt e0 k) : ∀ k, k < 5 → dsI R e0 k
  | 0, _ => h0
  | k + 1, hk => by
    have a := all_q h0 hp k (by omega)
    have b := i64_lt.mp (hp k (by omega))
    rw [pvt_v (by omega) a] at b
    exact dsI_s (by omega) a b
theorem piv_iff {R : Nat → Nat → Int} {e0 : Nat → Int64} (h0 : dsI R e0 0) : (∀ k, k < 5 → 0 < pvt e0 k) ↔ dvk R 5 ≠ 0 := by
  constructor
  · intro h
    have a := all_q h0 h 4 (by omega)
    have b := i64_lt.mp (h 4 (by omega))
    rw [pvt_v (by omega) a] at b
    exact Int.ne_of_gt b
  · intro h k hk
    obtain ⟨a, b⟩ := all_p h0 h k hk
    rw [i64_lt, pvt_v hk a]
    exact b
theorem ds_1 (e0 : Nat → Int64) (k : Nat) : (ds e0 (k + 1)).1 = ccK (ds e0 k).1 (k + 1) ((ds e0 k).1 (6 * (k + 1) + (k + 1))) (ds e0 k).2 5 := rfl
theorem ds_2 (e0 : Nat → Int64) (k : Nat) : (ds e0 (k + 1)).2 = pvt e0 k := rfl
theorem fin_e {R : Nat → Nat → Int} {E : Nat → Int64} {dv : Int64} (s : st_ R 4 E) (d : dv.toInt = dvk R 4) (m : dm_ R 4) (b : 0 < dvk R 5) {i : Nat} (hi : i < 5) :
    (ccK E 5 (E (6 * 5 + 5)) dv 5 (6 * (i + 1) + 0)).toInt = dR_ R i ∧ 0 ≤ dR_ R i := by
  rw [ccK_at E (by rw [d]; exact m.1) (by omega) (by omega) 5 (Nat.le_refl 5) (i + 1) 0 (by omega) (by omega) (by omega)]
  by_cases c : i = 4
  · subst c
    rw [if_neg (fun g => g.2 rfl), s 4 0 (by omega) (by omega)]
    have e : ev_ R 4 4 (cc_ 0) = dR_ R 4 := ev_row R (show 4 ≤ 5 by omega)
    rw [e]
    refine ⟨rfl, ?_⟩
    rw [← e]
    exact m.2.2.2.2.1 4 (by omega)
  · rw [if_pos ⟨by omega, by omega⟩]
    have f1 : (E (6 * (i + 1) + 0)).toInt = ev_ R 4 i 5 := s i 0 hi (by omega)
    have f2 : (E (6 * 5 + 5)).toInt = ev_ R 4 4 4 := s 4 5 (by omega) (by omega)
    have f3 : (E (6 * (i + 1) + 5)).toInt = ev_ R 4 i 4 := s i 5 hi (by omega)
    have f4 : (E (6 * 5 + 0)).toInt = ev_ R 4 4 5 := s 4 0 (by omega) (by omega)
    have el := ev_last R i (by omega)
    constructor
    · refine qx_ (by rw [d]; have := m.1; omega) ?_ ?_ ?_
      · rw [f1, f2]; exact mul_c (bd_i m (by omega) hi c (by omega)) (bd_k m (by omega) (by omega))
      · rw [f3, f4]; exact mul_c (bd_i m (by omega) hi c (by omega)) (bd_k m (by omega) (by omega))
      · rw [f1, f2, f3, f4, d]
        exact el
    · refine cpos m.1 ?_
      rw [← el]
      have q1 := Int.mul_nonneg (m.2.2.2.2.1 i hi) (show 0 ≤ ev_ R 4 4 4 by rw [ev_pv]; exact Int.le_of_lt b)
      have q2 := Int.mul_nonneg_of_nonpos_of_nonpos (m.2.2.2.1 i 4 hi (by omega) (fun e => c e.symm)) (show -(ev_ R 4 4 5) ≤ 0 by have := m.2.2.2.2.1 4 (by omega); omega)
      rw [Int.mul_neg] at q2
      omega
theorem fin_g {R : Nat → Nat → Int} {e0 : Nat → Int64} {k : Nat} (hk : k = 4) (a : dsI R e0 k) (b : 0 < dvk R (k + 1)) : (ds e0 (k + 1)).2.toInt = dvk R (k + 1) ∧ ∀ i, i < 5 → ((ds e0 (k + 1)).1 (6 * (i + 1) + 0)).toInt = dR_ R i ∧ 0 ≤ dR_ R i := by
  refine ⟨by rw [ds_2]; exact pvt_v (by omega) a, fun i hi => ?_⟩
  obtain ⟨s, d, m⟩ := a
  rw [ds_1]
  generalize (ds e0 k).1 = E at s ⊢
  generalize (ds e0 k).2 = dv at d ⊢
  subst hk
  exact fin_e s d m b hi
theorem fin_v {R : Nat → Nat → Int} {e0 : Nat → Int64} (h0 : dsI R e0 0) (h5 : dvk R 5 ≠ 0) : (ds e0 5).2.toInt = dvk R 5 ∧ 0 < dvk R 5 ∧ ∀ i, i < 5 → ((ds e0 5).1 (6 * (i + 1) + 0)).toInt = dR_ R i ∧ 0 ≤ dR_ R i := by
  obtain ⟨a, b⟩ := all_p h0 h5 4 (by omega)
  have g := fin_g rfl a b
  exact ⟨g.1, b, g.2⟩
