def ep_ (i : Nat) : Nat → Int := fun t => if t = i then -1 else 0
theorem ep_i (i : Nat) : ep_ i i = -1 := by unfold ep_; rw [if_pos rfl]
theorem ep_n {i t : Nat} (h : t ≠ i) : ep_ i t = 0 := by unfold ep_; rw [if_neg h]
def ev_ (R : Nat → Nat → Int) (k i j : Nat) : Int := if j < k then (if i = j then dvk R k else 0) else scv R k (if i < k then ep_ i else R i) j
theorem ev_hi (R : Nat → Nat → Int) {k i j : Nat} (h : k ≤ j) : ev_ R k i j = scv R k (if i < k then ep_ i else R i) j := by unfold ev_; rw [if_neg (by omega)]
theorem ev_lo (R : Nat → Nat → Int) {k i j : Nat} (h : j < k) : ev_ R k i j = if i = j then dvk R k else 0 := by unfold ev_; rw [if_pos h]
theorem ev_row (R : Nat → Nat → Int) {k j : Nat} (h : k ≤ j) : ev_ R k k j = scv R k (R k) j := by rw [ev_hi R h, if_neg (Nat.lt_irrefl k)]
theorem ev_pv (R : Nat → Nat → Int) (k : Nat) : ev_ R k k k = dvk R (k + 1) := ev_row R (Nat.le_refl k)
theorem ev_step (R : Nat → Nat → Int) {k : Nat} (hk : k < 4) {i : Nat} (j : Nat) (hi : i ≠ k) : ev_ R k i j * ev_ R k k k - ev_ R k i k * ev_ R k k j = dvk R k * ev_ R (k + 1) i j := by
  rcases Nat.lt_trichotomy j k with h | h | h
  · rw [ev_lo R h, ev_lo R (k := k) (i := k) h, if_neg (show ¬ k = j by omega), Int.mul_zero, Int.sub_zero, ev_pv, ev_lo R (show j < k + 1 by omega)]
    split
    · rfl
    · rw [Int.zero_mul, Int.mul_zero]
  · subst h
    rw [ev_lo R (show j < j + 1 by omega), if_neg hi, Int.mul_zero, Int.sub_self]
  · rw [ev_hi R (Nat.le_of_lt h), ev_row R (Nat.le_refl k), ev_hi R (Nat.le_refl k), ev_row R (Nat.le_of_lt h), ev_hi R (show k + 1 ≤ j from h)]
    rw [show (if i < k + 1 then ep_ i else R i) = (if i < k then ep_ i else R i) by
      by_cases c : i < k
      · rw [if_pos c, if_pos (by omega)]
      · rw [if_neg c, if_neg (by omega)]]
    exact syl R _ j k hk
theorem eps_ (R : Nat → Nat → Int) {j : Nat} : ∀ k, k < 4 → k < j → scv R (k + 1) (ep_ k) j = scv R k (R k) j
  | 0, _, h => by
    show R 0 0 * ep_ 0 j - R 0 j * ep_ 0 0 = R 0 j
    rw [ep_i, ep_n (by omega)]
    omega
  | 1, _, h => by
    show mn_3 (R 0) (R 1) (ep_ 1) 0 1 j = mn_2 (R 0) (R 1) 0 j
    rw [lr_3, ep_i, ep_n (by omega), ep_n (by omega)]
    omega
  | 2, _, h => by
    show mn_4 (R 0) (R 1) (R 2) (ep_ 2) 0 1 2 j = mn_3 (R 0) (R 1) (R 2) 0 1 j
    rw [lr_4, ep_i, ep_n (t := j) (by omega), ep_n (t := 1) (by omega), ep_n (t := 0) (by omega)]
    omega
  | 3, _, h => by
    show mn_5 (R 0) (R 1) (R 2) (R 3) (ep_ 3) 0 1 2 3 j = mn_4 (R 0) (R 1) (R 2) (R 3) 0 1 2 j
    rw [lr_5, ep_i, ep_n (t := j) (by omega), ep_n (t := 2) (by omega), ep_n (t := 1) (by omega), ep_n (t := 0) (by omega)]
    omega
  | k + 4, h, _ => absurd h (by omega)
theorem ev_same (R : Nat → Nat → Int) {k : Nat} (hk : k < 4) (j : Nat) : ev_ R (k + 1) k j = ev_ R k k j := by
  rcases Nat.lt_trichotomy j k with h | h | h
  · rw [ev_lo R (show j < k + 1 by omega), ev_lo R h, if_neg (show ¬ k = j by omega), if_neg (show ¬ k = j by omega)]
  · subst h
    rw [ev_lo R (show j < j + 1 by omega), if_pos rfl, ev_pv]
  · rw [ev_hi R (show k + 1 ≤ j from h), if_pos (Nat.lt_succ_self k), ev_row R (Nat.le_of_lt h)]
    exact eps_ R k hk h
/-- what the company's numerator is -/
def dR_ (R : Nat → Nat → Int) : Nat → Int
  | 0 => mn_5 (R 0) (R 1) (R 2) (R 3) (R 4) 5 1 2 3 4
  | 1 => mn_5 (R 0) (R 1) (R 2) (R 3) (R 4) 0 5 2 3 4
  | 2 => mn_5 (R 0) (R 1) (R 2) (R 3) (R 4) 0 1 5 3 4
  | 3 => mn_5 (R 0) (R 1) (R 2) (R 3) (R 4) 0 1 2 5 4
  | _ => mn_5 (R 0) (R 1) (R 2) (R 3) (R 4) 0 1 2 3 5
theorem ce_0 (R : Nat → Nat → Int) {j : Nat} (h : 3 < j) : scv R 4 (ep_ 0) j = - mn_4 (R 0) (R 1) (R 2) (R 3) 1 2 3 j := by
  show mn_5 (R 0) (R 1) (R 2) (R 3) (ep_ 0) 0 1 2 3 j = _
  rw [lr_5, ep_i, ep_n (t := j) (by omega), ep_n (t := 1) (by omega), ep_n (t := 2) (by omega), ep_n (t := 3) (by omega)]
  omega
theorem ce_1 (R : Nat → Nat → Int) {j : Nat} (h : 3 < j) : scv R 4 (ep_ 1) j = mn_4 (R 0) (R 1) (R 2) (R 3) 0 2 3 j := by
  show mn_5 (R 0) (R 1) (R 2) (R 3) (ep_ 1) 0 1 2 3 j = _
  rw [lr_5, ep_i, ep_n (t := j) (by omega), ep_n (t := 0) (by omega), ep_n (t := 2) (by omega), ep_n (t := 3) (by omega)]
  omega
theorem ce_2 (R : Nat → Nat → Int) {j : Nat} (h : 3 < j) : scv R 4 (ep_ 2) j = - mn_4 (R 0) (R 1) (R 2) (R 3) 0 1 3 j := by
  show mn_5 (R 0) (R 1) (R 2) (R 3) (ep_ 2) 0 1 2 3 j = _
  rw [lr_5, ep_i, ep_n (t := j) (by omega), ep_n (t := 0) (by omega), ep_n (t := 1) (by omega), ep_n (t := 3) (by omega)]
  omega
theorem ce_3 (R : Nat → Nat → Int) {j : Nat} (h : 3 < j) : scv R 4 (ep_ 3) j = mn_4 (R 0) (R 1) (R 2) (R 3) 0 1 2 j := by
  show mn_5 (R 0) (R 1) (R 2) (R 3) (ep_ 3) 0 1 2 3 j = _
  rw [lr_5, ep_i, ep_n (t := j) (by omega), ep_n (t := 0) (by omega), ep_n (t := 1) (by omega), ep_n (t := 2) (by omega)]
  omega
theorem ev_last (R : Nat → Nat → Int) : ∀ i, i < 4 → ev_ R 4 i 5 * ev_ R 4 4 4 - ev_ R 4 i 4 * ev_ R 4 4 5 = dvk R 4 * dR_ R i
  | 0, _ => by
    have h := cs_0 (R 0) (R 1) (R 2) (R 3) (R 4)
    rw [pe_4123, pe_5123] at h
    rw [ev_hi R (k := 4) (i := 0) (j := 5) (by omega), ev_hi R (k := 4) (i := 0) (j := 4) (by omega), ev_row R (k := 4) (j := 4) (by omega), ev_row R (k := 4) (j := 5) (by omega), if_pos (show 0 < 4 by omega), ce_0 R (by omega), ce_0 R (by omega)]
    exact h
  | 1, _ => by
    have h := cs_1 (R 0) (R 1) (R 2) (R 3) (R 4)
    rw [pe_0423, pe_0523] at h
    rw [ev_hi R (k := 4) (i := 1) (j := 5) (by omega), ev_hi R (k := 4) (i := 1) (j := 4) (by omega), ev_row R (k := 4) (j := 4) (by omega), ev_row R (k := 4) (j := 5) (by omega), if_pos (show 1 < 4 by omega), ce_1 R (by omega), ce_1 R (by omega)]
    exact h
  | 2, _ => by
    have h := cs_2 (R 0) (R 1) (R 2) (R 3) (R 4)
    rw [pe_0143, pe_0153] at h
    rw [ev_hi R (k := 4) (i := 2) (j := 5) (by omega), ev_hi R (k := 4) (i := 2) (j := 4) (by omega), ev_row R (k := 4) (j := 4) (by omega), ev_row R (k := 4) (j := 5) (by omega), if_pos (show 2 < 4 by omega), ce_2 R (by omega), ce_2 R (by omega)]
    exact h
  | 3, _ => by
    have h := cs_3 (R 0) (R 1) (R 2) (R 3) (R 4)
    rw [ev_hi R (k := 4) (i := 3) (j := 5) (by omega), ev_hi R (k := 4) (i := 3) (j := 4) (by omega), ev_row R (k := 4) (j := 4) (by omega), ev_row R (k := 4) (j := 5) (by omega), if_pos (show 3 < 4 by omega), ce_3 R (by omega), ce_3 R (by omega)]
    exact h
  | i + 4, h => absurd h (by omega)
/-- the rows are dominated by their diagonals -/
def dm_ (R : Nat → Nat → Int) (k : Nat) : Prop :=
  0 < dvk R k ∧ dvk R k ≤ 100 ^ k ∧ (∀ i, k ≤ i → i < 5 → ev_ R k i i ≤ 100 * dvk R k) ∧ (∀ i j, i < 5 → j < 5 → j ≠ i → ev_ R k i j ≤ 0) ∧ (∀ i, i < 5 → 0 ≤ ev_ R k i 5) ∧
  (∀ i, i < 5 → 0 ≤ ev_ R k i 0 + ev_ R k i 1 + ev_ R k i 2 + ev_ R k i 3 + ev_ R k i 4 - ev_ R k i 5)
theorem dm_dg {R : Nat → Nat → Int} {k : Nat} (h : dm_ R k) {i : Nat} (hi : i < 5) {j : Nat} (hj : j < 6) : (ev_ R k i j).natAbs ≤ (ev_ R k i i).natAbs ∧ 0 ≤ ev_ R k i i ∧ (ev_ R k i i = 0 → ev_ R k i j = 0) := by
  obtain ⟨h1, h2, h3, h4, h5, h6⟩ := h
  have s := h6 i hi
  have b := h5 i hi
  have o : ∀ t, t < 5 → t ≠ i → ev_ R k i t ≤ 0 := fun t ht hn => h4 i t hi ht hn
  have c : i = 0 ∨ i = 1 ∨ i = 2 ∨ i = 3 ∨ i = 4 := by omega
  have cj : j = 0 ∨ j = 1 ∨ j = 2 ∨ j = 3 ∨ j = 4 ∨ j = 5 := by omega
  rcases c with rfl | rfl | rfl | rfl | rfl
  · have a1 := o 1 (by omega) (by omega)
    have a2 := o 2 (by omega) (by omega)
    have a3 := o 3 (by omega) (by omega)
    have a4 := o 4 (by omega) (by omega)
    rcases cj with rfl | rfl | rfl | rfl | rfl | rfl <;> omega
  · have a1 := o 0 (by omega) (by omega)
    have a2 := o 2 (by omega) (by omega)
    have a3 := o 3 (by omega) (by omega)
    have a4 := o 4 (by omega) (by omega)
    rcases cj with rfl | rfl | rfl | rfl | rfl | rfl <;> omega
  · have a1 := o 0 (by omega) (by omega)
    have a2 := o 1 (by omega) (by omega)
    have a3 := o 3 (by omega) (by omega)
    have a4 := o 4 (by omega) (by omega)
    rcases cj with rfl | rfl | rfl | rfl | rfl | rfl <;> omega
  · have a1 := o 0 (by omega) (by omega)
    have a2 := o 1 (by omega) (by omega)
    have a3 := o 2 (by omega) (by omega)
    have a4 := o 4 (by omega) (by omega)
    rcases cj with rfl | rfl | rfl | rfl | rfl | rfl <;> omega
  · have a1 := o 0 (by omega) (by omega)
    have a2 := o 1 (by omega) (by omega)
    have a3 := o 2 (by omega) (by omega)
    have a4 := o 3 (by omega) (by omega)
    rcases cj with rfl | rfl | rfl | rfl | rfl | rfl <;> omega
theorem cpos {d x : Int} (hd : 0 < d) (h : 0 ≤ d * x) : 0 ≤ x := by
  rcases Int.lt_or_le x 0 with c | c
  · exfalso
    have := Int.mul_neg_of_pos_of_neg hd c
    omega
  · exact c
theorem cneg {d x : Int} (hd : 0 < d) (h : d * x ≤ 0) : x ≤ 0 := by
  rcases Int.lt_or_le 0 x with c | c
  · exfalso
    have := Int.mul_pos hd c
    omega
  · exact c
theorem p100 (k : Nat) : (100 : Int) ^ (k + 1) = 100 * 100 ^ k := by rw [Int.pow_succ, Int.mul_comm]
theorem dm_step {R : Nat → Nat → Int} {k : Nat} (hk : k < 4) (h : dm_ R k) (hp : 0 < dvk R (k + 1)) : dm_ R (k + 1) := by
  have hh := h
  obtain ⟨h1, h2, h3, h4, h5, h6⟩ := h
  have st : ∀ i j, i ≠ k → dvk R k * ev_ R (k + 1) i j = ev_ R k i j * dvk R (k + 1) - ev_ R k i k * ev_ R k k j := fun i j hi => by rw [← ev_step R hk j hi, ev_pv]
  have pk := h3 k (Nat.le_refl k) (by omega)
  rw [ev_pv] at pk
  have off : ∀ i, i < 5 → i ≠ k → ev_ R k i k ≤ 0 := fun i hi hn => h4 i k hi (by omega) (fun e => hn e.symm)
  refine ⟨hp, ?_, ?_, ?_, ?_, ?_⟩
  · rw [p100]
    omega
  · intro i hi hi5
    have e := st i i (by omega)
    have q1 := Int.mul_nonneg_of_nonpos_of_nonpos (off i hi5 (by omega)) (h4 k i (by omega) hi5 (by omega))
    have q2 := Int.mul_le_mul_of_nonneg_right (h3 i (by omega) hi5) (Int.le_of_lt hp)
    have g : dvk R k * (ev_ R (k + 1) i i - 100 * dvk R (k + 1)) ≤ 0 := by
      rw [Int.mul_sub, e]
      have : dvk R k * (100 * dvk R (k + 1)) = 100 * dvk R k * dvk R (k + 1) := by rw [Int.mul_comm 100 (dvk R k), Int.mul_assoc]
      omega
    have := cneg h1 g
    omega
  · intro i j hi hj hn
    by_cases c : i = k
    · subst c
      rw [ev_same R hk]
      exact h4 i j hi hj hn
    · refine cneg h1 ?_
      rw [st i j c]
      have q0 := off i hi c
      by_cases cj : j = k
      · subst cj
        rw [ev_pv, Int.sub_self]
        exact Int.le_refl 0
      · have q1 := Int.mul_nonneg_of_nonpos_of_nonpos q0 (h4 k j (by omega) hj cj)
        have q2 := Int.mul_nonneg_of_nonpos_of_nonpos (h4 i j hi hj hn) (show -(dvk R (k + 1)) ≤ 0 by omega)
        rw [Int.mul_neg] at q2
        omega
  · intro i hi
    by_cases c : i = k
    · subst c
      rw [ev_same R hk]
      exact h5 i hi
    · refine cpos h1 ?_
      rw [st i 5 c]
      have q1 := Int.mul_nonneg_of_nonpos_of_nonpos (off i hi c) (show -(ev_ R k k 5) ≤ 0 by have := h5 k (by omega); omega)
      rw [Int.mul_neg] at q1
      have q2 := Int.mul_nonneg (h5 i hi) (Int.le_of_lt hp)
      omega
  · intro i hi
    by_cases c : i = k
    · subst c
      rw [ev_same R hk, ev_same R hk, ev_same R hk, ev_same R hk, ev_same R hk, ev_same R hk]
      exact h6 i hi
    · refine cpos h1 ?_
      rw [Int.mul_sub, Int.mul_add, Int.mul_add, Int.mul_add, Int.mul_add, st i 0 c, st i 1 c, st i 2 c, st i 3 c, st i 4 c, st i 5 c]
      have q1 := Int.mul_nonneg (h6 i hi) (Int.le_of_lt hp)
      have q2 := Int.mul_nonneg_of_nonpos_of_nonpos (off i hi c) (show -(ev_ R k k 0 + ev_ R k k 1 + ev_ R k k 2 + ev_ R k k 3 + ev_ R k k 4 - ev_ R k k 5) ≤ 0 by have := h6 k (by omega); omega)
      rw [Int.mul_neg, Int.mul_sub, Int.mul_add, Int.mul_add, Int.mul_add, Int.mul_add] at q2
      rw [Int.sub_mul, Int.add_mul, Int.add_mul, Int.add_mul, Int.add_mul] at q1
      omega
/-- a pivot of 0 leaves no one solution -/
theorem dm_z {R : Nat → Nat → Int} {k : Nat} (hk : k < 5) (h : dm_ R k) (hp : dvk R (k + 1) = 0) : dvk R 5 = 0 := by
  have h1 := h.1
  have e := zr R k hk (fun j hj hj5 => by
    rw [← ev_row R hj]
    exact (dm_dg h hk (by omega)).2.2 (by rw [ev_pv]; exact hp))
  rcases Int.mul_eq_zero.mp e with g | g
  · omega
  · exact g
theorem dm_ge {R : Nat → Nat → Int} {k : Nat} (hk : k < 5) (h : dm_ R k) : 0 ≤ dvk R (k + 1) := by
  have := (dm_dg h hk (j := 0) (by omega)).2.1
  rw [ev_pv] at this
  exact this
