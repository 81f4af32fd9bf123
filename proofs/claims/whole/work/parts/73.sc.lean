def scv (R : Nat → Nat → Int) : Nat → (Nat → Int) → Nat → Int
  | 0, v, j => v j
  | 1, v, j => mn_2 (R 0) v 0 j
  | 2, v, j => mn_3 (R 0) (R 1) v 0 1 j
  | 3, v, j => mn_4 (R 0) (R 1) (R 2) v 0 1 2 j
  | _, v, j => mn_5 (R 0) (R 1) (R 2) (R 3) v 0 1 2 3 j
def dvk (R : Nat → Nat → Int) : Nat → Int | 0 => 1 | k + 1 => scv R k (R k) k
theorem dvk_s (R : Nat → Nat → Int) (k : Nat) : dvk R (k + 1) = scv R k (R k) k := rfl
theorem syl (R : Nat → Nat → Int) (v : Nat → Int) (j : Nat) : ∀ k, k < 4 → scv R k v j * scv R k (R k) k - scv R k v k * scv R k (R k) j = dvk R k * scv R (k + 1) v j
  | 0, _ => by
    show v j * R 0 0 - v 0 * R 0 j = 1 * mn_2 (R 0) v 0 j
    unfold mn_2
    grind
  | 1, _ => sy_1 (R 0) (R 1) v 0 1 j
  | 2, _ => sy_2 (R 0) (R 1) (R 2) v 0 1 2 j
  | 3, _ => sy_3 (R 0) (R 1) (R 2) (R 3) v 0 1 2 3 j
  | k + 4, h => absurd h (by omega)
theorem zr_1 (a b c d e : Nat → Int) : a 0 * mn_5 a b c d e 0 1 2 3 4 = mn_2 a b 0 1 * mn_4 a c d e 0 2 3 4 - mn_2 a b 0 2 * mn_4 a c d e 0 1 3 4 + mn_2 a b 0 3 * mn_4 a c d e 0 1 2 4 - mn_2 a b 0 4 * mn_4 a c d e 0 1 2 3 := by
  simp only [mn_5, mn_4]
  unfold mn_2
  generalize mn_3 c d e = X
  grind
theorem zr_2 (a b c d e : Nat → Int) : mn_2 a b 0 1 * mn_5 a b c d e 0 1 2 3 4 = mn_3 a b c 0 1 2 * mn_4 a b d e 0 1 3 4 - mn_3 a b c 0 1 3 * mn_4 a b d e 0 1 2 4 + mn_3 a b c 0 1 4 * mn_4 a b d e 0 1 2 3 := by
  simp only [mn_5, mn_4, mn_3]
  generalize mn_2 d e = X
  unfold mn_2
  grind
theorem zr (R : Nat → Nat → Int) : ∀ k, k < 5 → (∀ j, k ≤ j → j < 5 → scv R k (R k) j = 0) → dvk R k * dvk R 5 = 0
  | 0, _, h => by
    have h0 : R 0 0 = 0 := h 0 (by omega) (by omega)
    have h1 : R 0 1 = 0 := h 1 (by omega) (by omega)
    have h2 : R 0 2 = 0 := h 2 (by omega) (by omega)
    have h3 : R 0 3 = 0 := h 3 (by omega) (by omega)
    have h4 : R 0 4 = 0 := h 4 (by omega) (by omega)
    show 1 * mn_5 (R 0) (R 1) (R 2) (R 3) (R 4) 0 1 2 3 4 = 0
    rw [mn_5, h0, h1, h2, h3, h4]
    simp only [Int.zero_mul, Int.mul_zero, Int.sub_zero, Int.add_zero]
  | 1, _, h => by
    have h1 : mn_2 (R 0) (R 1) 0 1 = 0 := h 1 (by omega) (by omega)
    have h2 : mn_2 (R 0) (R 1) 0 2 = 0 := h 2 (by omega) (by omega)
    have h3 : mn_2 (R 0) (R 1) 0 3 = 0 := h 3 (by omega) (by omega)
    have h4 : mn_2 (R 0) (R 1) 0 4 = 0 := h 4 (by omega) (by omega)
    show R 0 0 * mn_5 (R 0) (R 1) (R 2) (R 3) (R 4) 0 1 2 3 4 = 0
    rw [zr_1, h1, h2, h3, h4]
    simp only [Int.zero_mul, Int.mul_zero, Int.sub_zero, Int.add_zero]
  | 2, _, h => by
    have h2 : mn_3 (R 0) (R 1) (R 2) 0 1 2 = 0 := h 2 (by omega) (by omega)
    have h3 : mn_3 (R 0) (R 1) (R 2) 0 1 3 = 0 := h 3 (by omega) (by omega)
    have h4 : mn_3 (R 0) (R 1) (R 2) 0 1 4 = 0 := h 4 (by omega) (by omega)
    show mn_2 (R 0) (R 1) 0 1 * mn_5 (R 0) (R 1) (R 2) (R 3) (R 4) 0 1 2 3 4 = 0
    rw [zr_2, h2, h3, h4]
    simp only [Int.zero_mul, Int.mul_zero, Int.sub_zero, Int.add_zero]
  | 3, _, h => by
    have e := syl R (R 4) 4 3 (by omega)
    rw [h 3 (by omega) (by omega), h 4 (by omega) (by omega), Int.mul_zero, Int.mul_zero] at e
    exact e.symm
  | 4, _, h => by
    have h4 : dvk R 5 = 0 := h 4 (by omega) (by omega)
    rw [h4, Int.mul_zero]
  | k + 5, h, _ => absurd h (by omega)
theorem zc_1 (a b c d e : Nat → Int) : a 0 * mn_5 a b c d e 0 1 2 3 4 = mn_2 a b 0 1 * mn_4 a c d e 0 2 3 4 - mn_2 a c 0 1 * mn_4 a b d e 0 2 3 4 + mn_2 a d 0 1 * mn_4 a b c e 0 2 3 4 - mn_2 a e 0 1 * mn_4 a b c d 0 2 3 4 := by
  unfold mn_5 mn_4 mn_3 mn_2
  grind
theorem zc_2 (a b c d e : Nat → Int) : mn_2 a b 0 1 * mn_5 a b c d e 0 1 2 3 4 = mn_3 a b c 0 1 2 * mn_4 a b d e 0 1 3 4 - mn_3 a b d 0 1 2 * mn_4 a b c e 0 1 3 4 + mn_3 a b e 0 1 2 * mn_4 a b c d 0 1 3 4 := by
  unfold mn_5 mn_4 mn_3 mn_2
  grind
theorem zc_0 (a b c d e : Nat → Int) (h0 : a 0 = 0) (h1 : b 0 = 0) (h2 : c 0 = 0) (h3 : d 0 = 0) (h4 : e 0 = 0) : mn_5 a b c d e 0 1 2 3 4 = 0 := by
  have g2 : ∀ x, mn_2 d e 0 x = 0 := fun x => by rw [mn_2, h3, h4]; simp
  have g3 : ∀ x y, mn_3 c d e 0 x y = 0 := fun x y => by rw [mn_3, h2, g2, g2]; simp
  have g4 : ∀ x y z, mn_4 b c d e 0 x y z = 0 := fun x y z => by rw [mn_4, h1, g3, g3, g3]; simp
  rw [mn_5, h0, g4, g4, g4, g4]; simp
theorem zc (R : Nat → Nat → Int) : ∀ k, k < 4 → (∀ i, k ≤ i → i < 5 → scv R k (R i) k = 0) → dvk R k * dvk R 5 = 0
  | 0, _, h => by
    have e := zc_0 (R 0) (R 1) (R 2) (R 3) (R 4) (h 0 (by omega) (by omega)) (h 1 (by omega) (by omega)) (h 2 (by omega) (by omega)) (h 3 (by omega) (by omega)) (h 4 (by omega) (by omega))
    show 1 * mn_5 (R 0) (R 1) (R 2) (R 3) (R 4) 0 1 2 3 4 = 0
    rw [e, Int.mul_zero]
  | 1, _, h => by
    have h1 : mn_2 (R 0) (R 1) 0 1 = 0 := h 1 (by omega) (by omega)
    have h2 : mn_2 (R 0) (R 2) 0 1 = 0 := h 2 (by omega) (by omega)
    have h3 : mn_2 (R 0) (R 3) 0 1 = 0 := h 3 (by omega) (by omega)
    have h4 : mn_2 (R 0) (R 4) 0 1 = 0 := h 4 (by omega) (by omega)
    show R 0 0 * mn_5 (R 0) (R 1) (R 2) (R 3) (R 4) 0 1 2 3 4 = 0
    rw [zc_1, h1, h2, h3, h4]
    simp only [Int.zero_mul, Int.mul_zero, Int.sub_zero, Int.add_zero]
  | 2, _, h => by
    have h2 : mn_3 (R 0) (R 1) (R 2) 0 1 2 = 0 := h 2 (by omega) (by omega)
    have h3 : mn_3 (R 0) (R 1) (R 3) 0 1 2 = 0 := h 3 (by omega) (by omega)
    have h4 : mn_3 (R 0) (R 1) (R 4) 0 1 2 = 0 := h 4 (by omega) (by omega)
    show mn_2 (R 0) (R 1) 0 1 * mn_5 (R 0) (R 1) (R 2) (R 3) (R 4) 0 1 2 3 4 = 0
    rw [zc_2, h2, h3, h4]
    simp only [Int.zero_mul, Int.mul_zero, Int.sub_zero, Int.add_zero]
  | 3, _, h => by
    have e := syl R (R 4) 4 3 (by omega)
    rw [h 3 (by omega) (by omega), h 4 (by omega) (by omega), Int.mul_zero, Int.zero_mul] at e
    exact e.symm
  | k + 4, h, _ => absurd h (by omega)
/-- rows exchanged -/
theorem xr_2 (a b : Nat → Int) (i j : Nat) : mn_2 b a i j = - mn_2 a b i j := by
  unfold mn_2
  grind
theorem xr_3a (a b c : Nat → Int) (i j k : Nat) : mn_3 b a c i j k = - mn_3 a b c i j k := by
  unfold mn_3 mn_2
  grind
theorem xr_3b (a b c : Nat → Int) (i j k : Nat) : mn_3 a c b i j k = - mn_3 a b c i j k := by
  rw [mn_3, mn_3, xr_2 b c, xr_2 b c, xr_2 b c]
  grind
theorem xr_4a (a b c d : Nat → Int) (i j k l : Nat) : mn_4 b a c d i j k l = - mn_4 a b c d i j k l := by
  simp only [mn_4, mn_3]
  generalize mn_2 c d = X
  grind
theorem xr_4b (a b c d : Nat → Int) (i j k l : Nat) : mn_4 a c b d i j k l = - mn_4 a b c d i j k l := by
  rw [mn_4, mn_4, xr_3a b c d, xr_3a b c d, xr_3a b c d, xr_3a b c d]
  grind
theorem xr_4c (a b c d : Nat → Int) (i j k l : Nat) : mn_4 a b d c i j k l = - mn_4 a b c d i j k l := by
  rw [mn_4, mn_4, xr_3b b c d, xr_3b b c d, xr_3b b c d, xr_3b b c d]
  grind
theorem xr_5a (a b c d e : Nat → Int) (i j k l n : Nat) : mn_5 b a c d e i j k l n = - mn_5 a b c d e i j k l n := by
  simp only [mn_5, mn_4]
  generalize mn_3 c d e = X
  grind
theorem xr_5b (a b c d e : Nat → Int) (i j k l n : Nat) : mn_5 a c b d e i j k l n = - mn_5 a b c d e i j k l n := by
  rw [mn_5, mn_5, xr_4a b c d e, xr_4a b c d e, xr_4a b c d e, xr_4a b c d e, xr_4a b c d e]
  grind
theorem xr_5c (a b c d e : Nat → Int) (i j k l n : Nat) : mn_5 a b d c e i j k l n = - mn_5 a b c d e i j k l n := by
  rw [mn_5, mn_5, xr_4b b c d e, xr_4b b c d e, xr_4b b c d e, xr_4b b c d e, xr_4b b c d e]
  grind
theorem xr_5d (a b c d e : Nat → Int) (i j k l n : Nat) : mn_5 a b c e d i j k l n = - mn_5 a b c d e i j k l n := by
  rw [mn_5, mn_5, xr_4c b c d e, xr_4c b c d e, xr_4c b c d e, xr_4c b c d e, xr_4c b c d e]
  grind
def sw (k r i : Nat) : Nat := if i = k then r else if i = r then k else i
def swR (R : Nat → Nat → Int) (k r : Nat) : Nat → Nat → Int := fun i => R (sw k r i)
theorem sw_lt {k r i : Nat} (hk : k < r) (h : i < k) : sw k r i = i := by
  unfold sw
  rw [if_neg (by omega), if_neg (by omega)]
theorem swR_D (R : Nat → Nat → Int) {k r : Nat} (hk : k < r) (hr : r < 5) : dvk (swR R k r) 5 = - dvk R 5 := by
  show mn_5 (R (sw k r 0)) (R (sw k r 1)) (R (sw k r 2)) (R (sw k r 3)) (R (sw k r 4)) 0 1 2 3 4 = - mn_5 (R 0) (R 1) (R 2) (R 3) (R 4) 0 1 2 3 4
  have c : (k = 0 ∧ r = 1) ∨ (k = 0 ∧ r = 2) ∨ (k = 0 ∧ r = 3) ∨ (k = 0 ∧ r = 4) ∨ (k = 1 ∧ r = 2) ∨ (k = 1 ∧ r = 3) ∨ (k = 1 ∧ r = 4) ∨ (k = 2 ∧ r = 3) ∨ (k = 2 ∧ r = 4) ∨ (k = 3 ∧ r = 4) := by omega
  rcases c with ⟨rfl, rfl⟩ | ⟨rfl, rfl⟩ | ⟨rfl, rfl⟩ | ⟨rfl, rfl⟩ | ⟨rfl, rfl⟩ | ⟨rfl, rfl⟩ | ⟨rfl, rfl⟩ | ⟨rfl, rfl⟩ | ⟨rfl, rfl⟩ | ⟨rfl, rfl⟩
  · exact xr_5a (R 0) (R 1) (R 2) (R 3) (R 4) 0 1 2 3 4
  · show mn_5 (R 2) (R 1) (R 0) (R 3) (R 4) 0 1 2 3 4 = _
    rw [xr_5a (R 1) (R 2), xr_5b (R 1) (R 0) (R 2), xr_5a (R 0) (R 1)]; simp only [Int.neg_neg]
  · show mn_5 (R 3) (R 1) (R 2) (R 0) (R 4) 0 1 2 3 4 = _
    rw [xr_5a (R 1) (R 3), xr_5b (R 1) (R 2) (R 3), xr_5c (R 1) (R 2) (R 0) (R 3), xr_5b (R 1) (R 0) (R 2), xr_5a (R 0) (R 1)]; simp only [Int.neg_neg]
  · show mn_5 (R 4) (R 1) (R 2) (R 3) (R 0) 0 1 2 3 4 = _
    rw [xr_5a (R 1) (R 4), xr_5b (R 1) (R 2) (R 4), xr_5c (R 1) (R 2) (R 3) (R 4), xr_5d (R 1) (R 2) (R 3) (R 0) (R 4), xr_5c (R 1) (R 2) (R 0) (R 3), xr_5b (R 1) (R 0) (R 2), xr_5a (R 0) (R 1)]; simp only [Int.neg_neg]
  · exact xr_5b (R 0) (R 1) (R 2) (R 3) (R 4) 0 1 2 3 4
  · show mn_5 (R 0) (R 3) (R 2) (R 1) (R 4) 0 1 2 3 4 = _
    rw [xr_5b (R 0) (R 2) (R 3), xr_5c (R 0) (R 2) (R 1) (R 3), xr_5b (R 0) (R 1) (R 2)]; simp only [Int.neg_neg]
  · show mn_5 (R 0) (R 4) (R 2) (R 3) (R 1) 0 1 2 3 4 = _
    rw [xr_5b (R 0) (R 2) (R 4), xr_5c (R 0) (R 2) (R 3) (R 4), xr_5d (R 0) (R 2) (R 3) (R 1) (R 4), xr_5c (R 0) (R 2) (R 1) (R 3), xr_5b (R 0) (R 1) (R 2)]; simp only [Int.neg_neg]
  · exact xr_5c (R 0) (R 1) (R 2) (R 3) (R 4) 0 1 2 3 4
  · show mn_5 (R 0) (R 1) (R 4) (R 3) (R 2) 0 1 2 3 4 = _
    rw [xr_5c (R 0) (R 1) (R 3) (R 4), xr_5d (R 0) (R 1) (R 3) (R 2) (R 4), xr_5c (R 0) (R 1) (R 2) (R 3)]; simp only [Int.neg_neg]
  · exact xr_5d (R 0) (R 1) (R 2) (R 3) (R 4) 0 1 2 3 4
theorem scv_sw (R : Nat → Nat → Int) {k r : Nat} (hk : k < r) (hk4 : k < 4) (v : Nat → Int) (j : Nat) : scv (swR R k r) k v j = scv R k v j := by
  have c : k = 0 ∨ k = 1 ∨ k = 2 ∨ k = 3 := by omega
  have e : ∀ i, i < k → swR R k r i = R i := fun i h => by unfold swR; rw [sw_lt hk h]
  rcases c with rfl | rfl | rfl | rfl
  · rfl
  · show mn_2 (swR R 1 r 0) v 0 j = _; rw [e 0 (by omega)]; rfl
  · show mn_3 (swR R 2 r 0) (swR R 2 r 1) v 0 1 j = _; rw [e 0 (by omega), e 1 (by omega)]; rfl
  · show mn_4 (swR R 3 r 0) (swR R 3 r 1) (swR R 3 r 2) v 0 1 2 j = _; rw [e 0 (by omega), e 1 (by omega), e 2 (by omega)]; rfl
theorem dvk_sw (R : Nat → Nat → Int) {k r : Nat} (hk : k < r) (hk4 : k < 4) : dvk (swR R k r) k = dvk R k := by
  have c : k = 0 ∨ k = 1 ∨ k = 2 ∨ k = 3 := by omega
  have e : ∀ i, i < k → swR R k r i = R i := fun i h => by unfold swR; rw [sw_lt hk h]
  rcases c with rfl | rfl | rfl | rfl
  · rfl
  · show swR R 1 r 0 0 = _; rw [e 0 (by omega)]; rfl
  · show mn_2 (swR R 2 r 0) (swR R 2 r 1) 0 1 = _; rw [e 0 (by omega), e 1 (by omega)]; rfl
  · show mn_3 (swR R 3 r 0) (swR R 3 r 1) (swR R 3 r 2) 0 1 2 = _; rw [e 0 (by omega), e 1 (by omega), e 2 (by omega)]; rfl
