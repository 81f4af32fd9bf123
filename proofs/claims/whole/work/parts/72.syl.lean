theorem c1_3 (a b c : Nat → Int) (i j k : Nat) : mn_3 a b c j i k = - mn_3 a b c i j k := by
  unfold mn_3 mn_2
  grind
theorem c2_3 (a b c : Nat → Int) (i j k : Nat) : mn_3 a b c i k j = - mn_3 a b c i j k := by
  unfold mn_3 mn_2
  grind
theorem sy_3 (a b c q r : Nat → Int) (p o s x j : Nat) : mn_4 a b c r p o s j * mn_4 a b c q p o s x - mn_4 a b c r p o s x * mn_4 a b c q p o s j = mn_3 a b c p o s * mn_5 a b c q r p o s x j := by
  have h1 := pl_3 a b c p o s x j
  have h2 := pl_3 a b c o p s x j
  have h3 := pl_3 a b c s p o x j
  rw [c1_3 a b c p o s, c1_3 a b c p o x, c1_3 a b c p o j] at h2
  rw [c1_3 a b c p s o, c1_3 a b c p s x, c1_3 a b c p s j, c1_3 a b c o s x, c1_3 a b c o s j, c2_3 a b c p o s] at h3
  simp only [lr_5, lr_4]
  grind
/-- four rows by two columns and two -/
theorem lp_4 (a b c d : Nat → Int) (p o u v : Nat) : mn_4 a b c d p o u v = mn_2 a b p o * mn_2 c d u v - mn_2 a c p o * mn_2 b d u v + mn_2 a d p o * mn_2 b c u v + mn_2 b c p o * mn_2 a d u v - mn_2 b d p o * mn_2 a c u v + mn_2 c d p o * mn_2 a b u v := by
  unfold mn_4 mn_3 mn_2
  grind
theorem px_2 (a b c d : Nat → Int) (p o : Nat) : mn_2 a b p o * mn_2 c d p o - mn_2 a c p o * mn_2 b d p o + mn_2 a d p o * mn_2 b c p o = 0 := by
  unfold mn_2
  grind
/-- the minors of four rows, with two common columns -/
theorem pl_4 (a b c d : Nat → Int) (p o s x j t : Nat) : mn_4 a b c d p o s x * mn_4 a b c d p o j t - mn_4 a b c d p o s j * mn_4 a b c d p o x t + mn_4 a b c d p o s t * mn_4 a b c d p o x j = 0 := by
  have h := px_2 a b c d p o
  simp only [lp_4]
  generalize mn_2 a b p o = X1 at *
  generalize mn_2 a c p o = X2 at *
  generalize mn_2 a d p o = X3 at *
  generalize mn_2 b c p o = X4 at *
  generalize mn_2 b d p o = X5 at *
  generalize mn_2 c d p o = X6 at *
  have e : (X1 * mn_2 c d s x - X2 * mn_2 b d s x + X3 * mn_2 b c s x + X4 * mn_2 a d s x - X5 * mn_2 a c s x + X6 * mn_2 a b s x) * (X1 * mn_2 c d j t - X2 * mn_2 b d j t + X3 * mn_2 b c j t + X4 * mn_2 a d j t - X5 * mn_2 a c j t + X6 * mn_2 a b j t)
      - (X1 * mn_2 c d s j - X2 * mn_2 b d s j + X3 * mn_2 b c s j + X4 * mn_2 a d s j - X5 * mn_2 a c s j + X6 * mn_2 a b s j) * (X1 * mn_2 c d x t - X2 * mn_2 b d x t + X3 * mn_2 b c x t + X4 * mn_2 a d x t - X5 * mn_2 a c x t + X6 * mn_2 a b x t)
      + (X1 * mn_2 c d s t - X2 * mn_2 b d s t + X3 * mn_2 b c s t + X4 * mn_2 a d s t - X5 * mn_2 a c s t + X6 * mn_2 a b s t) * (X1 * mn_2 c d x j - X2 * mn_2 b d x j + X3 * mn_2 b c x j + X4 * mn_2 a d x j - X5 * mn_2 a c x j + X6 * mn_2 a b x j)
      = (X1 * X6 - X2 * X5 + X3 * X4) * mn_4 a b c d s x j t := by
    clear h
    unfold mn_4 mn_3 mn_2
    grind
  rw [e, h, Int.zero_mul]
theorem pe_0143 (a b c d : Nat → Int) : mn_4 a b c d 0 1 4 3 = -mn_4 a b c d 0 1 3 4 := by
  unfold mn_4 mn_3 mn_2
  grind
theorem pe_0153 (a b c d : Nat → Int) : mn_4 a b c d 0 1 5 3 = -mn_4 a b c d 0 1 3 5 := by
  unfold mn_4 mn_3 mn_2
  grind
theorem pe_0154 (a b c d : Nat → Int) : mn_4 a b c d 0 1 5 4 = -mn_4 a b c d 0 1 4 5 := by
  unfold mn_4 mn_3 mn_2
  grind
theorem pe_0213 (a b c d : Nat → Int) : mn_4 a b c d 0 2 1 3 = -mn_4 a b c d 0 1 2 3 := by
  unfold mn_4 mn_3 mn_2
  grind
theorem pe_0214 (a b c d : Nat → Int) : mn_4 a b c d 0 2 1 4 = -mn_4 a b c d 0 1 2 4 := by
  unfold mn_4 mn_3 mn_2
  grind
theorem pe_0215 (a b c d : Nat → Int) : mn_4 a b c d 0 2 1 5 = -mn_4 a b c d 0 1 2 5 := by
  unfold mn_4 mn_3 mn_2
  grind
theorem pe_0254 (a b c d : Nat → Int) : mn_4 a b c d 0 2 5 4 = -mn_4 a b c d 0 2 4 5 := by
  unfold mn_4 mn_3 mn_2
  grind
theorem pe_0312 (a b c d : Nat → Int) : mn_4 a b c d 0 3 1 2 = mn_4 a b c d 0 1 2 3 := by
  unfold mn_4 mn_3 mn_2
  grind
theorem pe_0314 (a b c d : Nat → Int) : mn_4 a b c d 0 3 1 4 = -mn_4 a b c d 0 1 3 4 := by
  unfold mn_4 mn_3 mn_2
  grind
theorem pe_0315 (a b c d : Nat → Int) : mn_4 a b c d 0 3 1 5 = -mn_4 a b c d 0 1 3 5 := by
  unfold mn_4 mn_3 mn_2
  grind
theorem pe_0324 (a b c d : Nat → Int) : mn_4 a b c d 0 3 2 4 = -mn_4 a b c d 0 2 3 4 := by
  unfold mn_4 mn_3 mn_2
  grind
theorem pe_0325 (a b c d : Nat → Int) : mn_4 a b c d 0 3 2 5 = -mn_4 a b c d 0 2 3 5 := by
  unfold mn_4 mn_3 mn_2
  grind
theorem pe_0423 (a b c d : Nat → Int) : mn_4 a b c d 0 4 2 3 = mn_4 a b c d 0 2 3 4 := by
  unfold mn_4 mn_3 mn_2
  grind
theorem pe_0523 (a b c d : Nat → Int) : mn_4 a b c d 0 5 2 3 = mn_4 a b c d 0 2 3 5 := by
  unfold mn_4 mn_3 mn_2
  grind
theorem pe_0524 (a b c d : Nat → Int) : mn_4 a b c d 0 5 2 4 = mn_4 a b c d 0 2 4 5 := by
  unfold mn_4 mn_3 mn_2
  grind
theorem pe_0534 (a b c d : Nat → Int) : mn_4 a b c d 0 5 3 4 = mn_4 a b c d 0 3 4 5 := by
  unfold mn_4 mn_3 mn_2
  grind
theorem pe_1203 (a b c d : Nat → Int) : mn_4 a b c d 1 2 0 3 = mn_4 a b c d 0 1 2 3 := by
  unfold mn_4 mn_3 mn_2
  grind
theorem pe_1204 (a b c d : Nat → Int) : mn_4 a b c d 1 2 0 4 = mn_4 a b c d 0 1 2 4 := by
  unfold mn_4 mn_3 mn_2
  grind
theorem pe_1205 (a b c d : Nat → Int) : mn_4 a b c d 1 2 0 5 = mn_4 a b c d 0 1 2 5 := by
  unfold mn_4 mn_3 mn_2
  grind
theorem pe_1254 (a b c d : Nat → Int) : mn_4 a b c d 1 2 5 4 = -mn_4 a b c d 1 2 4 5 := by
  unfold mn_4 mn_3 mn_2
  grind
theorem pe_1302 (a b c d : Nat → Int) : mn_4 a b c d 1 3 0 2 = -mn_4 a b c d 0 1 2 3 := by
  unfold mn_4 mn_3 mn_2
  grind
theorem pe_1304 (a b c d : Nat → Int) : mn_4 a b c d 1 3 0 4 = mn_4 a b c d 0 1 3 4 := by
  unfold mn_4 mn_3 mn_2
  grind
theorem pe_1305 (a b c d : Nat → Int) : mn_4 a b c d 1 3 0 5 = mn_4 a b c d 0 1 3 5 := by
  unfold mn_4 mn_3 mn_2
  grind
theorem pe_1324 (a b c d : Nat → Int) : mn_4 a b c d 1 3 2 4 = -mn_4 a b c d 1 2 3 4 := by
  unfold mn_4 mn_3 mn_2
  grind
theorem pe_1325 (a b c d : Nat → Int) : mn_4 a b c d 1 3 2 5 = -mn_4 a b c d 1 2 3 5 := by
  unfold mn_4 mn_3 mn_2
  grind
theorem pe_1534 (a b c d : Nat → Int) : mn_4 a b c d 1 5 3 4 = mn_4 a b c d 1 3 4 5 := by
  unfold mn_4 mn_3 mn_2
  grind
theorem pe_2301 (a b c d : Nat → Int) : mn_4 a b c d 2 3 0 1 = mn_4 a b c d 0 1 2 3 := by
  unfold mn_4 mn_3 mn_2
  grind
theorem pe_2304 (a b c d : Nat → Int) : mn_4 a b c d 2 3 0 4 = mn_4 a b c d 0 2 3 4 := by
  unfold mn_4 mn_3 mn_2
  grind
theorem pe_2305 (a b c d : Nat → Int) : mn_4 a b c d 2 3 0 5 = mn_4 a b c d 0 2 3 5 := by
  unfold mn_4 mn_3 mn_2
  grind
theorem pe_2314 (a b c d : Nat → Int) : mn_4 a b c d 2 3 1 4 = mn_4 a b c d 1 2 3 4 := by
  unfold mn_4 mn_3 mn_2
  grind
theorem pe_2315 (a b c d : Nat → Int) : mn_4 a b c d 2 3 1 5 = mn_4 a b c d 1 2 3 5 := by
  unfold mn_4 mn_3 mn_2
  grind
theorem pe_4123 (a b c d : Nat → Int) : mn_4 a b c d 4 1 2 3 = -mn_4 a b c d 1 2 3 4 := by
  unfold mn_4 mn_3 mn_2
  grind
theorem pe_5123 (a b c d : Nat → Int) : mn_4 a b c d 5 1 2 3 = -mn_4 a b c d 1 2 3 5 := by
  unfold mn_4 mn_3 mn_2
  grind
theorem pe_5124 (a b c d : Nat → Int) : mn_4 a b c d 5 1 2 4 = -mn_4 a b c d 1 2 4 5 := by
  unfold mn_4 mn_3 mn_2
  grind
theorem pe_5134 (a b c d : Nat → Int) : mn_4 a b c d 5 1 3 4 = -mn_4 a b c d 1 3 4 5 := by
  unfold mn_4 mn_3 mn_2
  grind
theorem pe_5234 (a b c d : Nat → Int) : mn_4 a b c d 5 2 3 4 = -mn_4 a b c d 2 3 4 5 := by
  unfold mn_4 mn_3 mn_2
  grind
theorem cs_0 (a b c d q : Nat → Int) : mn_4 a b c d 5 1 2 3 * mn_5 a b c d q 0 1 2 3 4 - mn_4 a b c d 4 1 2 3 * mn_5 a b c d q 0 1 2 3 5 = mn_4 a b c d 0 1 2 3 * mn_5 a b c d q 5 1 2 3 4 := by
  have h0 := pl_4 a b c d 2 3 0 1 4 5
  have h1 := pl_4 a b c d 1 3 0 2 4 5
  have h2 := pl_4 a b c d 1 2 0 3 4 5
  simp only [pe_1203, pe_1204, pe_1205, pe_1302, pe_1304, pe_1305, pe_1324, pe_1325, pe_2301, pe_2304, pe_2305, pe_2314, pe_2315, pe_4123, pe_5123, pe_5124, pe_5134, pe_5234] at h0 h1 h2
  simp only [lr_5, pe_1203, pe_1204, pe_1205, pe_1302, pe_1304, pe_1305, pe_1324, pe_1325, pe_2301, pe_2304, pe_2305, pe_2314, pe_2315, pe_4123, pe_5123, pe_5124, pe_5134, pe_5234]
  grind
theorem cs_1 (a b c d q : Nat → Int) : mn_4 a b c d 0 5 2 3 * mn_5 a b c d q 0 1 2 3 4 - mn_4 a b c d 0 4 2 3 * mn_5 a b c d q 0 1 2 3 5 = mn_4 a b c d 0 1 2 3 * mn_5 a b c d q 0 5 2 3 4 := by
  have h0 := pl_4 a b c d 2 3 0 1 4 5
  have h1 := pl_4 a b c d 0 3 1 2 4 5
  have h2 := pl_4 a b c d 0 2 1 3 4 5
  simp only [pe_0213, pe_0214, pe_0215, pe_0312, pe_0314, pe_0315, pe_0324, pe_0325, pe_0423, pe_0523, pe_0524, pe_0534, pe_2301, pe_2304, pe_2305, pe_2314, pe_2315, pe_5234] at h0 h1 h2
  simp only [lr_5, pe_0213, pe_0214, pe_0215, pe_0312, pe_0314, pe_0315, pe_0324, pe_0325, pe_0423, pe_0523, pe_0524, pe_0534, pe_2301, pe_2304, pe_2305, pe_2314, pe_2315, pe_5234]
  grind
theorem cs_2 (a b c d q : Nat → Int) : mn_4 a b c d 0 1 5 3 * mn_5 a b c d q 0 1 2 3 4 - mn_4 a b c d 0 1 4 3 * mn_5 a b c d q 0 1 2 3 5 = mn_4 a b c d 0 1 2 3 * mn_5 a b c d q 0 1 5 3 4 := by
  have h0 := pl_4 a b c d 1 3 0 2 4 5
  have h1 := pl_4 a b c d 0 3 1 2 4 5
  have h2 := pl_4 a b c d 0 1 2 3 4 5
  simp only [pe_0143, pe_0153, pe_0154, pe_0312, pe_0314, pe_0315, pe_0324, pe_0325, pe_0534, pe_1302, pe_1304, pe_1305, pe_1324, pe_1325, pe_1534] at h0 h1 h2
  simp only [lr_5, pe_0143, pe_0153, pe_0154, pe_0312, pe_0314, pe_0315, pe_0324, pe_0325, pe_0534, pe_1302, pe_1304, pe_1305, pe_1324, pe_1325, pe_1534]
  grind
theorem cs_3 (a b c d q : Nat → Int) : mn_4 a b c d 0 1 2 5 * mn_5 a b c d q 0 1 2 3 4 - mn_4 a b c d 0 1 2 4 * mn_5 a b c d q 0 1 2 3 5 = mn_4 a b c d 0 1 2 3 * mn_5 a b c d q 0 1 2 5 4 := by
  have h0 := pl_4 a b c d 1 2 0 3 4 5
  have h1 := pl_4 a b c d 0 2 1 3 4 5
  have h2 := pl_4 a b c d 0 1 2 3 4 5
  simp only [pe_0154, pe_0213, pe_0214, pe_0215, pe_0254, pe_1203, pe_1204, pe_1205, pe_1254] at h0 h1 h2
  simp only [lr_5, pe_0154, pe_0213, pe_0214, pe_0215, pe_0254, pe_1203, pe_1204, pe_1205, pe_1254]
  grind
