def mn_2 (a b : Nat → Int) (i j : Nat) : Int := a i * b j - a j * b i
def mn_3 (a b c : Nat → Int) (i j k : Nat) : Int := a i * mn_2 b c j k - a j * mn_2 b c i k + a k * mn_2 b c i j
def mn_4 (a b c d : Nat → Int) (i j k l : Nat) : Int := a i * mn_3 b c d j k l - a j * mn_3 b c d i k l + a k * mn_3 b c d i j l - a l * mn_3 b c d i j k
def mn_5 (a b c d e : Nat → Int) (i j k l n : Nat) : Int := a i * mn_4 b c d e j k l n - a j * mn_4 b c d e i k l n + a k * mn_4 b c d e i j l n - a l * mn_4 b c d e i j k n + a n * mn_4 b c d e i j k l
theorem sy_1 (a q r : Nat → Int) (p x j : Nat) : mn_2 a r p j * mn_2 a q p x - mn_2 a r p x * mn_2 a q p j = a p * mn_3 a q r p x j := by
  unfold mn_3 mn_2
  grind
theorem sy_2 (a b q r : Nat → Int) (p o x j : Nat) : mn_3 a b r p o j * mn_3 a b q p o x - mn_3 a b r p o x * mn_3 a b q p o j = mn_2 a b p o * mn_4 a b q r p o x j := by
  unfold mn_4 mn_3 mn_2
  grind
/-- minors by their last row -/
theorem lr_3 (a b v : Nat → Int) (i j k : Nat) : mn_3 a b v i j k = v k * mn_2 a b i j - v j * mn_2 a b i k + v i * mn_2 a b j k := by
  unfold mn_3 mn_2
  grind
theorem lr_4 (a b c v : Nat → Int) (i j k l : Nat) : mn_4 a b c v i j k l = v l * mn_3 a b c i j k - v k * mn_3 a b c i j l + v j * mn_3 a b c i k l - v i * mn_3 a b c j k l := by
  rw [mn_4, lr_3 b c v, lr_3 b c v, lr_3 b c v, lr_3 b c v, mn_3, mn_3, mn_3, mn_3]
  grind
theorem lr_5 (a b c d v : Nat → Int) (i j k l n : Nat) : mn_5 a b c d v i j k l n = v n * mn_4 a b c d i j k l - v l * mn_4 a b c d i j k n + v k * mn_4 a b c d i j l n - v j * mn_4 a b c d i k l n + v i * mn_4 a b c d j k l n := by
  rw [mn_5, lr_4 b c d v, lr_4 b c d v, lr_4 b c d v, lr_4 b c d v, lr_4 b c d v, mn_4, mn_4, mn_4, mn_4, mn_4]
  grind
/-- the relation between minors with a common column -/
theorem pl_3 (a b c : Nat → Int) (p o s x j : Nat) : mn_3 a b c p o s * mn_3 a b c p x j - mn_3 a b c p o x * mn_3 a b c p s j + mn_3 a b c p o j * mn_3 a b c p s x = 0 := by
  unfold mn_3 mn_2
  grind
