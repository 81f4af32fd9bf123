theorem inB_c : ∀ c, c < 6 → inB (nI c) 0 5 = true := by decide
theorem prB_c : ∀ o, o < 6 → ∀ c, c < 6 → o ≠ c → prB (nI o) (nI c) = true := by decide
theorem upd_upd (f : Nat → Int32) (i : Nat) (x y : Int32) : upd (upd f i x) i y = upd f i y := by
  funext j
  by_cases h : j = i
  · subst h; simp [upd]
  · simp [upd, h]
def smH (he : Nat → Int32) (o c : Nat) (x : Int32) : Int32 := sI (fun o1 => upd he (6 * o + c) x (6 * o1 + c)) 6
def bkB : Int32 → Int32 → Int32 → Int32 → Bool := fun x1 x2 x3 x4 => if inB x1 0 1000000 = true then (if inB x2 0 1000000 = true then (if inB x3 (-1000000) 1000000 = true then (if inB x4 (-1000000) 1000000 = true then (if x1 = x2 + x3 + x4 then true else false) else false) else false) else false) else false
def rtB : Int32 → Int32 → Int32 → Bool := fun x1 x2 x3 => if inB x1 1 1000 = true then (if inB x2 1 1000 = true then (if inB x3 1 1000 = true then true else false) else false) else false
