def inB (v lo hi : Int32) : Bool := if v < lo then false else if hi < v then false else true
def prB (x y : Int32) : Bool := if inB x 0 5 = true then (if inB y 0 5 = true then (if x = y then false else true) else false) else false
theorem inB_c : ∀ c, c < 6 → inB (nI c) 0 5 = true := by decide
theorem prB_c : ∀ o, o < 6 → ∀ c, c < 6 → o ≠ c → prB (nI o) (nI c) = true := by decide
