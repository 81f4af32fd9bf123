def ceK (eq : Nat → Int64) (r c : Nat) (pv dv : Int64) : Nat → Nat → Int64
  | 0 => eq
  | k + 1 => vp_updL (ceK eq r c pv dv k) (6 * r + k) ((ceK eq r c pv dv k (6 * r + k) * pv - eq (6 * r + c) * ceK eq r c pv dv k (6 * c + k)) / dv)
def ce (eq : Nat → Int64) (r c : Nat) (pv dv : Int64) : Nat → Int64 := if dv ≤ 0 then eq else ceK eq r c pv dv 6
def ccK (eq : Nat → Int64) (c : Nat) (pv dv : Int64) : Nat → Nat → Int64
  | 0 => eq
  | k + 1 => if k + 1 = c then ccK eq c pv dv k else ce (ccK eq c pv dv k) (k + 1) c pv dv
def weI (p : Nat → Int32) (c : Nat) (e : Nat → Int64) : Nat → Nat → Int64
  | 0 => e
  | j + 1 => vp_updL (weI p c e j) (6 * c + (j + 1)) (if j + 1 = c then 100 else (-(p (6 * (j + 1) + c))).toInt64)
def weO (p : Nat → Int32) (eq : Nat → Int64) : Nat → Nat → Int64
  | 0 => eq
  | i + 1 => weI p (i + 1) (vp_updL (weO p eq i) (6 * (i + 1) + 0) (p (6 * 0 + (i + 1))).toInt64) 5
def ds (e0 : Nat → Int64) : Nat → (Nat → Int64) × Int64
  | 0 => (e0, 1)
  | k + 1 => (ccK (ds e0 k).1 (k + 1) ((ds e0 k).1 (6 * (k + 1) + (k + 1))) (ds e0 k).2 5, (ds e0 k).1 (6 * (k + 1) + (k + 1)))
def pvt (e0 : Nat → Int64) (k : Nat) : Int64 := (ds e0 k).1 (6 * (k + 1) + (k + 1))
def cdF : Nat → Int64 → Int64 → Int64 | 0, x, _ => x | n + 1, x, y => if y = 0 then x else cdF n y (x - x / y * y)
def ksN (eq : Nat → Int64) (dn : Int64) (nu : Nat → Int64) : Nat → Nat → Int64
  | 0 => nu
  | k + 1 => if cdF 100 dn (eq (6 * (k + 1) + 0)) ≤ 0 then ksN eq dn nu k else vp_updL (ksN eq dn nu k) (k + 1) (eq (6 * (k + 1) + 0) / cdF 100 dn (eq (6 * (k + 1) + 0)))
def ksD (eq : Nat → Int64) (dn : Int64) (de : Nat → Int64) : Nat → Nat → Int64
  | 0 => de
  | k + 1 => if cdF 100 dn (eq (6 * (k + 1) + 0)) ≤ 0 then ksD eq dn de k else vp_updL (ksD eq dn de k) (k + 1) (dn / cdF 100 dn (eq (6 * (k + 1) + 0)))
def plN (p am nx : Nat → Int32) : Nat → Nat → Int32
  | 0 => nx
  | k + 1 => upd (plN p am nx k) (k + 1) (sI (fun o => p (6 * o + (k + 1)) * am o) 6 / 100)
def plA (am nx : Nat → Int32) : Nat → Nat → Int32 | 0 => am | k + 1 => upd (plA am nx k) (k + 1) (nx (k + 1))
def miA (am : Nat → Int32) : Nat → Nat → Int32 | 0 => am | k + 1 => upd (miA am k) k (if k = 0 then 1000000 else 0)
def mr (p am nx : Nat → Int32) : Nat → (Nat → Int32) × (Nat → Int32)
  | 0 => (miA am 6, nx)
  | j + 1 => (plA (mr p am nx j).1 (plN p (mr p am nx j).1 (mr p am nx j).2 5) 5, plN p (mr p am nx j).1 (mr p am nx j).2 5)
def tkOK (p : Nat → Int32) (eq : Nat → Int64) (o c : Nat) (x : Int32) : Prop := ¬ 100 < sI (fun o => p (6 * o + c)) 6 - p (6 * o + c) + x ∧ ∀ k, k < 5 → 0 < pvt (weO (upd p (6 * o + c) x) eq 5) k
theorem upd_back (p : Nat → Int32) (i : Nat) (x : Int32) : upd (upd p i x) i (p i) = p := by
  funext j
  by_cases h : j = i
  · subst h; simp [upd]
  · simp [upd, h]
