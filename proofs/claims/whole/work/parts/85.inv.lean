def bk_ (oA oD oE oP cR aR hR : Nat → Int32) : Prop := ∀ c, c < 6 → (0 ≤ (oA c).toInt ∧ (oA c).toInt ≤ 1000000) ∧ (0 ≤ (oD c).toInt ∧ (oD c).toInt ≤ 1000000) ∧ (-1000000 ≤ (oE c).toInt ∧ (oE c).toInt ≤ 1000000) ∧ (-1000000 ≤ (oP c).toInt ∧ (oP c).toInt ≤ 1000000) ∧ (oA c).toInt = (oD c).toInt + (oE c).toInt + (oP c).toInt ∧
  (1 ≤ (cR c).toInt ∧ (cR c).toInt ≤ 1000) ∧ (1 ≤ (aR c).toInt ∧ (aR c).toInt ≤ 1000) ∧ (1 ≤ (hR c).toInt ∧ (hR c).toInt ≤ 1000)
/-- what ties the class's state to the reference's -/
def iv_ (p : Nat → Int32) (nu de : Nat → Int64) (oA oD oE oP cR aR hR ad a2 : Nat → Int32) (z : Nat) : Prop :=
  pcB p ∧ ¬ dW p 0 = 0 ∧ (∀ c, c < 6 → nu c = aF p c ∧ de c = bF p c) ∧ bk_ oA oD oE oP cR aR hR ∧ (∀ i j, i < 6 → j < 6 → ad (6 * i + j) = a2 (6 * j + i)) ∧ z ≤ 12
theorem inB_t {x lo hi : Int32} (h : inB x lo hi = true) : lo.toInt ≤ x.toInt ∧ x.toInt ≤ hi.toInt := by
  have h1 := Int32.not_lt.mp (inB_lo h)
  have h2 := inB_hi h
  rw [Int32.le_iff_toInt_le] at h1 h2
  exact ⟨h1, h2⟩
theorem inB_n {x : Int32} {h : Nat} (hh : h < 2 ^ 31) (hx : inB x 0 (nI h) = true) : ∃ k, k ≤ h ∧ x = nI k := by
  have e := inB_t hx
  rw [i32_0, nI_toInt hh] at e
  refine ⟨x.toInt.toNat, by omega, Int32.toInt_inj.mp ?_⟩
  rw [nI_toInt (by omega)]
  omega
theorem cof {x : Int32} (h : inB x 0 5 = true) : ∃ o, o < 6 ∧ x = nI o := by
  obtain ⟨k, h1, h2⟩ := inB_n (h := 5) (by decide) h
  exact ⟨k, by omega, h2⟩
theorem pb_ {x y : Int} (hx : x.natAbs ≤ 1000000) (hy : y.natAbs ≤ 1000) : (x * y).natAbs ≤ 1000000000 := by
  rw [Int.natAbs_mul]
  exact Nat.le_trans (Nat.mul_le_mul hx hy) (Nat.le_of_ble_eq_true rfl)
theorem trb {x y : Int32} (hx : x.toInt.natAbs ≤ 1000000) (hy : y.toInt.natAbs ≤ 1000) : tr x y = trM x y ∧ (tr x y).toInt.natAbs ≤ 10000000 := by
  have b := pb_ hx hy
  obtain ⟨e1, e2⟩ := tr_trM (x := x) (y := y) (by omega) (by omega)
  refine ⟨e1, ?_⟩
  rw [e2]
  omega
section IV
variable {p : Nat → Int32} {nu de : Nat → Int64} {oA oD oE oP cR aR hR ad a2 cl : Nat → Int32} {z : Nat}
theorem bk_A (h : bk_ oA oD oE oP cR aR hR) {c : Nat} (hc : c < 6) : tr (oA c) (cR c) = trM (oA c) (cR c) ∧ (tr (oA c) (cR c)).toInt.natAbs ≤ 10000000 := by
  have := h c hc
  exact trb (by omega) (by omega)
theorem bk_D (h : bk_ oA oD oE oP cR aR hR) {c : Nat} (hc : c < 6) : tr (oD c) (cR c) = trM (oD c) (cR c) ∧ (tr (oD c) (cR c)).toInt.natAbs ≤ 10000000 := by
  have := h c hc
  exact trb (by omega) (by omega)
theorem bk_E (h : bk_ oA oD oE oP cR aR hR) {c : Nat} (hc : c < 6) : tr (oE c) (hR c) = trM (oE c) (hR c) := by
  have := h c hc
  exact (trb (by omega) (by omega)).1
theorem bk_P (h : bk_ oA oD oE oP cR aR hR) {c : Nat} (hc : c < 6) : tr (oP c) (aR c) = trM (oP c) (aR c) := by
  have := h c hc
  exact (trb (by omega) (by omega)).1
theorem q_net (h : bk_ oA oD oE oP cR aR hR) {c : Nat} (hc : c < 6) : tr (oA c) (cR c) - tr (oD c) (cR c) = ntM oA oD cR c := by
  rw [ntM, (bk_A h hc).1, (bk_D h hc).1]
theorem q_rsv (h : bk_ oA oD oE oP cR aR hR) {c : Nat} (hc : c < 6) : tr (oA c) (cR c) - tr (oD c) (cR c) - tr (oE c) (hR c) - tr (oP c) (aR c) = ntM oA oD cR c - trM (oE c) (hR c) - trM (oP c) (aR c) := by
  rw [q_net h hc, bk_E h hc, bk_P h hc]
theorem q_gw (h : bk_ oA oD oE oP cR aR hR) {c : Nat} (hc : c < 6) {x : Int32} (hx : inB x 1 100 = true) : fdI (x * (tr (oA c) (cR c) - tr (oD c) (cR c))) 100 = (flM (x.toInt64 * (ntM oA oD cR c).toInt64) 100).toInt32 := by
  have e := inB_t hx
  rw [i32_1, i32_100] at e
  have bA := (bk_A h hc).2
  have bD := (bk_D h hc).2
  have en : (tr (oA c) (cR c) - tr (oD c) (cR c)).toInt = (tr (oA c) (cR c)).toInt - (tr (oD c) (cR c)).toInt := by
    rw [Int32.toInt_sub]
    exact bmodI (by omega) (by omega)
  have bn : (tr (oA c) (cR c) - tr (oD c) (cR c)).toInt.natAbs ≤ 20000000 := by rw [en]; omega
  have bm : (x.toInt * (tr (oA c) (cR c) - tr (oD c) (cR c)).toInt).natAbs ≤ 2000000000 := by
    rw [Int.natAbs_mul]
    exact Nat.le_trans (Nat.mul_le_mul (show x.toInt.natAbs ≤ 100 by omega) bn) (Nat.le_of_ble_eq_true rfl)
  rw [← q_net h hc]
  exact fd_fl (by omega) (by omega)
theorem q_grp (h : iv_ p nu de oA oD oE oP cR aR hR ad a2 z) : mem p 5 = grp p := mem_grp h.1.1
theorem q_el (h : iv_ p nu de oA oD oE oP cR aR hR ad a2 z) : agO cl ad (mem p 5) 6 = elS cl a2 (grp p) 36 := by
  rw [q_grp h, agO_elS cl ad a2 (grp p) (fun k hk => by
    have e := h.2.2.2.2.1 (k / 6) (k % 6) (by omega) (by omega)
    rw [show 6 * (k / 6) + k % 6 = k by omega] at e
    exact e.symm) 6 (Nat.le_refl 6)]
theorem q_as (h : iv_ p nu de oA oD oE oP cR aR hR ad a2 z) : caS oA cR (mem p 5) 6 - agO cl ad (mem p 5) 6 = asS oA cR (grp p) 6 - elS cl a2 (grp p) 36 := by
  rw [q_el h, q_grp h, caS_asS oA cR (grp p) 6 (fun k hk => (bk_A h.2.2.2.1 hk).1)]
theorem q_db (h : iv_ p nu de oA oD oE oP cR aR hR ad a2 z) : caS oD cR (mem p 5) 6 - agO cl ad (mem p 5) 6 = asS oD cR (grp p) 6 - elS cl a2 (grp p) 36 := by
  rw [q_el h, q_grp h, caS_asS oD cR (grp p) 6 (fun k hk => (bk_D h.2.2.2.1 hk).1)]
theorem mAm_c (h : iv_ p nu de oA oD oE oP cR aR hR ad a2 z) {c : Nat} (hc : c < 6) (M : Nat) : mAm oA oD cR nu de M c = mAm oA oD cR (aF p) (bF p) M c := by
  unfold mAm
  rw [(h.2.2.1 c hc).1, (h.2.2.1 c hc).2]
theorem q_mi (h : iv_ p nu de oA oD oE oP cR aR hR ad a2 z) {c : Nat} (hc : c < 6) : mAm oA oD cR nu de (mem p 5) c = miV oA oD cR (aF p) (bF p) (grp p) c := by
  rw [mAm_c h hc, q_grp h]
  exact mAm_miV (bF_pos h.1 h.2.1 hc) (bk_A h.2.2.2.1 hc).1 (bk_D h.2.2.2.1 hc).1
theorem cmS_c (h : iv_ p nu de oA oD oE oP cR aR hR ad a2 z) (M : Nat) : ∀ n, n ≤ 6 → cmS oA oD cR nu de M n = cmS oA oD cR (aF p) (bF p) M n
  | 0, _ => rfl
  | n + 1, hn => by rw [cmS, cmS, cmS_c h M n (by omega), mAm_c h (by omega)]
theorem crS_c (h : iv_ p nu de oA oD oE oP cR aR hR ad a2 z) (M : Nat) : ∀ n, n ≤ 6 → crS oP aR nu de M n = crS oP aR (aF p) (bF p) M n
  | 0, _ => rfl
  | n + 1, hn => by rw [crS, crS, crS_c h M n (by omega), (h.2.2.1 n (by omega)).1, (h.2.2.1 n (by omega)).2]
theorem q_re (h : iv_ p nu de oA oD oE oP cR aR hR ad a2 z) : crS oP aR nu de (mem p 5) 6 = reS oP aR (aF p) (bF p) (grp p) 6 := by
  rw [crS_c h _ 6 (Nat.le_refl 6), q_grp h]
  exact crS_reS 6 (fun k hk => ⟨bF_pos h.1 h.2.1 hk, bk_P h.2.2.2.1 hk⟩)
theorem q_eq (h : iv_ p nu de oA oD oE oP cR aR hR ad a2 z) : caS oA cR (mem p 5) 6 - agO cl ad (mem p 5) 6 - (caS oD cR (mem p 5) 6 - agO cl ad (mem p 5) 6) - cmS oA oD cR nu de (mem p 5) 6 = emS oA oD cR (aF p) (bF p) (grp p) (asS oA cR (grp p) 6 - elS cl a2 (grp p) 36 - (asS oD cR (grp p) 6 - elS cl a2 (grp p) 36)) 6 := by
  rw [q_as h, q_db h, cmS_c h _ 6 (Nat.le_refl 6), q_grp h]
  exact cmS_emS _ 6 (fun k hk => mAm_miV (bF_pos h.1 h.2.1 hk) (bk_A h.2.2.2.1 hk).1 (bk_D h.2.2.2.1 hk).1)
end IV
theorem sI6 {f : Nat → Int32} (h : ∀ k, k < 6 → 0 ≤ (f k).toInt ∧ (f k).toInt ≤ 1000) : (sI f 6).toInt = (f 0).toInt + (f 1).toInt + (f 2).toInt + (f 3).toInt + (f 4).toInt + (f 5).toInt := by
  have h0 := h 0 (by omega)
  have h1 := h 1 (by omega)
  have h2 := h 2 (by omega)
  have h3 := h 3 (by omega)
  have h4 := h 4 (by omega)
  have h5 := h 5 (by omega)
  have ad : ∀ x y : Int32, 0 ≤ x.toInt → x.toInt ≤ 1000000 → 0 ≤ y.toInt → y.toInt ≤ 1000 → (x + y).toInt = x.toInt + y.toInt := fun x y a1 a2 a3 a4 => by
    rw [Int32.toInt_add]
    exact bmodI (by omega) (by omega)
  have z : (0 : Int32).toInt = 0 := i32_0
  show (0 + f 0 + f 1 + f 2 + f 3 + f 4 + f 5).toInt = _
  have g0 := ad 0 (f 0) (by omega) (by omega) (by omega) (by omega)
  have g1 := ad (0 + f 0) (f 1) (by omega) (by omega) (by omega) (by omega)
  have g2 := ad (0 + f 0 + f 1) (f 2) (by omega) (by omega) (by omega) (by omega)
  have g3 := ad (0 + f 0 + f 1 + f 2) (f 3) (by omega) (by omega) (by omega) (by omega)
  have g4 := ad (0 + f 0 + f 1 + f 2 + f 3) (f 4) (by omega) (by omega) (by omega) (by omega)
  have g5 := ad (0 + f 0 + f 1 + f 2 + f 3 + f 4) (f 5) (by omega) (by omega) (by omega) (by omega)
  omega
theorem upd_col (p : Nat → Int32) {o c : Nat} (x : Int32) (hc : c < 6) (o1 c1 : Nat) (hc1 : c1 < 6) : upd p (6 * o + c) x (6 * o1 + c1) = if o1 = o ∧ c1 = c then x else p (6 * o1 + c1) := by
  by_cases e : o1 = o ∧ c1 = c
  · rw [if_pos e, e.1, e.2, upd_at]
  · rw [if_neg e]
    exact upd_off _ _ (by omega)
theorem smH_v {p : Nat → Int32} (hp : pctB p) {o c : Nat} (ho : o < 6) (hc : c < 6) {x : Int32} (h0 : 0 ≤ x.toInt) (h1 : x.toInt ≤ 200) :
    (smH p o c x).toInt = (sI (fun o => p (6 * o + c)) 6).toInt - (p (6 * o + c)).toInt + x.toInt ∧ sI (fun o => p (6 * o + c)) 6 - p (6 * o + c) + x = smH p o c x ∧ ∀ o1, o1 < 6 → (upd p (6 * o + c) x (6 * o1 + c)).toInt ≤ (smH p o c x).toInt := by
  have b : ∀ o1, o1 < 6 → 0 ≤ (p (6 * o1 + c)).toInt ∧ (p (6 * o1 + c)).toInt ≤ 100 := fun o1 h => hp _ (by omega)
  have e1 := sI6 (f := fun o => p (6 * o + c)) (fun k hk => by have := b k hk; omega)
  have e2 := sI6 (f := fun o1 => upd p (6 * o + c) x (6 * o1 + c)) (fun k hk => by
    have := b k hk
    show 0 ≤ (upd p (6 * o + c) x (6 * k + c)).toInt ∧ (upd p (6 * o + c) x (6 * k + c)).toInt ≤ 1000
    rw [upd_col p x hc k c hc]
    split <;> omega)
  have e3 : (smH p o c x).toInt = _ := e2
  have u : ∀ o1, upd p (6 * o + c) x (6 * o1 + c) = if o1 = o then x else p (6 * o1 + c) := fun o1 => by
    rw [upd_col p x hc o1 c hc]
    by_cases g : o1 = o
    · rw [if_pos ⟨g, rfl⟩, if_pos g]
    · rw [if_neg (fun h => g h.1), if_neg g]
  rw [u 0, u 1, u 2, u 3, u 4, u 5] at e3
  have b0 := b 0 (by omega)
  have b1 := b 1 (by omega)
  have b2 := b 2 (by omega)
  have b3 := b 3 (by omega)
  have b4 := b 4 (by omega)
  have b5 := b 5 (by omega)
  have key : (smH p o c x).toInt = (sI (fun o => p (6 * o + c)) 6).toInt - (p (6 * o + c)).toInt + x.toInt ∧ ∀ o1, o1 < 6 → (if o1 = o then x else p (6 * o1 + c)).toInt ≤ (smH p o c x).toInt := by
    have co : o = 0 ∨ o = 1 ∨ o = 2 ∨ o = 3 ∨ o = 4 ∨ o = 5 := by omega
    rw [e3, e1]
    constructor
    · rcases co with rfl | rfl | rfl | rfl | rfl | rfl <;> simp <;> omega
    · intro o1 h9
      have c1 : o1 = 0 ∨ o1 = 1 ∨ o1 = 2 ∨ o1 = 3 ∨ o1 = 4 ∨ o1 = 5 := by omega
      have nn : ∀ k, k < 6 → 0 ≤ (if k = o then x else p (6 * k + c)).toInt := fun k hk => by
        have := b k hk
        split <;> omega
      have n0 := nn 0 (by omega)
      have n1 := nn 1 (by omega)
      have n2 := nn 2 (by omega)
      have n3 := nn 3 (by omega)
      have n4 := nn 4 (by omega)
      have n5 := nn 5 (by omega)
      rcases c1 with rfl | rfl | rfl | rfl | rfl | rfl <;> omega
  refine ⟨key.1, ?_, fun o1 h => by rw [u o1]; exact key.2 o1 h⟩
  apply Int32.toInt_inj.mp
  rw [key.1]
  have bo := b o ho
  have s1 : (sI (fun o => p (6 * o + c)) 6 - p (6 * o + c)).toInt = (sI (fun o => p (6 * o + c)) 6).toInt - (p (6 * o + c)).toInt := by
    rw [Int32.toInt_sub]
    exact bmodI (by omega) (by omega)
  rw [Int32.toInt_add, s1]
  exact bmodI (by omega) (by omega)
theorem i32_le {x y : Int32} : x ≤ y ↔ x.toInt ≤ y.toInt := Int32.le_iff_toInt_le
theorem pcB_upd {p : Nat → Int32} (h : pcB p) {o c : Nat} (ho : o < 6) (hc : c < 6) (hn : o ≠ c) {x : Int32} (h0 : 0 ≤ x.toInt) (h1 : x.toInt ≤ 200) (hs : smH p o c x ≤ 100) : pcB (upd p (6 * o + c) x) := by
  obtain ⟨a1, a2, a3⟩ := h
  obtain ⟨s1, -, s3⟩ := smH_v a1 ho hc h0 h1
  rw [i32_le, i32_100] at hs
  refine ⟨fun k hk => ?_, fun c1 hc1 => ?_, fun c1 hc1 => ?_⟩
  · have e := upd_col p (o := o) (c := c) x hc (k / 6) (k % 6) (by omega)
    rw [show 6 * (k / 6) + k % 6 = k by omega] at e
    rw [e]
    split
    · have := s3 o ho
      rw [upd_at] at this
      omega
    · exact a1 k hk
  · rw [show 7 * c1 = 6 * c1 + c1 by omega, upd_col p x hc c1 c1 hc1, if_neg (by omega), show 6 * c1 + c1 = 7 * c1 by omega]
    exact a2 c1 hc1
  · by_cases e : c1 = c
    · subst e
      have g := sI6 (f := fun o1 => upd p (6 * o + c1) x (6 * o1 + c1)) (fun k hk => by
        have := a1 (6 * k + c1) (by omega)
        show 0 ≤ (upd p (6 * o + c1) x (6 * k + c1)).toInt ∧ (upd p (6 * o + c1) x (6 * k + c1)).toInt ≤ 1000
        rw [upd_col p x hc k c1 hc]
        split <;> omega)
      rw [← g]
      exact hs
    · have u : ∀ o1, upd p (6 * o + c) x (6 * o1 + c1) = p (6 * o1 + c1) := fun o1 => by
        rw [upd_col p x hc o1 c1 hc1, if_neg (fun h => e h.2)]
      rw [u 0, u 1, u 2, u 3, u 4, u 5]
      exact a3 c1 hc1
theorem tk_iff {p : Nat → Int32} (h : pcB p) (eq : Nat → Int64) {o c : Nat} (ho : o < 6) (hc : c < 6) (hn : o ≠ c) {x : Int32} (h0 : 0 ≤ x.toInt) (h1 : x.toInt ≤ 200) : tkOK p eq o c x ↔ (smH p o c x ≤ 100 ∧ ¬ dW (upd p (6 * o + c) x) 0 = 0) := by
  obtain ⟨s1, s2, s3⟩ := smH_v h.1 ho hc h0 h1
  unfold tkOK
  rw [s2, Int32.not_lt]
  constructor
  · rintro ⟨a, b⟩
    exact ⟨a, (piv_dW (pcB_upd h ho hc hn h0 h1 a) eq).mp b⟩
  · rintro ⟨a, b⟩
    exact ⟨a, (piv_dW (pcB_upd h ho hc hn h0 h1 a) eq).mpr b⟩
