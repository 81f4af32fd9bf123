theorem aF0 (p : Nat → Int32) : aF p 0 = 1 := by unfold aF; rw [if_pos rfl]
theorem bF0 (p : Nat → Int32) : bF p 0 = 1 := by unfold bF; rw [if_pos rfl]
theorem cP_at (oP : Nat → Int32) : ∀ k c, cP oP k c = if c < k then 0 else oP c
  | 0, c => by rw [cP, if_neg (Nat.not_lt_zero c)]
  | k + 1, c => by
    rw [cP]
    by_cases e : c = k
    · subst e; rw [upd_at, if_pos (Nat.lt_succ_self c)]
    · rw [upd_off _ _ e, cP_at oP k c]
      by_cases h : c < k
      · rw [if_pos h, if_pos (by omega)]
      · rw [if_neg h, if_neg (by omega)]
theorem cE_at (oE oP : Nat → Int32) : ∀ k c, cE oE oP k c = if c < k then oE c + oP c else oE c
  | 0, c => by rw [cE, if_neg (Nat.not_lt_zero c)]
  | k + 1, c => by
    rw [cE]
    by_cases e : c = k
    · subst e
      rw [upd_at, if_pos (Nat.lt_succ_self c), cE_at oE oP c c, cP_at, if_neg (Nat.lt_irrefl c), if_neg (Nat.lt_irrefl c)]
    · rw [upd_off _ _ e, cE_at oE oP k c]
      by_cases h : c < k
      · rw [if_pos h, if_pos (by omega)]
      · rw [if_neg h, if_neg (by omega)]
section IU
variable {p : Nat → Int32} {nu de : Nat → Int64} {oA oD oE oP cR aR hR ad a2 : Nat → Int32} {z : Nat}
theorem iv_take (h : iv_ p nu de oA oD oE oP cR aR hR ad a2 z) (eq : Nat → Int64) {o c : Nat} (ho : o < 6) (hc : c < 6) (hn : o ≠ c) {x : Int32} (h0 : 0 ≤ x.toInt) (h1 : x.toInt ≤ 200) (hs : smH p o c x ≤ 100) (hW : ¬ dW (upd p (6 * o + c) x) 0 = 0) :
    iv_ (upd p (6 * o + c) x) (ksN (ds (weO (upd p (6 * o + c) x) eq 5) 5).1 (ds (weO (upd p (6 * o + c) x) eq 5) 5).2 nu 5) (ksD (ds (weO (upd p (6 * o + c) x) eq 5) 5).1 (ds (weO (upd p (6 * o + c) x) eq 5) 5).2 de 5) oA oD oE oP cR aR hR ad a2 z := by
  have hp := pcB_upd h.1 ho hc hn h0 h1 hs
  exact ⟨hp, hW, fun c1 hc1 => sh_eq hp eq nu de hW (by rw [(h.2.2.1 0 (by omega)).1, aF0]) (by rw [(h.2.2.1 0 (by omega)).2, bF0]) c1 hc1, h.2.2.2⟩
theorem iv_books (h : iv_ p nu de oA oD oE oP cR aR hR ad a2 z) {c : Nat} (hc : c < 6) {x1 x2 x3 x4 : Int32} (h1 : inB x1 0 1000000 = true) (h2 : inB x2 0 1000000 = true) (h3 : inB x3 (-1000000) 1000000 = true) (h4 : inB x4 (-1000000) 1000000 = true) (h5 : x1 = x2 + x3 + x4) :
    iv_ p nu de (upd oA c x1) (upd oD c x2) (upd oE c x3) (upd oP c x4) cR aR hR ad a2 z := by
  refine ⟨h.1, h.2.1, h.2.2.1, fun c1 hc1 => ?_, h.2.2.2.2⟩
  have b := h.2.2.2.1 c1 hc1
  by_cases e : c1 = c
  · subst e
    rw [upd_at, upd_at, upd_at, upd_at]
    have m : (1000000 : Int32).toInt = 1000000 := by decide
    have n : (-1000000 : Int32).toInt = -1000000 := by decide
    have t1 := inB_t h1
    have t2 := inB_t h2
    have t3 := inB_t h3
    have t4 := inB_t h4
    rw [i32_0, m] at t1 t2
    rw [n, m] at t3 t4
    have s1 : (x2 + x3).toInt = x2.toInt + x3.toInt := by
      rw [Int32.toInt_add]; exact bmodI (by omega) (by omega)
    have s2 : x1.toInt = x2.toInt + x3.toInt + x4.toInt := by
      rw [h5, Int32.toInt_add, s1]; exact bmodI (by omega) (by omega)
    exact ⟨t1, t2, t3, t4, s2, b.2.2.2.2.2⟩
  · rw [upd_off _ _ e, upd_off _ _ e, upd_off _ _ e, upd_off _ _ e]
    exact b
theorem iv_rates (h : iv_ p nu de oA oD oE oP cR aR hR ad a2 z) {c : Nat} (hc : c < 6) {x1 x2 x3 : Int32} (h1 : inB x1 1 1000 = true) (h2 : inB x2 1 1000 = true) (h3 : inB x3 1 1000 = true) :
    iv_ p nu de oA oD oE oP (upd cR c x1) (upd aR c x2) (upd hR c x3) ad a2 z := by
  refine ⟨h.1, h.2.1, h.2.2.1, fun c1 hc1 => ?_, h.2.2.2.2⟩
  have b := h.2.2.2.1 c1 hc1
  by_cases e : c1 = c
  · subst e
    rw [upd_at, upd_at, upd_at]
    have m : (1000 : Int32).toInt = 1000 := by decide
    have t1 := inB_t h1
    have t2 := inB_t h2
    have t3 := inB_t h3
    rw [i32_1, m] at t1 t2 t3
    exact ⟨b.1, b.2.1, b.2.2.1, b.2.2.2.1, b.2.2.2.2.1, t1, t2, t3⟩
  · rw [upd_off _ _ e, upd_off _ _ e, upd_off _ _ e]
    exact b
theorem iv_close (h : iv_ p nu de oA oD oE oP cR aR hR ad a2 z) (hz : z < 12) : iv_ p nu de oA oD (cE oE oP 6) (cP oP 6) cR aR hR ad a2 (z + 1) := by
  refine ⟨h.1, h.2.1, h.2.2.1, fun c1 hc1 => ?_, h.2.2.2.2.1, by omega⟩
  have b := h.2.2.2.1 c1 hc1
  rw [cE_at, cP_at, if_pos hc1, if_pos hc1, i32_0]
  have s : (oE c1 + oP c1).toInt = (oE c1).toInt + (oP c1).toInt := by
    rw [Int32.toInt_add]; exact bmodI (by omega) (by omega)
  rw [s]
  exact ⟨b.1, b.2.1, by omega, by omega, by omega, b.2.2.2.2.2⟩
theorem iv_admit (h : iv_ p nu de oA oD oE oP cR aR hR ad a2 z) {o c : Nat} (ho : o < 6) (hc : c < 6) (x : Int32) : iv_ p nu de oA oD oE oP cR aR hR (upd ad (6 * c + o) x) (upd a2 (6 * o + c) x) z := by
  refine ⟨h.1, h.2.1, h.2.2.1, h.2.2.2.1, fun i j hi hj => ?_, h.2.2.2.2.2⟩
  by_cases e : i = c ∧ j = o
  · rw [e.1, e.2, upd_at, upd_at]
  · rw [upd_off _ _ (by omega), upd_off _ _ (by omega)]
    exact h.2.2.2.2.1 i j hi hj
end IU
theorem prB_sym {x y : Int32} (h : prB x y = true) : prB y x = true := prB_of (prB_2 h) (prB_1 h) (fun e => prB_3 h e.symm)
theorem ne_pr {o c : Nat} (h : prB (nI o) (nI c) = true) : o ≠ c := fun e => prB_3 h (by rw [e])
theorem res_of {x : Int32} {z : Nat} (hz : z ≤ 12) (h : inB x 0 (nI z - 1) = true) : ∃ j, j < z ∧ x = nI j := by
  have e := inB_t h
  have s : (nI z - 1).toInt = (z : Int) - 1 := by
    rw [Int32.toInt_sub, nI_toInt (by omega), i32_1]; exact bmodI (by omega) (by omega)
  rw [i32_0, s] at e
  refine ⟨x.toInt.toNat, by omega, Int32.toInt_inj.mp ?_⟩
  rw [nI_toInt (by omega)]
  omega
abbrev NX_ (Wn : Heap → List Loc → Array Slot → Prop) (ss : State) (D : va_G) (cI cJ : ClassId) (a bb : Nat → Nat) (o0 b i : Nat) : Prop :=
  ∀ {p : Nat → Int32} {nu de eq : Nat → Int64} {am nx oA oD oE oP cR aR hR cl ad gw pr a2 : Nat → Int32} {ou sq ab be : Nat → Int64} {nw tn : Nat → Int32} {th : Int32} {z : Nat} {H : Heap} {locs : List Loc} {ls : Array Slot}, iv_ p nu de oA oD oE oP cR aR hR ad a2 z → va_P D vwCl (LW a bb o0 cI cJ p nu de eq am nx oA oD oE oP cR aR hR cl ad gw pr (nI z) ou p cl a2 gw oA oD oE oP cR aR hR pr sq ab be nw tn th (nI z)) H →
    va_D (lwA ss) (LW a bb o0 cI cJ p nu de eq am nx oA oD oE oP cR aR hR cl ad gw pr (nI z) ou p cl a2 gw oA oD oE oP cR aR hR pr sq ab be nw tn th (nI z)) → va_S (lwA ss) ss.heap H locs → lv_has ls 8 (LOC b a bb o0 i) → Wn H locs ls
section KC
variable {pp : Program} {ll : Launch} {ee : Env} {ss : State} {mm : MethodId} {bel : List Frame} {mth : Method} {cde : Code} {H : Heap} {locs : List Loc} {cells slots : Nat} {Q : State → Prop} {ls : Array Slot}
variable {b L i : Nat} {xs : Nat → Int32} {D : va_G} {cI cJ : ClassId} {a bb : Nat → Nat} {o0 : Nat}
variable {p : Nat → Int32} {nu de eq : Nat → Int64} {am nx oA oD oE oP cR aR hR cl ad gw pr a2 : Nat → Int32} {z : Nat} {ou sq ab be : Nat → Int64} {nw tn : Nat → Int32} {th : Int32}

theorem kc_hold (hI : iv_ p nu de oA oD oE oP cR aR hR ad a2 z) (C : lwC pp ll ss mm mth cde b L xs D cI cJ) (hi : i + 5 < L) (hcs : cells + 1 ≤ 1070 ∧ slots + 6 ≤ 8714) (hP : va_P D vwCl (LW a bb o0 cI cJ p nu de eq am nx oA oD oE oP cR aR hR cl ad gw pr (nI z) ou p cl a2 gw oA oD oE oP cR aR hR pr sq ab be nw tn th (nI z)) H) (hD : va_D (lwA ss) (LW a bb o0 cI cJ p nu de eq am nx oA oD oE oP cR aR hR cl ad gw pr (nI z) ou p cl a2 gw oA oD oE oP cR aR hR pr sq ab be nw tn th (nI z))) (hS : va_S (lwA ss) ss.heap H locs) (hl : lv_has ls 8 (LOC b a bb o0 i))
    (nxt : NX_ (fun H locs ls => W pp ll ee room_1 ss mm #[Value.ref b] bel mth cde H locs (cells + 1) (slots + 6) Q (F0 mm 1472 ls [])) ss D cI cJ a bb o0 b i) : W pp ll ee room_1 ss mm #[Value.ref b] bel mth cde H locs cells slots Q (F0 mm 156 ls []) := by
  by_cases hq : prB (xs (i + 1)) (xs (i + 2)) = true ∧ inB (xs (i + 3)) 0 100 = true
  · obtain ⟨o, ho, e1⟩ := cof (prB_1 hq.1)
    obtain ⟨c, hc, e2⟩ := cof (prB_2 hq.1)
    have hpr : prB (nI o) (nI c) = true := by rw [← e1, ← e2]; exact hq.1
    have hn := ne_pr hpr
    have t := inB_t hq.2
    rw [i32_0, i32_100] at t
    have ti := tk_iff hI.1 eq ho hc hn (x := xs (i + 3)) (by omega) (by omega)
    by_cases hs : smH p o c (xs (i + 3)) ≤ 100
    · by_cases hW : dW (upd p (6 * o + c) (xs (i + 3))) 0 = 0
      · exact kv_hold_no o c (xs (i + 3)) ho hc hpr hq.2 (fun h => (ti.mp h).2 hW) hs hW e1 e2 rfl C hi hcs hP hD hS hl (fun u u8 H locs ls hP hD hS hl => nxt hI hP hD hS hl)
      · exact kv_hold o c (xs (i + 3)) ho hc hpr hq.2 (ti.mpr ⟨hs, hW⟩) hs (okB_p (pcB_upd hI.1 ho hc hn (by omega) (by omega) hs)) hW e1 e2 rfl C hi hcs hP hD hS hl (fun u u8 H locs ls hP hD hS hl => nxt (iv_take hI eq ho hc hn (by omega) (by omega) hs hW) hP hD hS hl)
    · exact kv_hold_hi o c (xs (i + 3)) ho hc hpr hq.2 (fun h => hs (ti.mp h).1) hs e1 e2 rfl C hi hcs hP hD hS hl (fun u H locs ls hP hD hS hl => nxt hI hP hD hS hl)
  · exact kv_hold_bad _ _ _ hq rfl rfl rfl C hi hcs hP hD hS hl (fun H locs ls hP hD hS hl => nxt hI hP hD hS hl)

theorem kc_acquire (hI : iv_ p nu de oA oD oE oP cR aR hR ad a2 z) (C : lwC pp ll ss mm mth cde b L xs D cI cJ) (hi : i + 5 < L) (hcs : cells + 1 ≤ 1070 ∧ slots + 6 ≤ 8714) (hP : va_P D vwCl (LW a bb o0 cI cJ p nu de eq am nx oA oD oE oP cR aR hR cl ad gw pr (nI z) ou p cl a2 gw oA oD oE oP cR aR hR pr sq ab be nw tn th (nI z)) H) (hD : va_D (lwA ss) (LW a bb o0 cI cJ p nu de eq am nx oA oD oE oP cR aR hR cl ad gw pr (nI z) ou p cl a2 gw oA oD oE oP cR aR hR pr sq ab be nw tn th (nI z))) (hS : va_S (lwA ss) ss.heap H locs) (hl : lv_has ls 8 (LOC b a bb o0 i))
    (nxt : NX_ (fun H locs ls => W pp ll ee room_1 ss mm #[Value.ref b] bel mth cde H locs (cells + 1) (slots + 6) Q (F0 mm 1472 ls [])) ss D cI cJ a bb o0 b i) : W pp ll ee room_1 ss mm #[Value.ref b] bel mth cde H locs cells slots Q (F0 mm 236 ls []) := by
  by_cases hq : prB (xs (i + 1)) (xs (i + 2)) = true ∧ inB (xs (i + 3)) 1 100 = true ∧ inB (xs (i + 4)) 0 1000000 = true
  · obtain ⟨o, ho, e1⟩ := cof (prB_1 hq.1)
    obtain ⟨c, hc, e2⟩ := cof (prB_2 hq.1)
    have hpr : prB (nI o) (nI c) = true := by rw [← e1, ← e2]; exact hq.1
    have hn := ne_pr hpr
    have t := inB_t hq.2.1
    rw [i32_1, i32_100] at t
    have b0 := hI.1.1 (6 * o + c) (by omega)
    have s : (p (6 * o + c) + xs (i + 3)).toInt = (p (6 * o + c)).toInt + (xs (i + 3)).toInt := by
      rw [Int32.toInt_add]; exact bmodI (by omega) (by omega)
    have h0 : 0 ≤ (p (6 * o + c) + xs (i + 3)).toInt := by omega
    have h1 : (p (6 * o + c) + xs (i + 3)).toInt ≤ 200 := by omega
    have ti := tk_iff hI.1 eq ho hc hn h0 h1
    have hg := q_gw hI.2.2.2.1 hc hq.2.1
    by_cases hs : smH p o c (p (6 * o + c) + xs (i + 3)) ≤ 100
    · by_cases hW : dW (upd p (6 * o + c) (p (6 * o + c) + xs (i + 3))) 0 = 0
      · exact kv_acquire_no o c (xs (i + 3)) (xs (i + 4)) ho hc hpr hq.2.1 hq.2.2 (fun h => (ti.mp h).2 hW) hs hW e1 e2 rfl rfl C hi hcs hP hD hS hl (fun u u8 H locs ls hP hD hS hl => nxt hI hP hD hS hl)
      · refine kv_acquire o c (xs (i + 3)) (xs (i + 4)) ho hc hpr hq.2.1 hq.2.2 (ti.mpr ⟨hs, hW⟩) hs (okB_p (pcB_upd hI.1 ho hc hn h0 h1 hs)) hW e1 e2 rfl rfl C hi hcs hP hD hS hl (fun u u8 H locs ls hP hD hS hl => ?_)
        rw [← hg] at hP hD
        exact nxt (iv_take hI eq ho hc hn h0 h1 hs hW) hP hD hS hl
    · exact kv_acquire_hi o c (xs (i + 3)) (xs (i + 4)) ho hc hpr hq.2.1 hq.2.2 (fun h => hs (ti.mp h).1) hs e1 e2 rfl rfl C hi hcs hP hD hS hl (fun u H locs ls hP hD hS hl => nxt hI hP hD hS hl)
  · exact kv_acquire_bad _ _ _ _ hq rfl rfl rfl rfl C hi hcs hP hD hS hl (fun H locs ls hP hD hS hl => nxt hI hP hD hS hl)

theorem kc_held (hI : iv_ p nu de oA oD oE oP cR aR hR ad a2 z) (C : lwC pp ll ss mm mth cde b L xs D cI cJ) (hi : i + 5 < L) (hcs : cells + 1 ≤ 1070 ∧ slots + 6 ≤ 8714) (hP : va_P D vwCl (LW a bb o0 cI cJ p nu de eq am nx oA oD oE oP cR aR hR cl ad gw pr (nI z) ou p cl a2 gw oA oD oE oP cR aR hR pr sq ab be nw tn th (nI z)) H) (hD : va_D (lwA ss) (LW a bb o0 cI cJ p nu de eq am nx oA oD oE oP cR aR hR cl ad gw pr (nI z) ou p cl a2 gw oA oD oE oP cR aR hR pr sq ab be nw tn th (nI z))) (hS : va_S (lwA ss) ss.heap H locs) (hl : lv_has ls 8 (LOC b a bb o0 i))
    (nxt : NX_ (fun H locs ls => W pp ll ee room_1 ss mm #[Value.ref b] bel mth cde H locs (cells + 1) (slots + 6) Q (F0 mm 1472 ls [])) ss D cI cJ a bb o0 b i) : W pp ll ee room_1 ss mm #[Value.ref b] bel mth cde H locs cells slots Q (F0 mm 328 ls []) := by
  by_cases hq : inB (xs (i + 1)) 0 5 = true ∧ inB (xs (i + 2)) 0 5 = true
  · obtain ⟨o, ho, e1⟩ := cof hq.1
    obtain ⟨c, hc, e2⟩ := cof hq.2
    exact kv_held o c ho hc e1 e2 C hi hcs hP hD hS hl (fun H locs ls hP hD hS hl => nxt hI hP hD hS hl)
  · exact kv_held_bad _ _ hq rfl rfl C hi hcs hP hD hS hl (fun H locs ls hP hD hS hl => nxt hI hP hD hS hl)

theorem kc_shareNumerator (hI : iv_ p nu de oA oD oE oP cR aR hR ad a2 z) (C : lwC pp ll ss mm mth cde b L xs D cI cJ) (hi : i + 5 < L) (hcs : cells + 1 ≤ 1070 ∧ slots + 6 ≤ 8714) (hP : va_P D vwCl (LW a bb o0 cI cJ p nu de eq am nx oA oD oE oP cR aR hR cl ad gw pr (nI z) ou p cl a2 gw oA oD oE oP cR aR hR pr sq ab be nw tn th (nI z)) H) (hD : va_D (lwA ss) (LW a bb o0 cI cJ p nu de eq am nx oA oD oE oP cR aR hR cl ad gw pr (nI z) ou p cl a2 gw oA oD oE oP cR aR hR pr sq ab be nw tn th (nI z))) (hS : va_S (lwA ss) ss.heap H locs) (hl : lv_has ls 8 (LOC b a bb o0 i))
    (nxt : NX_ (fun H locs ls => W pp ll ee room_1 ss mm #[Value.ref b] bel mth cde H locs (cells + 1) (slots + 6) Q (F0 mm 1472 ls [])) ss D cI cJ a bb o0 b i) : W pp ll ee room_1 ss mm #[Value.ref b] bel mth cde H locs cells slots Q (F0 mm 396 ls []) := by
  by_cases hq : inB (xs (i + 1)) 0 5 = true
  · obtain ⟨c, hc, e1⟩ := cof hq
    exact kv_shareNumerator c hc (okB_p hI.1) hI.2.1 (hI.2.2.1 c hc).1 e1 C hi hcs hP hD hS hl (fun u8 H locs ls hP hD hS hl => nxt hI hP hD hS hl)
  · exact kv_shareNumerator_bad _ hq rfl C hi hcs hP hD hS hl (fun H locs ls hP hD hS hl => nxt hI hP hD hS hl)

theorem kc_shareDenominator (hI : iv_ p nu de oA oD oE oP cR aR hR ad a2 z) (C : lwC pp ll ss mm mth cde b L xs D cI cJ) (hi : i + 5 < L) (hcs : cells + 1 ≤ 1070 ∧ slots + 6 ≤ 8714) (hP : va_P D vwCl (LW a bb o0 cI cJ p nu de eq am nx oA oD oE oP cR aR hR cl ad gw pr (nI z) ou p cl a2 gw oA oD oE oP cR aR hR pr sq ab be nw tn th (nI z)) H) (hD : va_D (lwA ss) (LW a bb o0 cI cJ p nu de eq am nx oA oD oE oP cR aR hR cl ad gw pr (nI z) ou p cl a2 gw oA oD oE oP cR aR hR pr sq ab be nw tn th (nI z))) (hS : va_S (lwA ss) ss.heap H locs) (hl : lv_has ls 8 (LOC b a bb o0 i))
    (nxt : NX_ (fun H locs ls => W pp ll ee room_1 ss mm #[Value.ref b] bel mth cde H locs (cells + 1) (slots + 6) Q (F0 mm 1472 ls [])) ss D cI cJ a bb o0 b i) : W pp ll ee room_1 ss mm #[Value.ref b] bel mth cde H locs cells slots Q (F0 mm 451 ls []) := by
  by_cases hq : inB (xs (i + 1)) 0 5 = true
  · obtain ⟨c, hc, e1⟩ := cof hq
    exact kv_shareDenominator c hc (okB_p hI.1) hI.2.1 (hI.2.2.1 c hc).2 e1 C hi hcs hP hD hS hl (fun u8 H locs ls hP hD hS hl => nxt hI hP hD hS hl)
  · exact kv_shareDenominator_bad _ hq rfl C hi hcs hP hD hS hl (fun H locs ls hP hD hS hl => nxt hI hP hD hS hl)

theorem kc_goodwill (hI : iv_ p nu de oA oD oE oP cR aR hR ad a2 z) (C : lwC pp ll ss mm mth cde b L xs D cI cJ) (hi : i + 5 < L) (hcs : cells + 1 ≤ 1070 ∧ slots + 6 ≤ 8714) (hP : va_P D vwCl (LW a bb o0 cI cJ p nu de eq am nx oA oD oE oP cR aR hR cl ad gw pr (nI z) ou p cl a2 gw oA oD oE oP cR aR hR pr sq ab be nw tn th (nI z)) H) (hD : va_D (lwA ss) (LW a bb o0 cI cJ p nu de eq am nx oA oD oE oP cR aR hR cl ad gw pr (nI z) ou p cl a2 gw oA oD oE oP cR aR hR pr sq ab be nw tn th (nI z))) (hS : va_S (lwA ss) ss.heap H locs) (hl : lv_has ls 8 (LOC b a bb o0 i))
    (nxt : NX_ (fun H locs ls => W pp ll ee room_1 ss mm #[Value.ref b] bel mth cde H locs (cells + 1) (slots + 6) Q (F0 mm 1472 ls [])) ss D cI cJ a bb o0 b i) : W pp ll ee room_1 ss mm #[Value.ref b] bel mth cde H locs cells slots Q (F0 mm 587 ls []) := by
  by_cases hq : inB (xs (i + 1)) 0 5 = true
  · obtain ⟨c, hc, e1⟩ := cof hq
    exact kv_goodwill c hc   e1 C hi hcs hP hD hS hl (fun H locs ls hP hD hS hl => nxt hI hP hD hS hl)
  · exact kv_goodwill_bad _ hq rfl C hi hcs hP hD hS hl (fun H locs ls hP hD hS hl => nxt hI hP hD hS hl)

theorem kc_netValue (hI : iv_ p nu de oA oD oE oP cR aR hR ad a2 z) (C : lwC pp ll ss mm mth cde b L xs D cI cJ) (hi : i + 5 < L) (hcs : cells + 1 ≤ 1070 ∧ slots + 6 ≤ 8714) (hP : va_P D vwCl (LW a bb o0 cI cJ p nu de eq am nx oA oD oE oP cR aR hR cl ad gw pr (nI z) ou p cl a2 gw oA oD oE oP cR aR hR pr sq ab be nw tn th (nI z)) H) (hD : va_D (lwA ss) (LW a bb o0 cI cJ p nu de eq am nx oA oD oE oP cR aR hR cl ad gw pr (nI z) ou p cl a2 gw oA oD oE oP cR aR hR pr sq ab be nw tn th (nI z))) (hS : va_S (lwA ss) ss.heap H locs) (hl : lv_has ls 8 (LOC b a bb o0 i))
    (nxt : NX_ (fun H locs ls => W pp ll ee room_1 ss mm #[Value.ref b] bel mth cde H locs (cells + 1) (slots + 6) Q (F0 mm 1472 ls [])) ss D cI cJ a bb o0 b i) : W pp ll ee room_1 ss mm #[Value.ref b] bel mth cde H locs cells slots Q (F0 mm 799 ls []) := by
  by_cases hq : inB (xs (i + 1)) 0 5 = true
  · obtain ⟨c, hc, e1⟩ := cof hq
    exact kv_netValue c hc  (q_net hI.2.2.2.1 hc) e1 C hi hcs hP hD hS hl (fun H locs ls hP hD hS hl => nxt hI hP hD hS hl)
  · exact kv_netValue_bad _ hq rfl C hi hcs hP hD hS hl (fun H locs ls hP hD hS hl => nxt hI hP hD hS hl)

theorem kc_translatedEquity (hI : iv_ p nu de oA oD oE oP cR aR hR ad a2 z) (C : lwC pp ll ss mm mth cde b L xs D cI cJ) (hi : i + 5 < L) (hcs : cells + 1 ≤ 1070 ∧ slots + 6 ≤ 8714) (hP : va_P D vwCl (LW a bb o0 cI cJ p nu de eq am nx oA oD oE oP cR aR hR cl ad gw pr (nI z) ou p cl a2 gw oA oD oE oP cR aR hR pr sq ab be nw tn th (nI z)) H) (hD : va_D (lwA ss) (LW a bb o0 cI cJ p nu de eq am nx oA oD oE oP cR aR hR cl ad gw pr (nI z) ou p cl a2 gw oA oD oE oP cR aR hR pr sq ab be nw tn th (nI z))) (hS : va_S (lwA ss) ss.heap H locs) (hl : lv_has ls 8 (LOC b a bb o0 i))
    (nxt : NX_ (fun H locs ls => W pp ll ee room_1 ss mm #[Value.ref b] bel mth cde H locs (cells + 1) (slots + 6) Q (F0 mm 1472 ls [])) ss D cI cJ a bb o0 b i) : W pp ll ee room_1 ss mm #[Value.ref b] bel mth cde H locs cells slots Q (F0 mm 855 ls []) := by
  by_cases hq : inB (xs (i + 1)) 0 5 = true
  · obtain ⟨c, hc, e1⟩ := cof hq
    exact kv_translatedEquity c hc  (bk_E hI.2.2.2.1 hc) e1 C hi hcs hP hD hS hl (fun H locs ls hP hD hS hl => nxt hI hP hD hS hl)
  · exact kv_translatedEquity_bad _ hq rfl C hi hcs hP hD hS hl (fun H locs ls hP hD hS hl => nxt hI hP hD hS hl)

theorem kc_translatedResult (hI : iv_ p nu de oA oD oE oP cR aR hR ad a2 z) (C : lwC pp ll ss mm mth cde b L xs D cI cJ) (hi : i + 5 < L) (hcs : cells + 1 ≤ 1070 ∧ slots + 6 ≤ 8714) (hP : va_P D vwCl (LW a bb o0 cI cJ p nu de eq am nx oA oD oE oP cR aR hR cl ad gw pr (nI z) ou p cl a2 gw oA oD oE oP cR aR hR pr sq ab be nw tn th (nI z)) H) (hD : va_D (lwA ss) (LW a bb o0 cI cJ p nu de eq am nx oA oD oE oP cR aR hR cl ad gw pr (nI z) ou p cl a2 gw oA oD oE oP cR aR hR pr sq ab be nw tn th (nI z))) (hS : va_S (lwA ss) ss.heap H locs) (hl : lv_has ls 8 (LOC b a bb o0 i))
    (nxt : NX_ (fun H locs ls => W pp ll ee room_1 ss mm #[Value.ref b] bel mth cde H locs (cells + 1) (slots + 6) Q (F0 mm 1472 ls [])) ss D cI cJ a bb o0 b i) : W pp ll ee room_1 ss mm #[Value.ref b] bel mth cde H locs cells slots Q (F0 mm 911 ls []) := by
  by_cases hq : inB (xs (i + 1)) 0 5 = true
  · obtain ⟨c, hc, e1⟩ := cof hq
    exact kv_translatedResult c hc  (bk_P hI.2.2.2.1 hc) e1 C hi hcs hP hD hS hl (fun H locs ls hP hD hS hl => nxt hI hP hD hS hl)
  · exact kv_translatedResult_bad _ hq rfl C hi hcs hP hD hS hl (fun H locs ls hP hD hS hl => nxt hI hP hD hS hl)

theorem kc_reserve (hI : iv_ p nu de oA oD oE oP cR aR hR ad a2 z) (C : lwC pp ll ss mm mth cde b L xs D cI cJ) (hi : i + 5 < L) (hcs : cells + 1 ≤ 1070 ∧ slots + 6 ≤ 8714) (hP : va_P D vwCl (LW a bb o0 cI cJ p nu de eq am nx oA oD oE oP cR aR hR cl ad gw pr (nI z) ou p cl a2 gw oA oD oE oP cR aR hR pr sq ab be nw tn th (nI z)) H) (hD : va_D (lwA ss) (LW a bb o0 cI cJ p nu de eq am nx oA oD oE oP cR aR hR cl ad gw pr (nI z) ou p cl a2 gw oA oD oE oP cR aR hR pr sq ab be nw tn th (nI z))) (hS : va_S (lwA ss) ss.heap H locs) (hl : lv_has ls 8 (LOC b a bb o0 i))
    (nxt : NX_ (fun H locs ls => W pp ll ee room_1 ss mm #[Value.ref b] bel mth cde H locs (cells + 1) (slots + 6) Q (F0 mm 1472 ls [])) ss D cI cJ a bb o0 b i) : W pp ll ee room_1 ss mm #[Value.ref b] bel mth cde H locs cells slots Q (F0 mm 967 ls []) := by
  by_cases hq : inB (xs (i + 1)) 0 5 = true
  · obtain ⟨c, hc, e1⟩ := cof hq
    exact kv_reserve c hc  (q_rsv hI.2.2.2.1 hc) e1 C hi hcs hP hD hS hl (fun H locs ls hP hD hS hl => nxt hI hP hD hS hl)
  · exact kv_reserve_bad _ hq rfl C hi hcs hP hD hS hl (fun H locs ls hP hD hS hl => nxt hI hP hD hS hl)

theorem kc_minority (hI : iv_ p nu de oA oD oE oP cR aR hR ad a2 z) (C : lwC pp ll ss mm mth cde b L xs D cI cJ) (hi : i + 5 < L) (hcs : cells + 1 ≤ 1070 ∧ slots + 6 ≤ 8714) (hP : va_P D vwCl (LW a bb o0 cI cJ p nu de eq am nx oA oD oE oP cR aR hR cl ad gw pr (nI z) ou p cl a2 gw oA oD oE oP cR aR hR pr sq ab be nw tn th (nI z)) H) (hD : va_D (lwA ss) (LW a bb o0 cI cJ p nu de eq am nx oA oD oE oP cR aR hR cl ad gw pr (nI z) ou p cl a2 gw oA oD oE oP cR aR hR pr sq ab be nw tn th (nI z))) (hS : va_S (lwA ss) ss.heap H locs) (hl : lv_has ls 8 (LOC b a bb o0 i))
    (nxt : NX_ (fun H locs ls => W pp ll ee room_1 ss mm #[Value.ref b] bel mth cde H locs (cells + 1) (slots + 6) Q (F0 mm 1472 ls [])) ss D cI cJ a bb o0 b i) : W pp ll ee room_1 ss mm #[Value.ref b] bel mth cde H locs cells slots Q (F0 mm 1290 ls []) := by
  by_cases hq : inB (xs (i + 1)) 0 5 = true
  · obtain ⟨c, hc, e1⟩ := cof hq
    exact kv_minority c hc (okB_p hI.1) hI.2.1 (q_mi hI hc) e1 C hi hcs hP hD hS hl (fun u8 H locs ls hP hD hS hl => nxt hI hP hD hS hl)
  · exact kv_minority_bad _ hq rfl C hi hcs hP hD hS hl (fun H locs ls hP hD hS hl => nxt hI hP hD hS hl)

theorem kc_shareByRounds (hI : iv_ p nu de oA oD oE oP cR aR hR ad a2 z) (C : lwC pp ll ss mm mth cde b L xs D cI cJ) (hi : i + 5 < L) (hcs : cells + 1 ≤ 1070 ∧ slots + 6 ≤ 8714) (hP : va_P D vwCl (LW a bb o0 cI cJ p nu de eq am nx oA oD oE oP cR aR hR cl ad gw pr (nI z) ou p cl a2 gw oA oD oE oP cR aR hR pr sq ab be nw tn th (nI z)) H) (hD : va_D (lwA ss) (LW a bb o0 cI cJ p nu de eq am nx oA oD oE oP cR aR hR cl ad gw pr (nI z) ou p cl a2 gw oA oD oE oP cR aR hR pr sq ab be nw tn th (nI z))) (hS : va_S (lwA ss) ss.heap H locs) (hl : lv_has ls 8 (LOC b a bb o0 i))
    (nxt : NX_ (fun H locs ls => W pp ll ee room_1 ss mm #[Value.ref b] bel mth cde H locs (cells + 1) (slots + 6) Q (F0 mm 1472 ls [])) ss D cI cJ a bb o0 b i) : W pp ll ee room_1 ss mm #[Value.ref b] bel mth cde H locs cells slots Q (F0 mm 506 ls []) := by
  by_cases hq : inB (xs (i + 1)) 0 5 = true ∧ inB (xs (i + 2)) 0 200 = true
  · obtain ⟨c, hc, e1⟩ := cof hq.1
    obtain ⟨nr, hn, e2⟩ := inB_n (h := 200) (by decide) hq.2
    exact kv_shareByRounds c nr hc hn (by rw [← e2]; exact hq.2) (mr_free p am nx nw tn nr c hc) e1 e2 C hi hcs hP hD hS hl (fun H locs ls hP hD hS hl => nxt hI hP hD hS hl)
  · exact kv_shareByRounds_bad _ _ hq rfl rfl C hi hcs hP hD hS hl (fun H locs ls hP hD hS hl => nxt hI hP hD hS hl)

theorem kc_setBooks (hI : iv_ p nu de oA oD oE oP cR aR hR ad a2 z) (C : lwC pp ll ss mm mth cde b L xs D cI cJ) (hi : i + 5 < L) (hcs : cells + 1 ≤ 1070 ∧ slots + 6 ≤ 8714) (hP : va_P D vwCl (LW a bb o0 cI cJ p nu de eq am nx oA oD oE oP cR aR hR cl ad gw pr (nI z) ou p cl a2 gw oA oD oE oP cR aR hR pr sq ab be nw tn th (nI z)) H) (hD : va_D (lwA ss) (LW a bb o0 cI cJ p nu de eq am nx oA oD oE oP cR aR hR cl ad gw pr (nI z) ou p cl a2 gw oA oD oE oP cR aR hR pr sq ab be nw tn th (nI z))) (hS : va_S (lwA ss) ss.heap H locs) (hl : lv_has ls 8 (LOC b a bb o0 i))
    (nxt : NX_ (fun H locs ls => W pp ll ee room_1 ss mm #[Value.ref b] bel mth cde H locs (cells + 1) (slots + 6) Q (F0 mm 1472 ls [])) ss D cI cJ a bb o0 b i) : W pp ll ee room_1 ss mm #[Value.ref b] bel mth cde H locs cells slots Q (F0 mm 643 ls []) := by
  by_cases hq : inB (xs (i + 1)) 0 5 = true ∧ inB (xs (i + 2)) 0 1000000 = true ∧ inB (xs (i + 3)) 0 1000000 = true ∧ inB (xs (i + 4)) (-1000000) 1000000 = true ∧ inB (xs (i + 5)) (-1000000) 1000000 = true ∧ xs (i + 2) = xs (i + 3) + xs (i + 4) + xs (i + 5)
  · obtain ⟨h0, h1, h2, h3, h4, h5⟩ := hq
    obtain ⟨c, hc, e1⟩ := cof h0
    exact kv_setBooks c _ _ _ _ hc h1 h2 h3 h4 h5 e1 rfl rfl rfl rfl C hi hcs hP hD hS hl (fun H locs ls hP hD hS hl => nxt (iv_books hI hc h1 h2 h3 h4 h5) hP hD hS hl)
  · exact kv_setBooks_bad _ _ _ _ _ hq rfl rfl rfl rfl rfl C hi hcs hP hD hS hl (fun H locs ls hP hD hS hl => nxt hI hP hD hS hl)

theorem kc_setRates (hI : iv_ p nu de oA oD oE oP cR aR hR ad a2 z) (C : lwC pp ll ss mm mth cde b L xs D cI cJ) (hi : i + 5 < L) (hcs : cells + 1 ≤ 1070 ∧ slots + 6 ≤ 8714) (hP : va_P D vwCl (LW a bb o0 cI cJ p nu de eq am nx oA oD oE oP cR aR hR cl ad gw pr (nI z) ou p cl a2 gw oA oD oE oP cR aR hR pr sq ab be nw tn th (nI z)) H) (hD : va_D (lwA ss) (LW a bb o0 cI cJ p nu de eq am nx oA oD oE oP cR aR hR cl ad gw pr (nI z) ou p cl a2 gw oA oD oE oP cR aR hR pr sq ab be nw tn th (nI z))) (hS : va_S (lwA ss) ss.heap H locs) (hl : lv_has ls 8 (LOC b a bb o0 i))
    (nxt : NX_ (fun H locs ls => W pp ll ee room_1 ss mm #[Value.ref b] bel mth cde H locs (cells + 1) (slots + 6) Q (F0 mm 1472 ls [])) ss D cI cJ a bb o0 b i) : W pp ll ee room_1 ss mm #[Value.ref b] bel mth cde H locs cells slots Q (F0 mm 727 ls []) := by
  by_cases hq : inB (xs (i + 1)) 0 5 = true ∧ inB (xs (i + 2)) 1 1000 = true ∧ inB (xs (i + 3)) 1 1000 = true ∧ inB (xs (i + 4)) 1 1000 = true
  · obtain ⟨h0, h1, h2, h3⟩ := hq
    obtain ⟨c, hc, e1⟩ := cof h0
    exact kv_setRates c _ _ _ hc h1 h2 h3 e1 rfl rfl rfl C hi hcs hP hD hS hl (fun H locs ls hP hD hS hl => nxt (iv_rates hI hc h1 h2 h3) hP hD hS hl)
  · exact kv_setRates_bad _ _ _ _ hq rfl rfl rfl rfl C hi hcs hP hD hS hl (fun H locs ls hP hD hS hl => nxt hI hP hD hS hl)

theorem kc_claim (hI : iv_ p nu de oA oD oE oP cR aR hR ad a2 z) (C : lwC pp ll ss mm mth cde b L xs D cI cJ) (hi : i + 5 < L) (hcs : cells + 1 ≤ 1070 ∧ slots + 6 ≤ 8714) (hP : va_P D vwCl (LW a bb o0 cI cJ p nu de eq am nx oA oD oE oP cR aR hR cl ad gw pr (nI z) ou p cl a2 gw oA oD oE oP cR aR hR pr sq ab be nw tn th (nI z)) H) (hD : va_D (lwA ss) (LW a bb o0 cI cJ p nu de eq am nx oA oD oE oP cR aR hR cl ad gw pr (nI z) ou p cl a2 gw oA oD oE oP cR aR hR pr sq ab be nw tn th (nI z))) (hS : va_S (lwA ss) ss.heap H locs) (hl : lv_has ls 8 (LOC b a bb o0 i))
    (nxt : NX_ (fun H locs ls => W pp ll ee room_1 ss mm #[Value.ref b] bel mth cde H locs (cells + 1) (slots + 6) Q (F0 mm 1472 ls [])) ss D cI cJ a bb o0 b i) : W pp ll ee room_1 ss mm #[Value.ref b] bel mth cde H locs cells slots Q (F0 mm 1023 ls []) := by
  by_cases hq : prB (xs (i + 1)) (xs (i + 2)) = true ∧ inB (xs (i + 3)) 0 1000000 = true
  · obtain ⟨o, ho, e1⟩ := cof (prB_1 hq.1)
    obtain ⟨c, hc, e2⟩ := cof (prB_2 hq.1)
    have hpr : prB (nI o) (nI c) = true := by rw [← e1, ← e2]; exact hq.1
    exact kv_claim o c _ ho hc hpr hq.2 e1 e2 rfl C hi hcs hP hD hS hl (fun H locs ls hP hD hS hl => nxt hI hP hD hS hl)
  · exact kv_claim_bad _ _ _ hq rfl rfl rfl C hi hcs hP hD hS hl (fun H locs ls hP hD hS hl => nxt hI hP hD hS hl)

theorem kc_admit (hI : iv_ p nu de oA oD oE oP cR aR hR ad a2 z) (C : lwC pp ll ss mm mth cde b L xs D cI cJ) (hi : i + 5 < L) (hcs : cells + 1 ≤ 1070 ∧ slots + 6 ≤ 8714) (hP : va_P D vwCl (LW a bb o0 cI cJ p nu de eq am nx oA oD oE oP cR aR hR cl ad gw pr (nI z) ou p cl a2 gw oA oD oE oP cR aR hR pr sq ab be nw tn th (nI z)) H) (hD : va_D (lwA ss) (LW a bb o0 cI cJ p nu de eq am nx oA oD oE oP cR aR hR cl ad gw pr (nI z) ou p cl a2 gw oA oD oE oP cR aR hR pr sq ab be nw tn th (nI z))) (hS : va_S (lwA ss) ss.heap H locs) (hl : lv_has ls 8 (LOC b a bb o0 i))
    (nxt : NX_ (fun H locs ls => W pp ll ee room_1 ss mm #[Value.ref b] bel mth cde H locs (cells + 1) (slots + 6) Q (F0 mm 1472 ls [])) ss D cI cJ a bb o0 b i) : W pp ll ee room_1 ss mm #[Value.ref b] bel mth cde H locs cells slots Q (F0 mm 1103 ls []) := by
  by_cases hq : prB (xs (i + 1)) (xs (i + 2)) = true ∧ inB (xs (i + 3)) 0 1000000 = true
  · obtain ⟨o, ho, e1⟩ := cof (prB_1 hq.1)
    obtain ⟨c, hc, e2⟩ := cof (prB_2 hq.1)
    have hpr : prB (nI o) (nI c) = true := by rw [← e1, ← e2]; exact hq.1
    exact kv_admit o c _ ho hc hpr hq.2 (prB_sym hpr) (hI.2.2.2.2.1 c o hc ho) e1 e2 rfl C hi hcs hP hD hS hl (fun H locs ls hP hD hS hl => nxt (iv_admit hI ho hc _) hP hD hS hl)
  · exact kv_admit_bad _ _ _ hq (fun h => hq ⟨prB_sym h.1, h.2⟩) rfl rfl rfl C hi hcs hP hD hS hl (fun H locs ls hP hD hS hl => nxt hI hP hD hS hl)

theorem kc_difference (hI : iv_ p nu de oA oD oE oP cR aR hR ad a2 z) (C : lwC pp ll ss mm mth cde b L xs D cI cJ) (hi : i + 5 < L) (hcs : cells + 1 ≤ 1070 ∧ slots + 6 ≤ 8714) (hP : va_P D vwCl (LW a bb o0 cI cJ p nu de eq am nx oA oD oE oP cR aR hR cl ad gw pr (nI z) ou p cl a2 gw oA oD oE oP cR aR hR pr sq ab be nw tn th (nI z)) H) (hD : va_D (lwA ss) (LW a bb o0 cI cJ p nu de eq am nx oA oD oE oP cR aR hR cl ad gw pr (nI z) ou p cl a2 gw oA oD oE oP cR aR hR pr sq ab be nw tn th (nI z))) (hS : va_S (lwA ss) ss.heap H locs) (hl : lv_has ls 8 (LOC b a bb o0 i))
    (nxt : NX_ (fun H locs ls => W pp ll ee room_1 ss mm #[Value.ref b] bel mth cde H locs (cells + 1) (slots + 6) Q (F0 mm 1472 ls [])) ss D cI cJ a bb o0 b i) : W pp ll ee room_1 ss mm #[Value.ref b] bel mth cde H locs cells slots Q (F0 mm 1183 ls []) := by
  by_cases hq : prB (xs (i + 1)) (xs (i + 2)) = true
  · obtain ⟨o, ho, e1⟩ := cof (prB_1 hq)
    obtain ⟨c, hc, e2⟩ := cof (prB_2 hq)
    have hpr : prB (nI o) (nI c) = true := by rw [← e1, ← e2]; exact hq
    exact kv_difference o c ho hc hpr (by rw [hI.2.2.2.2.1 o c ho hc]) e1 e2 C hi hcs hP hD hS hl (fun H locs ls hP hD hS hl => nxt hI hP hD hS hl)
  · exact kv_difference_bad _ _ hq rfl rfl C hi hcs hP hD hS hl (fun H locs ls hP hD hS hl => nxt hI hP hD hS hl)

theorem kc_close (hI : iv_ p nu de oA oD oE oP cR aR hR ad a2 z) (C : lwC pp ll ss mm mth cde b L xs D cI cJ) (hi : i + 5 < L) (hcs : cells + 1 ≤ 1070 ∧ slots + 6 ≤ 8714) (hP : va_P D vwCl (LW a bb o0 cI cJ p nu de eq am nx oA oD oE oP cR aR hR cl ad gw pr (nI z) ou p cl a2 gw oA oD oE oP cR aR hR pr sq ab be nw tn th (nI z)) H) (hD : va_D (lwA ss) (LW a bb o0 cI cJ p nu de eq am nx oA oD oE oP cR aR hR cl ad gw pr (nI z) ou p cl a2 gw oA oD oE oP cR aR hR pr sq ab be nw tn th (nI z))) (hS : va_S (lwA ss) ss.heap H locs) (hl : lv_has ls 8 (LOC b a bb o0 i))
    (nxt : NX_ (fun H locs ls => W pp ll ee room_1 ss mm #[Value.ref b] bel mth cde H locs (cells + 1) (slots + 6) Q (F0 mm 1472 ls [])) ss D cI cJ a bb o0 b i) : W pp ll ee room_1 ss mm #[Value.ref b] bel mth cde H locs cells slots Q (F0 mm 1372 ls []) := by
  rcases Nat.lt_or_ge z 12 with hz | hz
  · have hq := q_re hI
    refine kv_close z hz (okB_p hI.1) hI.2.1 hq C hi hcs hP hD hS hl (fun u8 H locs ls hP hD hS hl => ?_)
    rw [← hq] at hP hD
    exact nxt (iv_close hI hz) hP hD hS hl
  · have e12 : z = 12 := by have := hI.2.2.2.2.2; omega
    subst e12
    exact kv_close_bad C hi hcs hP hD hS hl (fun H locs ls hP hD hS hl => nxt hI hP hD hS hl)

theorem kc_resultOf (hI : iv_ p nu de oA oD oE oP cR aR hR ad a2 z) (C : lwC pp ll ss mm mth cde b L xs D cI cJ) (hi : i + 5 < L) (hcs : cells + 1 ≤ 1070 ∧ slots + 6 ≤ 8714) (hP : va_P D vwCl (LW a bb o0 cI cJ p nu de eq am nx oA oD oE oP cR aR hR cl ad gw pr (nI z) ou p cl a2 gw oA oD oE oP cR aR hR pr sq ab be nw tn th (nI z)) H) (hD : va_D (lwA ss) (LW a bb o0 cI cJ p nu de eq am nx oA oD oE oP cR aR hR cl ad gw pr (nI z) ou p cl a2 gw oA oD oE oP cR aR hR pr sq ab be nw tn th (nI z))) (hS : va_S (lwA ss) ss.heap H locs) (hl : lv_has ls 8 (LOC b a bb o0 i))
    (nxt : NX_ (fun H locs ls => W pp ll ee room_1 ss mm #[Value.ref b] bel mth cde H locs (cells + 1) (slots + 6) Q (F0 mm 1472 ls [])) ss D cI cJ a bb o0 b i) : W pp ll ee room_1 ss mm #[Value.ref b] bel mth cde H locs cells slots Q (F0 mm 1416 ls []) := by
  have hz := hI.2.2.2.2.2
  by_cases hq : inB (xs (i + 1)) 0 (nI z - 1) = true
  · obtain ⟨j, hj, e1⟩ := res_of hz hq
    exact kv_resultOf z j hz hj (by rw [← e1]; exact hq) e1 C hi hcs hP hD hS hl (fun H locs ls hP hD hS hl => nxt hI hP hD hS hl)
  · exact kv_resultOf_bad z _ hz hq rfl C hi hcs hP hD hS hl (fun H locs ls hP hD hS hl => nxt hI hP hD hS hl)

theorem kc_group (hI : iv_ p nu de oA oD oE oP cR aR hR ad a2 z) (C : lwC pp ll ss mm mth cde b L xs D cI cJ) (hi : i + 5 < L) (hcs : cells + 1 ≤ 1070 ∧ slots + 6 ≤ 8714) (hP : va_P D vwCl (LW a bb o0 cI cJ p nu de eq am nx oA oD oE oP cR aR hR cl ad gw pr (nI z) ou p cl a2 gw oA oD oE oP cR aR hR pr sq ab be nw tn th (nI z)) H) (hD : va_D (lwA ss) (LW a bb o0 cI cJ p nu de eq am nx oA oD oE oP cR aR hR cl ad gw pr (nI z) ou p cl a2 gw oA oD oE oP cR aR hR pr sq ab be nw tn th (nI z))) (hS : va_S (lwA ss) ss.heap H locs) (hl : lv_has ls 8 (LOC b a bb o0 i))
    (nxt : NX_ (fun H locs ls => W pp ll ee room_1 ss mm #[Value.ref b] bel mth cde H locs (cells + 1) (slots + 6) Q (F0 mm 1472 ls [])) ss D cI cJ a bb o0 b i) : W pp ll ee room_1 ss mm #[Value.ref b] bel mth cde H locs cells slots Q (F0 mm 574 ls []) := by
  exact kv_group  (by rw [q_grp hI]) C hcs hP hD hS hl (fun H locs ls hP hD hS hl => nxt hI hP hD hS hl)

theorem kc_eliminated (hI : iv_ p nu de oA oD oE oP cR aR hR ad a2 z) (C : lwC pp ll ss mm mth cde b L xs D cI cJ) (hi : i + 5 < L) (hcs : cells + 1 ≤ 1070 ∧ slots + 6 ≤ 8714) (hP : va_P D vwCl (LW a bb o0 cI cJ p nu de eq am nx oA oD oE oP cR aR hR cl ad gw pr (nI z) ou p cl a2 gw oA oD oE oP cR aR hR pr sq ab be nw tn th (nI z)) H) (hD : va_D (lwA ss) (LW a bb o0 cI cJ p nu de eq am nx oA oD oE oP cR aR hR cl ad gw pr (nI z) ou p cl a2 gw oA oD oE oP cR aR hR pr sq ab be nw tn th (nI z))) (hS : va_S (lwA ss) ss.heap H locs) (hl : lv_has ls 8 (LOC b a bb o0 i))
    (nxt : NX_ (fun H locs ls => W pp ll ee room_1 ss mm #[Value.ref b] bel mth cde H locs (cells + 1) (slots + 6) Q (F0 mm 1472 ls [])) ss D cI cJ a bb o0 b i) : W pp ll ee room_1 ss mm #[Value.ref b] bel mth cde H locs cells slots Q (F0 mm 1251 ls []) := by
  exact kv_eliminated  (q_el hI) C hcs hP hD hS hl (fun H locs ls hP hD hS hl => nxt hI hP hD hS hl)

theorem kc_assets (hI : iv_ p nu de oA oD oE oP cR aR hR ad a2 z) (C : lwC pp ll ss mm mth cde b L xs D cI cJ) (hi : i + 5 < L) (hcs : cells + 1 ≤ 1070 ∧ slots + 6 ≤ 8714) (hP : va_P D vwCl (LW a bb o0 cI cJ p nu de eq am nx oA oD oE oP cR aR hR cl ad gw pr (nI z) ou p cl a2 gw oA oD oE oP cR aR hR pr sq ab be nw tn th (nI z)) H) (hD : va_D (lwA ss) (LW a bb o0 cI cJ p nu de eq am nx oA oD oE oP cR aR hR cl ad gw pr (nI z) ou p cl a2 gw oA oD oE oP cR aR hR pr sq ab be nw tn th (nI z))) (hS : va_S (lwA ss) ss.heap H locs) (hl : lv_has ls 8 (LOC b a bb o0 i))
    (nxt : NX_ (fun H locs ls => W pp ll ee room_1 ss mm #[Value.ref b] bel mth cde H locs (cells + 1) (slots + 6) Q (F0 mm 1472 ls [])) ss D cI cJ a bb o0 b i) : W pp ll ee room_1 ss mm #[Value.ref b] bel mth cde H locs cells slots Q (F0 mm 1264 ls []) := by
  exact kv_assets  (q_as hI) C hcs hP hD hS hl (fun H locs ls hP hD hS hl => nxt hI hP hD hS hl)

theorem kc_debts (hI : iv_ p nu de oA oD oE oP cR aR hR ad a2 z) (C : lwC pp ll ss mm mth cde b L xs D cI cJ) (hi : i + 5 < L) (hcs : cells + 1 ≤ 1070 ∧ slots + 6 ≤ 8714) (hP : va_P D vwCl (LW a bb o0 cI cJ p nu de eq am nx oA oD oE oP cR aR hR cl ad gw pr (nI z) ou p cl a2 gw oA oD oE oP cR aR hR pr sq ab be nw tn th (nI z)) H) (hD : va_D (lwA ss) (LW a bb o0 cI cJ p nu de eq am nx oA oD oE oP cR aR hR cl ad gw pr (nI z) ou p cl a2 gw oA oD oE oP cR aR hR pr sq ab be nw tn th (nI z))) (hS : va_S (lwA ss) ss.heap H locs) (hl : lv_has ls 8 (LOC b a bb o0 i))
    (nxt : NX_ (fun H locs ls => W pp ll ee room_1 ss mm #[Value.ref b] bel mth cde H locs (cells + 1) (slots + 6) Q (F0 mm 1472 ls [])) ss D cI cJ a bb o0 b i) : W pp ll ee room_1 ss mm #[Value.ref b] bel mth cde H locs cells slots Q (F0 mm 1277 ls []) := by
  exact kv_debts  (q_db hI) C hcs hP hD hS hl (fun H locs ls hP hD hS hl => nxt hI hP hD hS hl)

theorem kc_equity (hI : iv_ p nu de oA oD oE oP cR aR hR ad a2 z) (C : lwC pp ll ss mm mth cde b L xs D cI cJ) (hi : i + 5 < L) (hcs : cells + 1 ≤ 1070 ∧ slots + 6 ≤ 8714) (hP : va_P D vwCl (LW a bb o0 cI cJ p nu de eq am nx oA oD oE oP cR aR hR cl ad gw pr (nI z) ou p cl a2 gw oA oD oE oP cR aR hR pr sq ab be nw tn th (nI z)) H) (hD : va_D (lwA ss) (LW a bb o0 cI cJ p nu de eq am nx oA oD oE oP cR aR hR cl ad gw pr (nI z) ou p cl a2 gw oA oD oE oP cR aR hR pr sq ab be nw tn th (nI z))) (hS : va_S (lwA ss) ss.heap H locs) (hl : lv_has ls 8 (LOC b a bb o0 i))
    (nxt : NX_ (fun H locs ls => W pp ll ee room_1 ss mm #[Value.ref b] bel mth cde H locs (cells + 1) (slots + 6) Q (F0 mm 1472 ls [])) ss D cI cJ a bb o0 b i) : W pp ll ee room_1 ss mm #[Value.ref b] bel mth cde H locs cells slots Q (F0 mm 1346 ls []) := by
  exact kv_equity (okB_p hI.1) hI.2.1 (q_eq hI) C hcs hP hD hS hl (fun u8 H locs ls hP hD hS hl => nxt hI hP hD hS hl)

theorem kc_result (hI : iv_ p nu de oA oD oE oP cR aR hR ad a2 z) (C : lwC pp ll ss mm mth cde b L xs D cI cJ) (hi : i + 5 < L) (hcs : cells + 1 ≤ 1070 ∧ slots + 6 ≤ 8714) (hP : va_P D vwCl (LW a bb o0 cI cJ p nu de eq am nx oA oD oE oP cR aR hR cl ad gw pr (nI z) ou p cl a2 gw oA oD oE oP cR aR hR pr sq ab be nw tn th (nI z)) H) (hD : va_D (lwA ss) (LW a bb o0 cI cJ p nu de eq am nx oA oD oE oP cR aR hR cl ad gw pr (nI z) ou p cl a2 gw oA oD oE oP cR aR hR pr sq ab be nw tn th (nI z))) (hS : va_S (lwA ss) ss.heap H locs) (hl : lv_has ls 8 (LOC b a bb o0 i))
    (nxt : NX_ (fun H locs ls => W pp ll ee room_1 ss mm #[Value.ref b] bel mth cde H locs (cells + 1) (slots + 6) Q (F0 mm 1472 ls [])) ss D cI cJ a bb o0 b i) : W pp ll ee room_1 ss mm #[Value.ref b] bel mth cde H locs cells slots Q (F0 mm 1359 ls []) := by
  exact kv_result (okB_p hI.1) hI.2.1 (q_re hI) C hcs hP hD hS hl (fun u8 H locs ls hP hD hS hl => nxt hI hP hD hS hl)

end KC
