section KV
variable {pp : Program} {ll : Launch} {ee : Env} {ss : State} {mm : MethodId} {bel : List Frame} {mth : Method} {cde : Code} {H : Heap} {locs : List Loc} {cells slots : Nat} {Q : State → Prop} {ls : Array Slot}
variable {b L i : Nat} {xs : Nat → Int32} {D : va_G} {cI cJ : ClassId} {a bb : Nat → Nat} {o0 : Nat}
variable {p : Nat → Int32} {nu de eq : Nat → Int64} {am nx oA oD oE oP cR aR hR cl ad gw pr a2 : Nat → Int32} {n : Int32} {ou sq ab be : Nat → Int64} {nw tn : Nat → Int32} {th : Int32}

set_option maxHeartbeats 4000000 in
set_option maxRecDepth 100000 in
theorem kv_goodwill (c : Nat) (hc : c < 6)  (v1 : xs (i + 1) = nI c) (C : lwC pp ll ss mm mth cde b L xs D cI cJ) (hi : i + 5 < L) (hcs : cells + 1 ≤ 1070 ∧ slots + 6 ≤ 8714) (hP : va_P D vwCl (LW a bb o0 cI cJ p nu de eq am nx oA oD oE oP cR aR hR cl ad gw pr n ou p cl a2 gw oA oD oE oP cR aR hR pr sq ab be nw tn th n) H) (hD : va_D (lwA ss) (LW a bb o0 cI cJ p nu de eq am nx oA oD oE oP cR aR hR cl ad gw pr n ou p cl a2 gw oA oD oE oP cR aR hR pr sq ab be nw tn th n)) (hS : va_S (lwA ss) ss.heap H locs) (hl : lv_has ls 8 (LOC b a bb o0 i))
    (kk : ∀  (H : Heap) (locs : List Loc) (ls : Array Slot), va_P D vwCl (LW a bb o0 cI cJ p nu de eq am nx oA oD oE oP cR aR hR cl ad gw pr n (vp_updL ou 0 (gw c).toInt64) p cl a2 gw oA oD oE oP cR aR hR pr sq ab be nw tn 0 n) H → va_D (lwA ss) (LW a bb o0 cI cJ p nu de eq am nx oA oD oE oP cR aR hR cl ad gw pr n (vp_updL ou 0 (gw c).toInt64) p cl a2 gw oA oD oE oP cR aR hR pr sq ab be nw tn 0 n) → va_S (lwA ss) ss.heap H locs → lv_has ls 8 (LOC b a bb o0 i) → W pp ll ee room_1 ss mm #[Value.ref b] bel mth cde H locs (cells + 1) (slots + 6) Q (F0 mm 1472 ls [])) :
    W pp ll ee room_1 ss mm #[Value.ref b] bel mth cde H locs cells slots Q (F0 mm 587 ls []) := by
  have hx := C.hx
  have hb := C.hb
  have hK := C.hK
  have hE := C.hE
  refine lv_aload_n hx hb dL_law_587 rfl (lv_at hl 1 rfl) ?_
  refine ld_arg C hS (k := 1) (lv_at hl 0 rfl) (lv_at hl 4 rfl) (by omega) (by decide) v1 rfl dL_law_588 dL_law_589 dL_law_591 dL_law_592 dL_law_593 ?_
  refine lv_aload_n hx hb dL_law_594 rfl (lv_at hl 3 rfl) ?_
  refine b_calliP (S := Unit) (wc := GW a cI cJ p nu de eq am nx oA oD oE oP cR aR hR cl ad gw pr n ++ [(o0, eJ cJ 1 ou)]) (wr := MW bb cI cJ p cl a2 gw oA oD oE oP cR aR hR pr sq ab be nw tn th n) (w' := fun u => GW a cI cJ p nu de eq am nx oA oD oE oP cR aR hR cl ad gw pr n ++ [(o0, eJ cJ 1 (vp_updL ou 0 (gw c).toInt64))]) hP hD hS (hA_ ss) (vx_runSW (As := [.ref (a 0), .int (nI c), .ref o0]) (rest := []) C.fix (c_L_goodwill ll D a cI cJ _ p nu de eq am nx oA oD oE oP cR aR hR cl ad gw pr n o0 ou c hc) (vx_cwSW 3 C.hts gL_law_L_goodwill rfl rfl rfl (by decide +kernel) ⟨Nat.le_of_ble_eq_true rfl, Nat.le_of_ble_eq_true rfl⟩) ⟨PY.blind, PY.go hP hK hD hE C.hV C.hDC hS (hA_ ss)⟩ rfl rfl hl.1 rfl (lv_room (Nat.le_of_ble_eq_true rfl)) dL_law_595 ⟨(by show cells + 0 ≤ 1070; omega), (by show slots + 0 ≤ 8714; omega)⟩) (fun r9 u H locs hr9 hP hD hS => ?_)
  obtain rfl : r9 = 0 := hr9
  refine lv_istore (lv' := [(5, .int 0), (0, .ref b), (1, .ref (a 0)), (2, .ref (bb 0)), (3, .ref o0), (4, .int (nI i))]) hx hb dL_law_598 hl (by decide) rfl (fun ls hl => ?_)
  refine lv_aload_n hx hb dL_law_600 rfl (lv_at hl 3 rfl) ?_
  refine ld_arg C hS (k := 1) (lv_at hl 1 rfl) (lv_at hl 5 rfl) (by omega) (by decide) v1 rfl dL_law_601 dL_law_602 dL_law_604 dL_law_605 dL_law_606 ?_
  have hP := toMG hP
  have hD := toMGd hD
  refine b_calliP (S := Unit) (wc := MW bb cI cJ p cl a2 gw oA oD oE oP cR aR hR pr sq ab be nw tn th n) (wr := GW a cI cJ p nu de eq am nx oA oD oE oP cR aR hR cl ad gw pr n ++ [(o0, eJ cJ 1 (vp_updL ou 0 (gw c).toInt64))]) (w' := fun u8 => MW bb cI cJ p cl a2 gw oA oD oE oP cR aR hR pr sq ab be nw tn 0 n) hP hD hS (hA_ ss) (va_runV (As := [.int (nI c)]) (rest := []) C.fix (c_X4_goodwill ll D bb cI cJ _ p cl a2 gw oA oD oE oP cR aR hR pr sq ab be nw tn th n c hc) (cwV 1 C.hts gL_law_X4_goodwill rfl rfl rfl (by decide +kernel) ⟨Nat.le_of_ble_eq_true rfl, Nat.le_of_ble_eq_true rfl⟩) ⟨PW.blind, va_recv hK hP (ci := 4) (q0 := 0) rfl rfl, PW.goP hP hK hD hE⟩ rfl rfl hl.1 rfl (lv_room (Nat.le_of_ble_eq_true rfl)) dL_law_607 ⟨(by show cells + 0 + 0 ≤ 1070; omega), (by show slots + 0 + 0 ≤ 8714; omega)⟩) (fun r8 u8 H locs hr8 hP hD hS => ?_)
  obtain rfl : r8 = gw c := hr8
  refine lv_istore (lv' := [(6, .int (gw c)), (5, .int 0), (0, .ref b), (1, .ref (a 0)), (2, .ref (bb 0)), (3, .ref o0), (4, .int (nI i))]) hx hb dL_law_610 hl (by decide) rfl (fun ls hl => ?_)
  refine tl_i C hP rfl hS hl.1 (lv_at hl 4 rfl) (lv_at hl 5 rfl) (lv_at hl 1 rfl) (lv_at hl 0 rfl) (if_pos rfl) rfl rfl (by decide) (by decide) (by decide) (by decide) dL_law_612 dL_law_613 dL_law_616 dL_law_618 dL_law_623 dL_law_625 dL_law_628 dL_law_629 dL_law_630 dL_law_631 dL_law_633 dL_law_634 dL_law_635 dL_law_640 ?_ ⟨(by omega), (by omega)⟩
  refine W.widen (k := cells + 1) (n := slots + 6) (by omega) (by omega) ?_
  exact kk _ _ _ (toMG hP) (toMGd hD) hS (lv_sub hl [2, 3, 4, 5, 6] rfl)
set_option maxHeartbeats 4000000 in
set_option maxRecDepth 100000 in
theorem kv_goodwill_bad (x0 : Int32) (hbad : ¬ inB x0 0 5 = true)  (v1 : xs (i + 1) = x0) (C : lwC pp ll ss mm mth cde b L xs D cI cJ) (hi : i + 5 < L) (hcs : cells + 1 ≤ 1070 ∧ slots + 6 ≤ 8714) (hP : va_P D vwCl (LW a bb o0 cI cJ p nu de eq am nx oA oD oE oP cR aR hR cl ad gw pr n ou p cl a2 gw oA oD oE oP cR aR hR pr sq ab be nw tn th n) H) (hD : va_D (lwA ss) (LW a bb o0 cI cJ p nu de eq am nx oA oD oE oP cR aR hR cl ad gw pr n ou p cl a2 gw oA oD oE oP cR aR hR pr sq ab be nw tn th n)) (hS : va_S (lwA ss) ss.heap H locs) (hl : lv_has ls 8 (LOC b a bb o0 i))
    (kk : ∀  (H : Heap) (locs : List Loc) (ls : Array Slot), va_P D vwCl (LW a bb o0 cI cJ p nu de eq am nx oA oD oE oP cR aR hR cl ad gw pr n ou p cl a2 gw oA oD oE oP cR aR hR pr sq ab be nw tn 1 n) H → va_D (lwA ss) (LW a bb o0 cI cJ p nu de eq am nx oA oD oE oP cR aR hR cl ad gw pr n ou p cl a2 gw oA oD oE oP cR aR hR pr sq ab be nw tn 1 n) → va_S (lwA ss) ss.heap H locs → lv_has ls 8 (LOC b a bb o0 i) → W pp ll ee room_1 ss mm #[Value.ref b] bel mth cde H locs (cells + 1) (slots + 6) Q (F0 mm 1472 ls [])) :
    W pp ll ee room_1 ss mm #[Value.ref b] bel mth cde H locs cells slots Q (F0 mm 587 ls []) := by
  have hx := C.hx
  have hb := C.hb
  have hK := C.hK
  have hE := C.hE
  refine lv_aload_n hx hb dL_law_587 rfl (lv_at hl 1 rfl) ?_
  refine ld_arg C hS (k := 1) (lv_at hl 0 rfl) (lv_at hl 4 rfl) (by omega) (by decide) v1 rfl dL_law_588 dL_law_589 dL_law_591 dL_law_592 dL_law_593 ?_
  refine lv_aload_n hx hb dL_law_594 rfl (lv_at hl 3 rfl) ?_
  refine b_calliP (S := Unit) (wc := GW a cI cJ p nu de eq am nx oA oD oE oP cR aR hR cl ad gw pr n ++ [(o0, eJ cJ 1 ou)]) (wr := MW bb cI cJ p cl a2 gw oA oD oE oP cR aR hR pr sq ab be nw tn th n) (w' := fun u => GW a cI cJ p nu de eq am nx oA oD oE oP cR aR hR cl ad gw pr n ++ [(o0, eJ cJ 1 (ou))]) hP hD hS (hA_ ss) (vx_runSW (As := [.ref (a 0), .int (x0), .ref o0]) (rest := []) C.fix (c_L_goodwill_bad ll C.hst D a cI cJ _ p nu de eq am nx oA oD oE oP cR aR hR cl ad gw pr n o0 ou x0 hbad) (vx_cwSW 3 C.hts gL_law_L_goodwill rfl rfl rfl (by decide +kernel) ⟨Nat.le_of_ble_eq_true rfl, Nat.le_of_ble_eq_true rfl⟩) ⟨PY.blind, PY.go hP hK hD hE C.hV C.hDC hS (hA_ ss)⟩ rfl rfl hl.1 rfl (lv_room (Nat.le_of_ble_eq_true rfl)) dL_law_595 ⟨(by show cells + 1 ≤ 1070; omega), (by show slots + 6 ≤ 8714; omega)⟩) (fun r9 u H locs hr9 hP hD hS => ?_)
  obtain rfl : r9 = 1 := hr9
  refine lv_istore (lv' := [(5, .int 1), (0, .ref b), (1, .ref (a 0)), (2, .ref (bb 0)), (3, .ref o0), (4, .int (nI i))]) hx hb dL_law_598 hl (by decide) rfl (fun ls hl => ?_)
  refine lv_aload_n hx hb dL_law_600 rfl (lv_at hl 3 rfl) ?_
  refine ld_arg C hS (k := 1) (lv_at hl 1 rfl) (lv_at hl 5 rfl) (by omega) (by decide) v1 rfl dL_law_601 dL_law_602 dL_law_604 dL_law_605 dL_law_606 ?_
  have hP := toMG hP
  have hD := toMGd hD
  refine b_calliP (S := Unit) (wc := MW bb cI cJ p cl a2 gw oA oD oE oP cR aR hR pr sq ab be nw tn th n) (wr := GW a cI cJ p nu de eq am nx oA oD oE oP cR aR hR cl ad gw pr n ++ [(o0, eJ cJ 1 (ou))]) (w' := fun u8 => MW bb cI cJ p cl a2 gw oA oD oE oP cR aR hR pr sq ab be nw tn 1 n) hP hD hS (hA_ ss) (va_runV (As := [.int (x0)]) (rest := []) C.fix (c_X4_goodwill_bad ll D bb cI cJ _ p cl a2 gw oA oD oE oP cR aR hR pr sq ab be nw tn th n x0 hbad) (cwV 1 C.hts gL_law_X4_goodwill rfl rfl rfl (by decide +kernel) ⟨Nat.le_of_ble_eq_true rfl, Nat.le_of_ble_eq_true rfl⟩) ⟨PW.blind, va_recv hK hP (ci := 4) (q0 := 0) rfl rfl, PW.goP hP hK hD hE⟩ rfl rfl hl.1 rfl (lv_room (Nat.le_of_ble_eq_true rfl)) dL_law_607 ⟨(by show cells + 1 + 0 ≤ 1070; omega), (by show slots + 6 + 0 ≤ 8714; omega)⟩) (fun r8 u8 H locs hr8 hP hD hS => ?_)
  obtain rfl : r8 = 0 := hr8
  refine lv_istore (lv' := [(6, .int (0)), (5, .int 1), (0, .ref b), (1, .ref (a 0)), (2, .ref (bb 0)), (3, .ref o0), (4, .int (nI i))]) hx hb dL_law_610 hl (by decide) rfl (fun ls hl => ?_)
  refine tl_x C hP hl.1 (by decide) (lv_at hl 4 rfl) (lv_at hl 1 rfl) rfl (tg := 640) (by decide) (by decide) (by decide) dL_law_612 dL_law_613 dL_law_616 dL_law_618 dL_law_623 dL_law_625 dL_law_640 ?_ ⟨(by omega), (by omega)⟩
  refine W.widen (k := cells + 1) (n := slots + 6) (by omega) (by omega) ?_
  exact kk _ _ _ (toMG hP) (toMGd hD) hS (lv_sub hl [2, 3, 4, 5, 6] rfl)
set_option maxHeartbeats 4000000 in
set_option maxRecDepth 100000 in
theorem kv_setBooks (c : Nat) (x1 x2 x3 x4 : Int32) (hc : c < 6) (h1 : inB x1 0 1000000 = true) (h2 : inB x2 0 1000000 = true) (h3 : inB x3 (-1000000) 1000000 = true) (h4 : inB x4 (-1000000) 1000000 = true) (h5 : x1 = x2 + x3 + x4)  (v1 : xs (i + 1) = nI c) (v2 : xs (i + 2) = x1) (v3 : xs (i + 3) = x2) (v4 : xs (i + 4) = x3) (v5 : xs (i + 5) = x4) (C : lwC pp ll ss mm mth cde b L xs D cI cJ) (hi : i + 5 < L) (hcs : cells + 1 ≤ 1070 ∧ slots + 6 ≤ 8714) (hP : va_P D vwCl (LW a bb o0 cI cJ p nu de eq am nx oA oD oE oP cR aR hR cl ad gw pr n ou p cl a2 gw oA oD oE oP cR aR hR pr sq ab be nw tn th n) H) (hD : va_D (lwA ss) (LW a bb o0 cI cJ p nu de eq am nx oA oD oE oP cR aR hR cl ad gw pr n ou p cl a2 gw oA oD oE oP cR aR hR pr sq ab be nw tn th n)) (hS : va_S (lwA ss) ss.heap H locs) (hl : lv_has ls 8 (LOC b a bb o0 i))
    (kk : ∀  (H : Heap) (locs : List Loc) (ls : Array Slot), va_P D vwCl (LW a bb o0 cI cJ p nu de eq am nx (upd oA c x1) (upd oD c x2) (upd oE c x3) (upd oP c x4) cR aR hR cl ad gw pr n ou p cl a2 gw (upd oA c x1) (upd oD c x2) (upd oE c x3) (upd oP c x4) cR aR hR pr sq ab be nw tn 0 n) H → va_D (lwA ss) (LW a bb o0 cI cJ p nu de eq am nx (upd oA c x1) (upd oD c x2) (upd oE c x3) (upd oP c x4) cR aR hR cl ad gw pr n ou p cl a2 gw (upd oA c x1) (upd oD c x2) (upd oE c x3) (upd oP c x4) cR aR hR pr sq ab be nw tn 0 n) → va_S (lwA ss) ss.heap H locs → lv_has ls 8 (LOC b a bb o0 i) → W pp ll ee room_1 ss mm #[Value.ref b] bel mth cde H locs (cells + 1) (slots + 6) Q (F0 mm 1472 ls [])) :
    W pp ll ee room_1 ss mm #[Value.ref b] bel mth cde H locs cells slots Q (F0 mm 643 ls []) := by
  have hx := C.hx
  have hb := C.hb
  have hK := C.hK
  have hE := C.hE
  refine lv_aload_n hx hb dL_law_643 rfl (lv_at hl 1 rfl) ?_
  refine ld_arg C hS (k := 1) (lv_at hl 0 rfl) (lv_at hl 4 rfl) (by omega) (by decide) v1 rfl dL_law_644 dL_law_645 dL_law_647 dL_law_648 dL_law_649 ?_
  refine ld_arg C hS (k := 2) (lv_at hl 0 rfl) (lv_at hl 4 rfl) (by omega) (by decide) v2 rfl dL_law_650 dL_law_651 dL_law_653 dL_law_654 dL_law_655 ?_
  refine ld_arg C hS (k := 3) (lv_at hl 0 rfl) (lv_at hl 4 rfl) (by omega) (by decide) v3 rfl dL_law_656 dL_law_657 dL_law_659 dL_law_660 dL_law_661 ?_
  refine ld_arg C hS (k := 4) (lv_at hl 0 rfl) (lv_at hl 4 rfl) (by omega) (by decide) v4 rfl dL_law_662 dL_law_663 dL_law_665 dL_law_666 dL_law_667 ?_
  refine ld_arg C hS (k := 5) (lv_at hl 0 rfl) (lv_at hl 4 rfl) (by omega) (by decide) v5 rfl dL_law_668 dL_law_669 dL_law_671 dL_law_672 dL_law_673 ?_
  refine b_calliP (S := Unit) (wc := GW a cI cJ p nu de eq am nx oA oD oE oP cR aR hR cl ad gw pr n ++ [(o0, eJ cJ 1 ou)]) (wr := MW bb cI cJ p cl a2 gw oA oD oE oP cR aR hR pr sq ab be nw tn th n) (w' := fun u => GW a cI cJ p nu de eq am nx (upd oA c x1) (upd oD c x2) (upd oE c x3) (upd oP c x4) cR aR hR cl ad gw pr n ++ [(o0, eJ cJ 1 (ou))]) hP hD hS (hA_ ss) (vx_runSW (As := [.ref (a 0), .int (nI c), .int (x1), .int (x2), .int (x3), .int (x4)]) (rest := []) C.fix (c_L_setBooks ll D a cI cJ _ p nu de eq am nx oA oD oE oP cR aR hR cl ad gw pr n o0 ou c x1 x2 x3 x4 hc h1 h2 h3 h4 h5) (vx_cwSW 6 C.hts gL_law_L_setBooks rfl rfl rfl (by decide +kernel) ⟨Nat.le_of_ble_eq_true rfl, Nat.le_of_ble_eq_true rfl⟩) ⟨PY.blind, PY.go hP hK hD hE C.hV C.hDC hS (hA_ ss)⟩ rfl rfl hl.1 rfl (lv_room (Nat.le_of_ble_eq_true rfl)) dL_law_674 ⟨(by show cells + 0 ≤ 1070; omega), (by show slots + 0 ≤ 8714; omega)⟩) (fun r9 u H locs hr9 hP hD hS => ?_)
  obtain rfl : r9 = 0 := hr9
  refine lv_istore (lv' := [(5, .int 0), (0, .ref b), (1, .ref (a 0)), (2, .ref (bb 0)), (3, .ref o0), (4, .int (nI i))]) hx hb dL_law_677 hl (by decide) rfl (fun ls hl => ?_)
  refine lv_aload_n hx hb dL_law_679 rfl (lv_at hl 3 rfl) ?_
  refine ld_arg C hS (k := 1) (lv_at hl 1 rfl) (lv_at hl 5 rfl) (by omega) (by decide) v1 rfl dL_law_680 dL_law_681 dL_law_683 dL_law_684 dL_law_685 ?_
  refine ld_arg C hS (k := 2) (lv_at hl 1 rfl) (lv_at hl 5 rfl) (by omega) (by decide) v2 rfl dL_law_686 dL_law_687 dL_law_689 dL_law_690 dL_law_691 ?_
  refine ld_arg C hS (k := 3) (lv_at hl 1 rfl) (lv_at hl 5 rfl) (by omega) (by decide) v3 rfl dL_law_692 dL_law_693 dL_law_695 dL_law_696 dL_law_697 ?_
  refine ld_arg C hS (k := 4) (lv_at hl 1 rfl) (lv_at hl 5 rfl) (by omega) (by decide) v4 rfl dL_law_698 dL_law_699 dL_law_701 dL_law_702 dL_law_703 ?_
  refine ld_arg C hS (k := 5) (lv_at hl 1 rfl) (lv_at hl 5 rfl) (by omega) (by decide) v5 rfl dL_law_704 dL_law_705 dL_law_707 dL_law_708 dL_law_709 ?_
  have hP := toMG hP
  have hD := toMGd hD
  refine b_callvP (S := Unit) (wc := MW bb cI cJ p cl a2 gw oA oD oE oP cR aR hR pr sq ab be nw tn th n) (wr := GW a cI cJ p nu de eq am nx (upd oA c x1) (upd oD c x2) (upd oE c x3) (upd oP c x4) cR aR hR cl ad gw pr n ++ [(o0, eJ cJ 1 (ou))]) (w' := fun u8 => MW bb cI cJ p cl a2 gw (upd oA c x1) (upd oD c x2) (upd oE c x3) (upd oP c x4) cR aR hR pr sq ab be nw tn 0 n) hP hD hS (hA_ ss) (va_runV (As := [.int (nI c), .int (x1), .int (x2), .int (x3), .int (x4)]) (rest := []) C.fix (c_X4_setBooks ll D bb cI cJ _ p cl a2 gw oA oD oE oP cR aR hR pr sq ab be nw tn th n c x1 x2 x3 x4 hc h1 h2 h3 h4 h5) (cwV 5 C.hts gL_law_X4_setBooks rfl rfl rfl (by decide +kernel) ⟨Nat.le_of_ble_eq_true rfl, Nat.le_of_ble_eq_true rfl⟩) ⟨PW.blind, va_recv hK hP (ci := 4) (q0 := 0) rfl rfl, PW.goP hP hK hD hE⟩ rfl rfl hl.1 rfl (lv_room (Nat.le_of_ble_eq_true rfl)) dL_law_710 ⟨(by show cells + 0 + 0 ≤ 1070; omega), (by show slots + 0 + 0 ≤ 8714; omega)⟩) (fun u8 H locs hr8 hP hD hS => ?_)
  refine tl_v C hP hl.1 (lv_at hl 3 rfl) (lv_at hl 0 rfl) rfl (by decide) (by decide) dL_law_713 dL_law_714 dL_law_717 dL_law_719 dL_law_724 ?_ ⟨(by omega), (by omega)⟩
  refine W.widen (k := cells + 1) (n := slots + 6) (by omega) (by omega) ?_
  exact kk _ _ _ (toMG hP) (toMGd hD) hS (lv_sub hl [1, 2, 3, 4, 5] rfl)
set_option maxHeartbeats 4000000 in
set_option maxRecDepth 100000 in
theorem kv_setBooks_bad (x0 x1 x2 x3 x4 : Int32) (hbad : ¬ (inB x0 0 5 = true ∧ inB x1 0 1000000 = true ∧ inB x2 0 1000000 = true ∧ inB x3 (-1000000) 1000000 = true ∧ inB x4 (-1000000) 1000000 = true ∧ x1 = x2 + x3 + x4))  (v1 : xs (i + 1) = x0) (v2 : xs (i + 2) = x1) (v3 : xs (i + 3) = x2) (v4 : xs (i + 4) = x3) (v5 : xs (i + 5) = x4) (C : lwC pp ll ss mm mth cde b L xs D cI cJ) (hi : i + 5 < L) (hcs : cells + 1 ≤ 1070 ∧ slots + 6 ≤ 8714) (hP : va_P D vwCl (LW a bb o0 cI cJ p nu de eq am nx oA oD oE oP cR aR hR cl ad gw pr n ou p cl a2 gw oA oD oE oP cR aR hR pr sq ab be nw tn th n) H) (hD : va_D (lwA ss) (LW a bb o0 cI cJ p nu de eq am nx oA oD oE oP cR aR hR cl ad gw pr n ou p cl a2 gw oA oD oE oP cR aR hR pr sq ab be nw tn th n)) (hS : va_S (lwA ss) ss.heap H locs) (hl : lv_has ls 8 (LOC b a bb o0 i))
    (kk : ∀  (H : Heap) (locs : List Loc) (ls : Array Slot), va_P D vwCl (LW a bb o0 cI cJ p nu de eq am nx oA oD oE oP cR aR hR cl ad gw pr n ou p cl a2 gw oA oD oE oP cR aR hR pr sq ab be nw tn 1 n) H → va_D (lwA ss) (LW a bb o0 cI cJ p nu de eq am nx oA oD oE oP cR aR hR cl ad gw pr n ou p cl a2 gw oA oD oE oP cR aR hR pr sq ab be nw tn 1 n) → va_S (lwA ss) ss.heap H locs → lv_has ls 8 (LOC b a bb o0 i) → W pp ll ee room_1 ss mm #[Value.ref b] bel mth cde H locs (cells + 1) (slots + 6) Q (F0 mm 1472 ls [])) :
    W pp ll ee room_1 ss mm #[Value.ref b] bel mth cde H locs cells slots Q (F0 mm 643 ls []) := by
  have hx := C.hx
  have hb := C.hb
  have hK := C.hK
  have hE := C.hE
  refine lv_aload_n hx hb dL_law_643 rfl (lv_at hl 1 rfl) ?_
  refine ld_arg C hS (k := 1) (lv_at hl 0 rfl) (lv_at hl 4 rfl) (by omega) (by decide) v1 rfl dL_law_644 dL_law_645 dL_law_647 dL_law_648 dL_law_649 ?_
  refine ld_arg C hS (k := 2) (lv_at hl 0 rfl) (lv_at hl 4 rfl) (by omega) (by decide) v2 rfl dL_law_650 dL_law_651 dL_law_653 dL_law_654 dL_law_655 ?_
  refine ld_arg C hS (k := 3) (lv_at hl 0 rfl) (lv_at hl 4 rfl) (by omega) (by decide) v3 rfl dL_law_656 dL_law_657 dL_law_659 dL_law_660 dL_law_661 ?_
  refine ld_arg C hS (k := 4) (lv_at hl 0 rfl) (lv_at hl 4 rfl) (by omega) (by decide) v4 rfl dL_law_662 dL_law_663 dL_law_665 dL_law_666 dL_law_667 ?_
  refine ld_arg C hS (k := 5) (lv_at hl 0 rfl) (lv_at hl 4 rfl) (by omega) (by decide) v5 rfl dL_law_668 dL_law_669 dL_law_671 dL_law_672 dL_law_673 ?_
  refine b_calliP (S := Unit) (wc := GW a cI cJ p nu de eq am nx oA oD oE oP cR aR hR cl ad gw pr n ++ [(o0, eJ cJ 1 ou)]) (wr := MW bb cI cJ p cl a2 gw oA oD oE oP cR aR hR pr sq ab be nw tn th n) (w' := fun u => GW a cI cJ p nu de eq am nx oA oD oE oP cR aR hR cl ad gw pr n ++ [(o0, eJ cJ 1 (ou))]) hP hD hS (hA_ ss) (vx_runSW (As := [.ref (a 0), .int (x0), .int (x1), .int (x2), .int (x3), .int (x4)]) (rest := []) C.fix (c_L_setBooks_bad ll C.hst D a cI cJ _ p nu de eq am nx oA oD oE oP cR aR hR cl ad gw pr n o0 ou x0 x1 x2 x3 x4 hbad) (vx_cwSW 6 C.hts gL_law_L_setBooks rfl rfl rfl (by decide +kernel) ⟨Nat.le_of_ble_eq_true rfl, Nat.le_of_ble_eq_true rfl⟩) ⟨PY.blind, PY.go hP hK hD hE C.hV C.hDC hS (hA_ ss)⟩ rfl rfl hl.1 rfl (lv_room (Nat.le_of_ble_eq_true rfl)) dL_law_674 ⟨(by show cells + 1 ≤ 1070; omega), (by show slots + 6 ≤ 8714; omega)⟩) (fun r9 u H locs hr9 hP hD hS => ?_)
  obtain rfl : r9 = 1 := hr9
  refine lv_istore (lv' := [(5, .int 1), (0, .ref b), (1, .ref (a 0)), (2, .ref (bb 0)), (3, .ref o0), (4, .int (nI i))]) hx hb dL_law_677 hl (by decide) rfl (fun ls hl => ?_)
  refine lv_aload_n hx hb dL_law_679 rfl (lv_at hl 3 rfl) ?_
  refine ld_arg C hS (k := 1) (lv_at hl 1 rfl) (lv_at hl 5 rfl) (by omega) (by decide) v1 rfl dL_law_680 dL_law_681 dL_law_683 dL_law_684 dL_law_685 ?_
  refine ld_arg C hS (k := 2) (lv_at hl 1 rfl) (lv_at hl 5 rfl) (by omega) (by decide) v2 rfl dL_law_686 dL_law_687 dL_law_689 dL_law_690 dL_law_691 ?_
  refine ld_arg C hS (k := 3) (lv_at hl 1 rfl) (lv_at hl 5 rfl) (by omega) (by decide) v3 rfl dL_law_692 dL_law_693 dL_law_695 dL_law_696 dL_law_697 ?_
  refine ld_arg C hS (k := 4) (lv_at hl 1 rfl) (lv_at hl 5 rfl) (by omega) (by decide) v4 rfl dL_law_698 dL_law_699 dL_law_701 dL_law_702 dL_law_703 ?_
  refine ld_arg C hS (k := 5) (lv_at hl 1 rfl) (lv_at hl 5 rfl) (by omega) (by decide) v5 rfl dL_law_704 dL_law_705 dL_law_707 dL_law_708 dL_law_709 ?_
  have hP := toMG hP
  have hD := toMGd hD
  refine b_callvP (S := Unit) (wc := MW bb cI cJ p cl a2 gw oA oD oE oP cR aR hR pr sq ab be nw tn th n) (wr := GW a cI cJ p nu de eq am nx oA oD oE oP cR aR hR cl ad gw pr n ++ [(o0, eJ cJ 1 (ou))]) (w' := fun u8 => MW bb cI cJ p cl a2 gw oA oD oE oP cR aR hR pr sq ab be nw tn 1 n) hP hD hS (hA_ ss) (va_runV (As := [.int (x0), .int (x1), .int (x2), .int (x3), .int (x4)]) (rest := []) C.fix (c_X4_setBooks_bad ll D bb cI cJ _ p cl a2 gw oA oD oE oP cR aR hR pr sq ab be nw tn th n x0 x1 x2 x3 x4 hbad) (cwV 5 C.hts gL_law_X4_setBooks rfl rfl rfl (by decide +kernel) ⟨Nat.le_of_ble_eq_true rfl, Nat.le_of_ble_eq_true rfl⟩) ⟨PW.blind, va_recv hK hP (ci := 4) (q0 := 0) rfl rfl, PW.goP hP hK hD hE⟩ rfl rfl hl.1 rfl (lv_room (Nat.le_of_ble_eq_true rfl)) dL_law_710 ⟨(by show cells + 1 + 0 ≤ 1070; omega), (by show slots + 6 + 0 ≤ 8714; omega)⟩) (fun u8 H locs hr8 hP hD hS => ?_)
  refine tl_v C hP hl.1 (lv_at hl 3 rfl) (lv_at hl 0 rfl) rfl (by decide) (by decide) dL_law_713 dL_law_714 dL_law_717 dL_law_719 dL_law_724 ?_ ⟨(by omega), (by omega)⟩
  refine W.widen (k := cells + 1) (n := slots + 6) (by omega) (by omega) ?_
  exact kk _ _ _ (toMG hP) (toMGd hD) hS (lv_sub hl [1, 2, 3, 4, 5] rfl)
set_option maxHeartbeats 4000000 in
set_option maxRecDepth 100000 in
theorem kv_setRates (c : Nat) (x1 x2 x3 : Int32) (hc : c < 6) (h1 : inB x1 1 1000 = true) (h2 : inB x2 1 1000 = true) (h3 : inB x3 1 1000 = true)  (v1 : xs (i + 1) = nI c) (v2 : xs (i + 2) = x1) (v3 : xs (i + 3) = x2) (v4 : xs (i + 4) = x3) (C : lwC pp ll ss mm mth cde b L xs D cI cJ) (hi : i + 5 < L) (hcs : cells + 1 ≤ 1070 ∧ slots + 6 ≤ 8714) (hP : va_P D vwCl (LW a bb o0 cI cJ p nu de eq am nx oA oD oE oP cR aR hR cl ad gw pr n ou p cl a2 gw oA oD oE oP cR aR hR pr sq ab be nw tn th n) H) (hD : va_D (lwA ss) (LW a bb o0 cI cJ p nu de eq am nx oA oD oE oP cR aR hR cl ad gw pr n ou p cl a2 gw oA oD oE oP cR aR hR pr sq ab be nw tn th n)) (hS : va_S (lwA ss) ss.heap H locs) (hl : lv_has ls 8 (LOC b a bb o0 i))
    (kk : ∀  (H : Heap) (locs : List Loc) (ls : Array Slot), va_P D vwCl (LW a bb o0 cI cJ p nu de eq am nx oA oD oE oP (upd cR c x1) (upd aR c x2) (upd hR c x3) cl ad gw pr n ou p cl a2 gw oA oD oE oP (upd cR c x1) (upd aR c x2) (upd hR c x3) pr sq ab be nw tn 0 n) H → va_D (lwA ss) (LW a bb o0 cI cJ p nu de eq am nx oA oD oE oP (upd cR c x1) (upd aR c x2) (upd hR c x3) cl ad gw pr n ou p cl a2 gw oA oD oE oP (upd cR c x1) (upd aR c x2) (upd hR c x3) pr sq ab be nw tn 0 n) → va_S (lwA ss) ss.heap H locs → lv_has ls 8 (LOC b a bb o0 i) → W pp ll ee room_1 ss mm #[Value.ref b] bel mth cde H locs (cells + 1) (slots + 6) Q (F0 mm 1472 ls [])) :
    W pp ll ee room_1 ss mm #[Value.ref b] bel mth cde H locs cells slots Q (F0 mm 727 ls []) := by
  have hx := C.hx
  have hb := C.hb
  have hK := C.hK
  have hE := C.hE
  refine lv_aload_n hx hb dL_law_727 rfl (lv_at hl 1 rfl) ?_
  refine ld_arg C hS (k := 1) (lv_at hl 0 rfl) (lv_at hl 4 rfl) (by omega) (by decide) v1 rfl dL_law_728 dL_law_729 dL_law_731 dL_law_732 dL_law_733 ?_
  refine ld_arg C hS (k := 2) (lv_at hl 0 rfl) (lv_at hl 4 rfl) (by omega) (by decide) v2 rfl dL_law_734 dL_law_735 dL_law_737 dL_law_738 dL_law_739 ?_
  refine ld_arg C hS (k := 3) (lv_at hl 0 rfl) (lv_at hl 4 rfl) (by omega) (by decide) v3 rfl dL_law_740 dL_law_741 dL_law_743 dL_law_744 dL_law_745 ?_
  refine ld_arg C hS (k := 4) (lv_at hl 0 rfl) (lv_at hl 4 rfl) (by omega) (by decide) v4 rfl dL_law_746 dL_law_747 dL_law_749 dL_law_750 dL_law_751 ?_
  refine b_calliP (S := Unit) (wc := GW a cI cJ p nu de eq am nx oA oD oE oP cR aR hR cl ad gw pr n ++ [(o0, eJ cJ 1 ou)]) (wr := MW bb cI cJ p cl a2 gw oA oD oE oP cR aR hR pr sq ab be nw tn th n) (w' := fun u => GW a cI cJ p nu de eq am nx oA oD oE oP (upd cR c x1) (upd aR c x2) (upd hR c x3) cl ad gw pr n ++ [(o0, eJ cJ 1 (ou))]) hP hD hS (hA_ ss) (vx_runSW (As := [.ref (a 0), .int (nI c), .int (x1), .int (x2), .int (x3)]) (rest := []) C.fix (c_L_setRates ll D a cI cJ _ p nu de eq am nx oA oD oE oP cR aR hR cl ad gw pr n o0 ou c x1 x2 x3 hc h1 h2 h3) (vx_cwSW 5 C.hts gL_law_L_setRates rfl rfl rfl (by decide +kernel) ⟨Nat.le_of_ble_eq_true rfl, Nat.le_of_ble_eq_true rfl⟩) ⟨PY.blind, PY.go hP hK hD hE C.hV C.hDC hS (hA_ ss)⟩ rfl rfl hl.1 rfl (lv_room (Nat.le_of_ble_eq_true rfl)) dL_law_752 ⟨(by show cells + 0 ≤ 1070; omega), (by show slots + 0 ≤ 8714; omega)⟩) (fun r9 u H locs hr9 hP hD hS => ?_)
  obtain rfl : r9 = 0 := hr9
  refine lv_istore (lv' := [(5, .int 0), (0, .ref b), (1, .ref (a 0)), (2, .ref (bb 0)), (3, .ref o0), (4, .int (nI i))]) hx hb dL_law_755 hl (by decide) rfl (fun ls hl => ?_)
  refine lv_aload_n hx hb dL_law_757 rfl (lv_at hl 3 rfl) ?_
  refine ld_arg C hS (k := 1) (lv_at hl 1 rfl) (lv_at hl 5 rfl) (by omega) (by decide) v1 rfl dL_law_758 dL_law_759 dL_law_761 dL_law_762 dL_law_763 ?_
  refine ld_arg C hS (k := 2) (lv_at hl 1 rfl) (lv_at hl 5 rfl) (by omega) (by decide) v2 rfl dL_law_764 dL_law_765 dL_law_767 dL_law_768 dL_law_769 ?_
  refine ld_arg C hS (k := 3) (lv_at hl 1 rfl) (lv_at hl 5 rfl) (by omega) (by decide) v3 rfl dL_law_770 dL_law_771 dL_law_773 dL_law_774 dL_law_775 ?_
  refine ld_arg C hS (k := 4) (lv_at hl 1 rfl) (lv_at hl 5 rfl) (by omega) (by decide) v4 rfl dL_law_776 dL_law_777 dL_law_779 dL_law_780 dL_law_781 ?_
  have hP := toMG hP
  have hD := toMGd hD
  refine b_callvP (S := Unit) (wc := MW bb cI cJ p cl a2 gw oA oD oE oP cR aR hR pr sq ab be nw tn th n) (wr := GW a cI cJ p nu de eq am nx oA oD oE oP (upd cR c x1) (upd aR c x2) (upd hR c x3) cl ad gw pr n ++ [(o0, eJ cJ 1 (ou))]) (w' := fun u8 => MW bb cI cJ p cl a2 gw oA oD oE oP (upd cR c x1) (upd aR c x2) (upd hR c x3) pr sq ab be nw tn 0 n) hP hD hS (hA_ ss) (va_runV (As := [.int (nI c), .int (x1), .int (x2), .int (x3)]) (rest := []) C.fix (c_X4_setRates ll D bb cI cJ _ p cl a2 gw oA oD oE oP cR aR hR pr sq ab be nw tn th n c x1 x2 x3 hc h1 h2 h3) (cwV 4 C.hts gL_law_X4_setRates rfl rfl rfl (by decide +kernel) ⟨Nat.le_of_ble_eq_true rfl, Nat.le_of_ble_eq_true rfl⟩) ⟨PW.blind, va_recv hK hP (ci := 4) (q0 := 0) rfl rfl, PW.goP hP hK hD hE⟩ rfl rfl hl.1 rfl (lv_room (Nat.le_of_ble_eq_true rfl)) dL_law_782 ⟨(by show cells + 0 + 0 ≤ 1070; omega), (by show slots + 0 + 0 ≤ 8714; omega)⟩) (fun u8 H locs hr8 hP hD hS => ?_)
  refine tl_v C hP hl.1 (lv_at hl 3 rfl) (lv_at hl 0 rfl) rfl (by decide) (by decide) dL_law_785 dL_law_786 dL_law_789 dL_law_791 dL_law_796 ?_ ⟨(by omega), (by omega)⟩
  refine W.widen (k := cells + 1) (n := slots + 6) (by omega) (by omega) ?_
  exact kk _ _ _ (toMG hP) (toMGd hD) hS (lv_sub hl [1, 2, 3, 4, 5] rfl)
set_option maxHeartbeats 4000000 in
set_option maxRecDepth 100000 in
theorem kv_setRates_bad (x0 x1 x2 x3 : Int32) (hbad : ¬ (inB x0 0 5 = true ∧ inB x1 1 1000 = true ∧ inB x2 1 1000 = true ∧ inB x3 1 1000 = true))  (v1 : xs (i + 1) = x0) (v2 : xs (i + 2) = x1) (v3 : xs (i + 3) = x2) (v4 : xs (i + 4) = x3) (C : lwC pp ll ss mm mth cde b L xs D cI cJ) (hi : i + 5 < L) (hcs : cells + 1 ≤ 1070 ∧ slots + 6 ≤ 8714) (hP : va_P D vwCl (LW a bb o0 cI cJ p nu de eq am nx oA oD oE oP cR aR hR cl ad gw pr n ou p cl a2 gw oA oD oE oP cR aR hR pr sq ab be nw tn th n) H) (hD : va_D (lwA ss) (LW a bb o0 cI cJ p nu de eq am nx oA oD oE oP cR aR hR cl ad gw pr n ou p cl a2 gw oA oD oE oP cR aR hR pr sq ab be nw tn th n)) (hS : va_S (lwA ss) ss.heap H locs) (hl : lv_has ls 8 (LOC b a bb o0 i))
    (kk : ∀  (H : Heap) (locs : List Loc) (ls : Array Slot), va_P D vwCl (LW a bb o0 cI cJ p nu de eq am nx oA oD oE oP cR aR hR cl ad gw pr n ou p cl a2 gw oA oD oE oP cR aR hR pr sq ab be nw tn 1 n) H → va_D (lwA ss) (LW a bb o0 cI cJ p nu de eq am nx oA oD oE oP cR aR hR cl ad gw pr n ou p cl a2 gw oA oD oE oP cR aR hR pr sq ab be nw tn 1 n) → va_S (lwA ss) ss.heap H locs → lv_has ls 8 (LOC b a bb o0 i) → W pp ll ee room_1 ss mm #[Value.ref b] bel mth cde H locs (cells + 1) (slots + 6) Q (F0 mm 1472 ls [])) :
    W pp ll ee room_1 ss mm #[Value.ref b] bel mth cde H locs cells slots Q (F0 mm 727 ls []) := by
  have hx := C.hx
  have hb := C.hb
  have hK := C.hK
  have hE := C.hE
  refine lv_aload_n hx hb dL_law_727 rfl (lv_at hl 1 rfl) ?_
  refine ld_arg C hS (k := 1) (lv_at hl 0 rfl) (lv_at hl 4 rfl) (by omega) (by decide) v1 rfl dL_law_728 dL_law_729 dL_law_731 dL_law_732 dL_law_733 ?_
  refine ld_arg C hS (k := 2) (lv_at hl 0 rfl) (lv_at hl 4 rfl) (by omega) (by decide) v2 rfl dL_law_734 dL_law_735 dL_law_737 dL_law_738 dL_law_739 ?_
  refine ld_arg C hS (k := 3) (lv_at hl 0 rfl) (lv_at hl 4 rfl) (by omega) (by decide) v3 rfl dL_law_740 dL_law_741 dL_law_743 dL_law_744 dL_law_745 ?_
  refine ld_arg C hS (k := 4) (lv_at hl 0 rfl) (lv_at hl 4 rfl) (by omega) (by decide) v4 rfl dL_law_746 dL_law_747 dL_law_749 dL_law_750 dL_law_751 ?_
  refine b_calliP (S := Unit) (wc := GW a cI cJ p nu de eq am nx oA oD oE oP cR aR hR cl ad gw pr n ++ [(o0, eJ cJ 1 ou)]) (wr := MW bb cI cJ p cl a2 gw oA oD oE oP cR aR hR pr sq ab be nw tn th n) (w' := fun u => GW a cI cJ p nu de eq am nx oA oD oE oP cR aR hR cl ad gw pr n ++ [(o0, eJ cJ 1 (ou))]) hP hD hS (hA_ ss) (vx_runSW (As := [.ref (a 0), .int (x0), .int (x1), .int (x2), .int (x3)]) (rest := []) C.fix (c_L_setRates_bad ll C.hst D a cI cJ _ p nu de eq am nx oA oD oE oP cR aR hR cl ad gw pr n o0 ou x0 x1 x2 x3 hbad) (vx_cwSW 5 C.hts gL_law_L_setRates rfl rfl rfl (by decide +kernel) ⟨Nat.le_of_ble_eq_true rfl, Nat.le_of_ble_eq_true rfl⟩) ⟨PY.blind, PY.go hP hK hD hE C.hV C.hDC hS (hA_ ss)⟩ rfl rfl hl.1 rfl (lv_room (Nat.le_of_ble_eq_true rfl)) dL_law_752 ⟨(by show cells + 1 ≤ 1070; omega), (by show slots + 6 ≤ 8714; omega)⟩) (fun r9 u H locs hr9 hP hD hS => ?_)
  obtain rfl : r9 = 1 := hr9
  refine lv_istore (lv' := [(5, .int 1), (0, .ref b), (1, .ref (a 0)), (2, .ref (bb 0)), (3, .ref o0), (4, .int (nI i))]) hx hb dL_law_755 hl (by decide) rfl (fun ls hl => ?_)
  refine lv_aload_n hx hb dL_law_757 rfl (lv_at hl 3 rfl) ?_
  refine ld_arg C hS (k := 1) (lv_at hl 1 rfl) (lv_at hl 5 rfl) (by omega) (by decide) v1 rfl dL_law_758 dL_law_759 dL_law_761 dL_law_762 dL_law_763 ?_
  refine ld_arg C hS (k := 2) (lv_at hl 1 rfl) (lv_at hl 5 rfl) (by omega) (by decide) v2 rfl dL_law_764 dL_law_765 dL_law_767 dL_law_768 dL_law_769 ?_
  refine ld_arg C hS (k := 3) (lv_at hl 1 rfl) (lv_at hl 5 rfl) (by omega) (by decide) v3 rfl dL_law_770 dL_law_771 dL_law_773 dL_law_774 dL_law_775 ?_
  refine ld_arg C hS (k := 4) (lv_at hl 1 rfl) (lv_at hl 5 rfl) (by omega) (by decide) v4 rfl dL_law_776 dL_law_777 dL_law_779 dL_law_780 dL_law_781 ?_
  have hP := toMG hP
  have hD := toMGd hD
  refine b_callvP (S := Unit) (wc := MW bb cI cJ p cl a2 gw oA oD oE oP cR aR hR pr sq ab be nw tn th n) (wr := GW a cI cJ p nu de eq am nx oA oD oE oP cR aR hR cl ad gw pr n ++ [(o0, eJ cJ 1 (ou))]) (w' := fun u8 => MW bb cI cJ p cl a2 gw oA oD oE oP cR aR hR pr sq ab be nw tn 1 n) hP hD hS (hA_ ss) (va_runV (As := [.int (x0), .int (x1), .int (x2), .int (x3)]) (rest := []) C.fix (c_X4_setRates_bad ll D bb cI cJ _ p cl a2 gw oA oD oE oP cR aR hR pr sq ab be nw tn th n x0 x1 x2 x3 hbad) (cwV 4 C.hts gL_law_X4_setRates rfl rfl rfl (by decide +kernel) ⟨Nat.le_of_ble_eq_true rfl, Nat.le_of_ble_eq_true rfl⟩) ⟨PW.blind, va_recv hK hP (ci := 4) (q0 := 0) rfl rfl, PW.goP hP hK hD hE⟩ rfl rfl hl.1 rfl (lv_room (Nat.le_of_ble_eq_true rfl)) dL_law_782 ⟨(by show cells + 1 + 0 ≤ 1070; omega), (by show slots + 6 + 0 ≤ 8714; omega)⟩) (fun u8 H locs hr8 hP hD hS => ?_)
  refine tl_v C hP hl.1 (lv_at hl 3 rfl) (lv_at hl 0 rfl) rfl (by decide) (by decide) dL_law_785 dL_law_786 dL_law_789 dL_law_791 dL_law_796 ?_ ⟨(by omega), (by omega)⟩
  refine W.widen (k := cells + 1) (n := slots + 6) (by omega) (by omega) ?_
  exact kk _ _ _ (toMG hP) (toMGd hD) hS (lv_sub hl [1, 2, 3, 4, 5] rfl)
set_option maxHeartbeats 4000000 in
set_option maxRecDepth 100000 in
theorem kv_netValue (c : Nat) (hc : c < 6) (hq : tr (oA c) (cR c) - tr (oD c) (cR c) = ntM oA oD cR c) (v1 : xs (i + 1) = nI c) (C : lwC pp ll ss mm mth cde b L xs D cI cJ) (hi : i + 5 < L) (hcs : cells + 1 ≤ 1070 ∧ slots + 6 ≤ 8714) (hP : va_P D vwCl (LW a bb o0 cI cJ p nu de eq am nx oA oD oE oP cR aR hR cl ad gw pr n ou p cl a2 gw oA oD oE oP cR aR hR pr sq ab be nw tn th n) H) (hD : va_D (lwA ss) (LW a bb o0 cI cJ p nu de eq am nx oA oD oE oP cR aR hR cl ad gw pr n ou p cl a2 gw oA oD oE oP cR aR hR pr sq ab be nw tn th n)) (hS : va_S (lwA ss) ss.heap H locs) (hl : lv_has ls 8 (LOC b a bb o0 i))
    (kk : ∀  (H : Heap) (locs : List Loc) (ls : Array Slot), va_P D vwCl (LW a bb o0 cI cJ p nu de eq am nx oA oD oE oP cR aR hR cl ad gw pr n (vp_updL ou 0 (tr (oA c) (cR c) - tr (oD c) (cR c)).toInt64) p cl a2 gw oA oD oE oP cR aR hR pr sq ab be nw tn 0 n) H → va_D (lwA ss) (LW a bb o0 cI cJ p nu de eq am nx oA oD oE oP cR aR hR cl ad gw pr n (vp_updL ou 0 (tr (oA c) (cR c) - tr (oD c) (cR c)).toInt64) p cl a2 gw oA oD oE oP cR aR hR pr sq ab be nw tn 0 n) → va_S (lwA ss) ss.heap H locs → lv_has ls 8 (LOC b a bb o0 i) → W pp ll ee room_1 ss mm #[Value.ref b] bel mth cde H locs (cells + 1) (slots + 6) Q (F0 mm 1472 ls [])) :
    W pp ll ee room_1 ss mm #[Value.ref b] bel mth cde H locs cells slots Q (F0 mm 799 ls []) := by
  have hx := C.hx
  have hb := C.hb
  have hK := C.hK
  have hE := C.hE
  refine lv_aload_n hx hb dL_law_799 rfl (lv_at hl 1 rfl) ?_
  refine ld_arg C hS (k := 1) (lv_at hl 0 rfl) (lv_at hl 4 rfl) (by omega) (by decide) v1 rfl dL_law_800 dL_law_801 dL_law_803 dL_law_804 dL_law_805 ?_
  refine lv_aload_n hx hb dL_law_806 rfl (lv_at hl 3 rfl) ?_
  refine b_calliP (S := Unit) (wc := GW a cI cJ p nu de eq am nx oA oD oE oP cR aR hR cl ad gw pr n ++ [(o0, eJ cJ 1 ou)]) (wr := MW bb cI cJ p cl a2 gw oA oD oE oP cR aR hR pr sq ab be nw tn th n) (w' := fun u => GW a cI cJ p nu de eq am nx oA oD oE oP cR aR hR cl ad gw pr n ++ [(o0, eJ cJ 1 (vp_updL ou 0 (tr (oA c) (cR c) - tr (oD c) (cR c)).toInt64))]) hP hD hS (hA_ ss) (vx_runSW (As := [.ref (a 0), .int (nI c), .ref o0]) (rest := []) C.fix (c_L_netValue ll D a cI cJ _ p nu de eq am nx oA oD oE oP cR aR hR cl ad gw pr n o0 ou c hc) (vx_cwSW 3 C.hts gL_law_L_netValue rfl rfl rfl (by decide +kernel) ⟨Nat.le_of_ble_eq_true rfl, Nat.le_of_ble_eq_true rfl⟩) ⟨PY.blind, PY.go hP hK hD hE C.hV C.hDC hS (hA_ ss)⟩ rfl rfl hl.1 rfl (lv_room (Nat.le_of_ble_eq_true rfl)) dL_law_807 ⟨(by show cells + 0 ≤ 1070; omega), (by show slots + 0 ≤ 8714; omega)⟩) (fun r9 u H locs hr9 hP hD hS => ?_)
  obtain rfl : r9 = 0 := hr9
  refine lv_istore (lv' := [(5, .int 0), (0, .ref b), (1, .ref (a 0)), (2, .ref (bb 0)), (3, .ref o0), (4, .int (nI i))]) hx hb dL_law_810 hl (by decide) rfl (fun ls hl => ?_)
  refine lv_aload_n hx hb dL_law_812 rfl (lv_at hl 3 rfl) ?_
  refine ld_arg C hS (k := 1) (lv_at hl 1 rfl) (lv_at hl 5 rfl) (by omega) (by decide) v1 rfl dL_law_813 dL_law_814 dL_law_816 dL_law_817 dL_law_818 ?_
  have hP := toMG hP
  have hD := toMGd hD
  refine b_calliP (S := Unit) (wc := MW bb cI cJ p cl a2 gw oA oD oE oP cR aR hR pr sq ab be nw tn th n) (wr := GW a cI cJ p nu de eq am nx oA oD oE oP cR aR hR cl ad gw pr n ++ [(o0, eJ cJ 1 (vp_updL ou 0 (tr (oA c) (cR c) - tr (oD c) (cR c)).toInt64))]) (w' := fun u8 => MW bb cI cJ p cl a2 gw oA oD oE oP cR aR hR pr sq ab be nw tn 0 n) hP hD hS (hA_ ss) (va_runV (As := [.int (nI c)]) (rest := []) C.fix (c_X4_netValue ll D bb cI cJ _ p cl a2 gw oA oD oE oP cR aR hR pr sq ab be nw tn th n c hc) (cwV 1 C.hts gL_law_X4_netValue rfl rfl rfl (by decide +kernel) ⟨Nat.le_of_ble_eq_true rfl, Nat.le_of_ble_eq_true rfl⟩) ⟨PW.blind, va_recv hK hP (ci := 4) (q0 := 0) rfl rfl, PW.goP hP hK hD hE⟩ rfl rfl hl.1 rfl (lv_room (Nat.le_of_ble_eq_true rfl)) dL_law_819 ⟨(by show cells + 0 + 0 ≤ 1070; omega), (by show slots + 0 + 0 ≤ 8714; omega)⟩) (fun r8 u8 H locs hr8 hP hD hS => ?_)
  obtain rfl : r8 = ntM oA oD cR c := hr8
  refine lv_istore (lv' := [(6, .int (ntM oA oD cR c)), (5, .int 0), (0, .ref b), (1, .ref (a 0)), (2, .ref (bb 0)), (3, .ref o0), (4, .int (nI i))]) hx hb dL_law_822 hl (by decide) rfl (fun ls hl => ?_)
  refine tl_i C hP rfl hS hl.1 (lv_at hl 4 rfl) (lv_at hl 5 rfl) (lv_at hl 1 rfl) (lv_at hl 0 rfl) ((if_pos rfl).trans (congrArg Int32.toInt64 hq)) rfl rfl (by decide) (by decide) (by decide) (by decide) dL_law_824 dL_law_825 dL_law_828 dL_law_830 dL_law_835 dL_law_837 dL_law_840 dL_law_841 dL_law_842 dL_law_843 dL_law_845 dL_law_846 dL_law_847 dL_law_852 ?_ ⟨(by omega), (by omega)⟩
  refine W.widen (k := cells + 1) (n := slots + 6) (by omega) (by omega) ?_
  exact kk _ _ _ (toMG hP) (toMGd hD) hS (lv_sub hl [2, 3, 4, 5, 6] rfl)
set_option maxHeartbeats 4000000 in
set_option maxRecDepth 100000 in
theorem kv_netValue_bad (x0 : Int32) (hbad : ¬ inB x0 0 5 = true)  (v1 : xs (i + 1) = x0) (C : lwC pp ll ss mm mth cde b L xs D cI cJ) (hi : i + 5 < L) (hcs : cells + 1 ≤ 1070 ∧ slots + 6 ≤ 8714) (hP : va_P D vwCl (LW a bb o0 cI cJ p nu de eq am nx oA oD oE oP cR aR hR cl ad gw pr n ou p cl a2 gw oA oD oE oP cR aR hR pr sq ab be nw tn th n) H) (hD : va_D (lwA ss) (LW a bb o0 cI cJ p nu de eq am nx oA oD oE oP cR aR hR cl ad gw pr n ou p cl a2 gw oA oD oE oP cR aR hR pr sq ab be nw tn th n)) (hS : va_S (lwA ss) ss.heap H locs) (hl : lv_has ls 8 (LOC b a bb o0 i))
    (kk : ∀  (H : Heap) (locs : List Loc) (ls : Array Slot), va_P D vwCl (LW a bb o0 cI cJ p nu de eq am nx oA oD oE oP cR aR hR cl ad gw pr n ou p cl a2 gw oA oD oE oP cR aR hR pr sq ab be nw tn 1 n) H → va_D (lwA ss) (LW a bb o0 cI cJ p nu de eq am nx oA oD oE oP cR aR hR cl ad gw pr n ou p cl a2 gw oA oD oE oP cR aR hR pr sq ab be nw tn 1 n) → va_S (lwA ss) ss.heap H locs → lv_has ls 8 (LOC b a bb o0 i) → W pp ll ee room_1 ss mm #[Value.ref b] bel mth cde H locs (cells + 1) (slots + 6) Q (F0 mm 1472 ls [])) :
    W pp ll ee room_1 ss mm #[Value.ref b] bel mth cde H locs cells slots Q (F0 mm 799 ls []) := by
  have hx := C.hx
  have hb := C.hb
  have hK := C.hK
  have hE := C.hE
  refine lv_aload_n hx hb dL_law_799 rfl (lv_at hl 1 rfl) ?_
  refine ld_arg C hS (k := 1) (lv_at hl 0 rfl) (lv_at hl 4 rfl) (by omega) (by decide) v1 rfl dL_law_800 dL_law_801 dL_law_803 dL_law_804 dL_law_805 ?_
  refine lv_aload_n hx hb dL_law_806 rfl (lv_at hl 3 rfl) ?_
  refine b_calliP (S := Unit) (wc := GW a cI cJ p nu de eq am nx oA oD oE oP cR aR hR cl ad gw pr n ++ [(o0, eJ cJ 1 ou)]) (wr := MW bb cI cJ p cl a2 gw oA oD oE oP cR aR hR pr sq ab be nw tn th n) (w' := fun u => GW a cI cJ p nu de eq am nx oA oD oE oP cR aR hR cl ad gw pr n ++ [(o0, eJ cJ 1 (ou))]) hP hD hS (hA_ ss) (vx_runSW (As := [.ref (a 0), .int (x0), .ref o0]) (rest := []) C.fix (c_L_netValue_bad ll C.hst D a cI cJ _ p nu de eq am nx oA oD oE oP cR aR hR cl ad gw pr n o0 ou x0 hbad) (vx_cwSW 3 C.hts gL_law_L_netValue rfl rfl rfl (by decide +kernel) ⟨Nat.le_of_ble_eq_true rfl, Nat.le_of_ble_eq_true rfl⟩) ⟨PY.blind, PY.go hP hK hD hE C.hV C.hDC hS (hA_ ss)⟩ rfl rfl hl.1 rfl (lv_room (Nat.le_of_ble_eq_true rfl)) dL_law_807 ⟨(by show cells + 1 ≤ 1070; omega), (by show slots + 6 ≤ 8714; omega)⟩) (fun r9 u H locs hr9 hP hD hS => ?_)
  obtain rfl : r9 = 1 := hr9
  refine lv_istore (lv' := [(5, .int 1), (0, .ref b), (1, .ref (a 0)), (2, .ref (bb 0)), (3, .ref o0), (4, .int (nI i))]) hx hb dL_law_810 hl (by decide) rfl (fun ls hl => ?_)
  refine lv_aload_n hx hb dL_law_812 rfl (lv_at hl 3 rfl) ?_
  refine ld_arg C hS (k := 1) (lv_at hl 1 rfl) (lv_at hl 5 rfl) (by omega) (by decide) v1 rfl dL_law_813 dL_law_814 dL_law_816 dL_law_817 dL_law_818 ?_
  have hP := toMG hP
  have hD := toMGd hD
  refine b_calliP (S := Unit) (wc := MW bb cI cJ p cl a2 gw oA oD oE oP cR aR hR pr sq ab be nw tn th n) (wr := GW a cI cJ p nu de eq am nx oA oD oE oP cR aR hR cl ad gw pr n ++ [(o0, eJ cJ 1 (ou))]) (w' := fun u8 => MW bb cI cJ p cl a2 gw oA oD oE oP cR aR hR pr sq ab be nw tn 1 n) hP hD hS (hA_ ss) (va_runV (As := [.int (x0)]) (rest := []) C.fix (c_X4_netValue_bad ll D bb cI cJ _ p cl a2 gw oA oD oE oP cR aR hR pr sq ab be nw tn th n x0 hbad) (cwV 1 C.hts gL_law_X4_netValue rfl rfl rfl (by decide +kernel) ⟨Nat.le_of_ble_eq_true rfl, Nat.le_of_ble_eq_true rfl⟩) ⟨PW.blind, va_recv hK hP (ci := 4) (q0 := 0) rfl rfl, PW.goP hP hK hD hE⟩ rfl rfl hl.1 rfl (lv_room (Nat.le_of_ble_eq_true rfl)) dL_law_819 ⟨(by show cells + 1 + 0 ≤ 1070; omega), (by show slots + 6 + 0 ≤ 8714; omega)⟩) (fun r8 u8 H locs hr8 hP hD hS => ?_)
  obtain rfl : r8 = 0 := hr8
  refine lv_istore (lv' := [(6, .int (0)), (5, .int 1), (0, .ref b), (1, .ref (a 0)), (2, .ref (bb 0)), (3, .ref o0), (4, .int (nI i))]) hx hb dL_law_822 hl (by decide) rfl (fun ls hl => ?_)
  refine tl_x C hP hl.1 (by decide) (lv_at hl 4 rfl) (lv_at hl 1 rfl) rfl (tg := 852) (by decide) (by decide) (by decide) dL_law_824 dL_law_825 dL_law_828 dL_law_830 dL_law_835 dL_law_837 dL_law_852 ?_ ⟨(by omega), (by omega)⟩
  refine W.widen (k := cells + 1) (n := slots + 6) (by omega) (by omega) ?_
  exact kk _ _ _ (toMG hP) (toMGd hD) hS (lv_sub hl [2, 3, 4, 5, 6] rfl)
set_option maxHeartbeats 4000000 in
set_option maxRecDepth 100000 in
theorem kv_translatedEquity (c : Nat) (hc : c < 6) (hq : tr (oE c) (hR c) = trM (oE c) (hR c)) (v1 : xs (i + 1) = nI c) (C : lwC pp ll ss mm mth cde b L xs D cI cJ) (hi : i + 5 < L) (hcs : cells + 1 ≤ 1070 ∧ slots + 6 ≤ 8714) (hP : va_P D vwCl (LW a bb o0 cI cJ p nu de eq am nx oA oD oE oP cR aR hR cl ad gw pr n ou p cl a2 gw oA oD oE oP cR aR hR pr sq ab be nw tn th n) H) (hD : va_D (lwA ss) (LW a bb o0 cI cJ p nu de eq am nx oA oD oE oP cR aR hR cl ad gw pr n ou p cl a2 gw oA oD oE oP cR aR hR pr sq ab be nw tn th n)) (hS : va_S (lwA ss) ss.heap H locs) (hl : lv_has ls 8 (LOC b a bb o0 i))
    (kk : ∀  (H : Heap) (locs : List Loc) (ls : Array Slot), va_P D vwCl (LW a bb o0 cI cJ p nu de eq am nx oA oD oE oP cR aR hR cl ad gw pr n (vp_updL ou 0 (tr (oE c) (hR c)).toInt64) p cl a2 gw oA oD oE oP cR aR hR pr sq ab be nw tn 0 n) H → va_D (lwA ss) (LW a bb o0 cI cJ p nu de eq am nx oA oD oE oP cR aR hR cl ad gw pr n (vp_updL ou 0 (tr (oE c) (hR c)).toInt64) p cl a2 gw oA oD oE oP cR aR hR pr sq ab be nw tn 0 n) → va_S (lwA ss) ss.heap H locs → lv_has ls 8 (LOC b a bb o0 i) → W pp ll ee room_1 ss mm #[Value.ref b] bel mth cde H locs (cells + 1) (slots + 6) Q (F0 mm 1472 ls [])) :
    W pp ll ee room_1 ss mm #[Value.ref b] bel mth cde H locs cells slots Q (F0 mm 855 ls []) := by
  have hx := C.hx
  have hb := C.hb
  have hK := C.hK
  have hE := C.hE
  refine lv_aload_n hx hb dL_law_855 rfl (lv_at hl 1 rfl) ?_
  refine ld_arg C hS (k := 1) (lv_at hl 0 rfl) (lv_at hl 4 rfl) (by omega) (by decide) v1 rfl dL_law_856 dL_law_857 dL_law_859 dL_law_860 dL_law_861 ?_
  refine lv_aload_n hx hb dL_law_862 rfl (lv_at hl 3 rfl) ?_
  refine b_calliP (S := Unit) (wc := GW a cI cJ p nu de eq am nx oA oD oE oP cR aR hR cl ad gw pr n ++ [(o0, eJ cJ 1 ou)]) (wr := MW bb cI cJ p cl a2 gw oA oD oE oP cR aR hR pr sq ab be nw tn th n) (w' := fun u => GW a cI cJ p nu de eq am nx oA oD oE oP cR aR hR cl ad gw pr n ++ [(o0, eJ cJ 1 (vp_updL ou 0 (tr (oE c) (hR c)).toInt64))]) hP hD hS (hA_ ss) (vx_runSW (As := [.ref (a 0), .int (nI c), .ref o0]) (rest := []) C.fix (c_L_translatedEquity ll D a cI cJ _ p nu de eq am nx oA oD oE oP cR aR hR cl ad gw pr n o0 ou c hc) (vx_cwSW 3 C.hts gL_law_L_translatedEquity rfl rfl rfl (by decide +kernel) ⟨Nat.le_of_ble_eq_true rfl, Nat.le_of_ble_eq_true rfl⟩) ⟨PY.blind, PY.go hP hK hD hE C.hV C.hDC hS (hA_ ss)⟩ rfl rfl hl.1 rfl (lv_room (Nat.le_of_ble_eq_true rfl)) dL_law_863 ⟨(by show cells + 0 ≤ 1070; omega), (by show slots + 0 ≤ 8714; omega)⟩) (fun r9 u H locs hr9 hP hD hS => ?_)
  obtain rfl : r9 = 0 := hr9
  refine lv_istore (lv' := [(5, .int 0), (0, .ref b), (1, .ref (a 0)), (2, .ref (bb 0)), (3, .ref o0), (4, .int (nI i))]) hx hb dL_law_866 hl (by decide) rfl (fun ls hl => ?_)
  refine lv_aload_n hx hb dL_law_868 rfl (lv_at hl 3 rfl) ?_
  refine ld_arg C hS (k := 1) (lv_at hl 1 rfl) (lv_at hl 5 rfl) (by omega) (by decide) v1 rfl dL_law_869 dL_law_870 dL_law_872 dL_law_873 dL_law_874 ?_
  have hP := toMG hP
  have hD := toMGd hD
  refine b_calliP (S := Unit) (wc := MW bb cI cJ p cl a2 gw oA oD oE oP cR aR hR pr sq ab be nw tn th n) (wr := GW a cI cJ p nu de eq am nx oA oD oE oP cR aR hR cl ad gw pr n ++ [(o0, eJ cJ 1 (vp_updL ou 0 (tr (oE c) (hR c)).toInt64))]) (w' := fun u8 => MW bb cI cJ p cl a2 gw oA oD oE oP cR aR hR pr sq ab be nw tn 0 n) hP hD hS (hA_ ss) (va_runV (As := [.int (nI c)]) (rest := []) C.fix (c_X4_translatedEquity ll D bb cI cJ _ p cl a2 gw oA oD oE oP cR aR hR pr sq ab be nw tn th n c hc) (cwV 1 C.hts gL_law_X4_translatedEquity rfl rfl rfl (by decide +kernel) ⟨Nat.le_of_ble_eq_true rfl, Nat.le_of_ble_eq_true rfl⟩) ⟨PW.blind, va_recv hK hP (ci := 4) (q0 := 0) rfl rfl, PW.goP hP hK hD hE⟩ rfl rfl hl.1 rfl (lv_room (Nat.le_of_ble_eq_true rfl)) dL_law_875 ⟨(by show cells + 0 + 0 ≤ 1070; omega), (by show slots + 0 + 0 ≤ 8714; omega)⟩) (fun r8 u8 H locs hr8 hP hD hS => ?_)
  obtain rfl : r8 = trM (oE c) (hR c) := hr8
  refine lv_istore (lv' := [(6, .int (trM (oE c) (hR c))), (5, .int 0), (0, .ref b), (1, .ref (a 0)), (2, .ref (bb 0)), (3, .ref o0), (4, .int (nI i))]) hx hb dL_law_878 hl (by decide) rfl (fun ls hl => ?_)
  refine tl_i C hP rfl hS hl.1 (lv_at hl 4 rfl) (lv_at hl 5 rfl) (lv_at hl 1 rfl) (lv_at hl 0 rfl) ((if_pos rfl).trans (congrArg Int32.toInt64 hq)) rfl rfl (by decide) (by decide) (by decide) (by decide) dL_law_880 dL_law_881 dL_law_884 dL_law_886 dL_law_891 dL_law_893 dL_law_896 dL_law_897 dL_law_898 dL_law_899 dL_law_901 dL_law_902 dL_law_903 dL_law_908 ?_ ⟨(by omega), (by omega)⟩
  refine W.widen (k := cells + 1) (n := slots + 6) (by omega) (by omega) ?_
  exact kk _ _ _ (toMG hP) (toMGd hD) hS (lv_sub hl [2, 3, 4, 5, 6] rfl)
set_option maxHeartbeats 4000000 in
set_option maxRecDepth 100000 in
theorem kv_translatedEquity_bad (x0 : Int32) (hbad : ¬ inB x0 0 5 = true)  (v1 : xs (i + 1) = x0) (C : lwC pp ll ss mm mth cde b L xs D cI cJ) (hi : i + 5 < L) (hcs : cells + 1 ≤ 1070 ∧ slots + 6 ≤ 8714) (hP : va_P D vwCl (LW a bb o0 cI cJ p nu de eq am nx oA oD oE oP cR aR hR cl ad gw pr n ou p cl a2 gw oA oD oE oP cR aR hR pr sq ab be nw tn th n) H) (hD : va_D (lwA ss) (LW a bb o0 cI cJ p nu de eq am nx oA oD oE oP cR aR hR cl ad gw pr n ou p cl a2 gw oA oD oE oP cR aR hR pr sq ab be nw tn th n)) (hS : va_S (lwA ss) ss.heap H locs) (hl : lv_has ls 8 (LOC b a bb o0 i))
    (kk : ∀  (H : Heap) (locs : List Loc) (ls : Array Slot), va_P D vwCl (LW a bb o0 cI cJ p nu de eq am nx oA oD oE oP cR aR hR cl ad gw pr n ou p cl a2 gw oA oD oE oP cR aR hR pr sq ab be nw tn 1 n) H → va_D (lwA ss) (LW a bb o0 cI cJ p nu de eq am nx oA oD oE oP cR aR hR cl ad gw pr n ou p cl a2 gw oA oD oE oP cR aR hR pr sq ab be nw tn 1 n) → va_S (lwA ss) ss.heap H locs → lv_has ls 8 (LOC b a bb o0 i) → W pp ll ee room_1 ss mm #[Value.ref b] bel mth cde H locs (cells + 1) (slots + 6) Q (F0 mm 1472 ls [])) :
    W pp ll ee room_1 ss mm #[Value.ref b] bel mth cde H locs cells slots Q (F0 mm 855 ls []) := by
  have hx := C.hx
  have hb := C.hb
  have hK := C.hK
  have hE := C.hE
  refine lv_aload_n hx hb dL_law_855 rfl (lv_at hl 1 rfl) ?_
  refine ld_arg C hS (k := 1) (lv_at hl 0 rfl) (lv_at hl 4 rfl) (by omega) (by decide) v1 rfl dL_law_856 dL_law_857 dL_law_859 dL_law_860 dL_law_861 ?_
  refine lv_aload_n hx hb dL_law_862 rfl (lv_at hl 3 rfl) ?_
  refine b_calliP (S := Unit) (wc := GW a cI cJ p nu de eq am nx oA oD oE oP cR aR hR cl ad gw pr n ++ [(o0, eJ cJ 1 ou)]) (wr := MW bb cI cJ p cl a2 gw oA oD oE oP cR aR hR pr sq ab be nw tn th n) (w' := fun u => GW a cI cJ p nu de eq am nx oA oD oE oP cR aR hR cl ad gw pr n ++ [(o0, eJ cJ 1 (ou))]) hP hD hS (hA_ ss) (vx_runSW (As := [.ref (a 0), .int (x0), .ref o0]) (rest := []) C.fix (c_L_translatedEquity_bad ll C.hst D a cI cJ _ p nu de eq am nx oA oD oE oP cR aR hR cl ad gw pr n o0 ou x0 hbad) (vx_cwSW 3 C.hts gL_law_L_translatedEquity rfl rfl rfl (by decide +kernel) ⟨Nat.le_of_ble_eq_true rfl, Nat.le_of_ble_eq_true rfl⟩) ⟨PY.blind, PY.go hP hK hD hE C.hV C.hDC hS (hA_ ss)⟩ rfl rfl hl.1 rfl (lv_room (Nat.le_of_ble_eq_true rfl)) dL_law_863 ⟨(by show cells + 1 ≤ 1070; omega), (by show slots + 6 ≤ 8714; omega)⟩) (fun r9 u H locs hr9 hP hD hS => ?_)
  obtain rfl : r9 = 1 := hr9
  refine lv_istore (lv' := [(5, .int 1), (0, .ref b), (1, .ref (a 0)), (2, .ref (bb 0)), (3, .ref o0), (4, .int (nI i))]) hx hb dL_law_866 hl (by decide) rfl (fun ls hl => ?_)
  refine lv_aload_n hx hb dL_law_868 rfl (lv_at hl 3 rfl) ?_
  refine ld_arg C hS (k := 1) (lv_at hl 1 rfl) (lv_at hl 5 rfl) (by omega) (by decide) v1 rfl dL_law_869 dL_law_870 dL_law_872 dL_law_873 dL_law_874 ?_
  have hP := toMG hP
  have hD := toMGd hD
  refine b_calliP (S := Unit) (wc := MW bb cI cJ p cl a2 gw oA oD oE oP cR aR hR pr sq ab be nw tn th n) (wr := GW a cI cJ p nu de eq am nx oA oD oE oP cR aR hR cl ad gw pr n ++ [(o0, eJ cJ 1 (ou))]) (w' := fun u8 => MW bb cI cJ p cl a2 gw oA oD oE oP cR aR hR pr sq ab be nw tn 1 n) hP hD hS (hA_ ss) (va_runV (As := [.int (x0)]) (rest := []) C.fix (c_X4_translatedEquity_bad ll D bb cI cJ _ p cl a2 gw oA oD oE oP cR aR hR pr sq ab be nw tn th n x0 hbad) (cwV 1 C.hts gL_law_X4_translatedEquity rfl rfl rfl (by decide +kernel) ⟨Nat.le_of_ble_eq_true rfl, Nat.le_of_ble_eq_true rfl⟩) ⟨PW.blind, va_recv hK hP (ci := 4) (q0 := 0) rfl rfl, PW.goP hP hK hD hE⟩ rfl rfl hl.1 rfl (lv_room (Nat.le_of_ble_eq_true rfl)) dL_law_875 ⟨(by show cells + 1 + 0 ≤ 1070; omega), (by show slots + 6 + 0 ≤ 8714; omega)⟩) (fun r8 u8 H locs hr8 hP hD hS => ?_)
  obtain rfl : r8 = 0 := hr8
  refine lv_istore (lv' := [(6, .int (0)), (5, .int 1), (0, .ref b), (1, .ref (a 0)), (2, .ref (bb 0)), (3, .ref o0), (4, .int (nI i))]) hx hb dL_law_878 hl (by decide) rfl (fun ls hl => ?_)
  refine tl_x C hP hl.1 (by decide) (lv_at hl 4 rfl) (lv_at hl 1 rfl) rfl (tg := 908) (by decide) (by decide) (by decide) dL_law_880 dL_law_881 dL_law_884 dL_law_886 dL_law_891 dL_law_893 dL_law_908 ?_ ⟨(by omega), (by omega)⟩
  refine W.widen (k := cells + 1) (n := slots + 6) (by omega) (by omega) ?_
  exact kk _ _ _ (toMG hP) (toMGd hD) hS (lv_sub hl [2, 3, 4, 5, 6] rfl)
set_option maxHeartbeats 4000000 in
set_option maxRecDepth 100000 in
theorem kv_translatedResult (c : Nat) (hc : c < 6) (hq : tr (oP c) (aR c) = trM (oP c) (aR c)) (v1 : xs (i + 1) = nI c) (C : lwC pp ll ss mm mth cde b L xs D cI cJ) (hi : i + 5 < L) (hcs : cells + 1 ≤ 1070 ∧ slots + 6 ≤ 8714) (hP : va_P D vwCl (LW a bb o0 cI cJ p nu de eq am nx oA oD oE oP cR aR hR cl ad gw pr n ou p cl a2 gw oA oD oE oP cR aR hR pr sq ab be nw tn th n) H) (hD : va_D (lwA ss) (LW a bb o0 cI cJ p nu de eq am nx oA oD oE oP cR aR hR cl ad gw pr n ou p cl a2 gw oA oD oE oP cR aR hR pr sq ab be nw tn th n)) (hS : va_S (lwA ss) ss.heap H locs) (hl : lv_has ls 8 (LOC b a bb o0 i))
    (kk : ∀  (H : Heap) (locs : List Loc) (ls : Array Slot), va_P D vwCl (LW a bb o0 cI cJ p nu de eq am nx oA oD oE oP cR aR hR cl ad gw pr n (vp_updL ou 0 (tr (oP c) (aR c)).toInt64) p cl a2 gw oA oD oE oP cR aR hR pr sq ab be nw tn 0 n) H → va_D (lwA ss) (LW a bb o0 cI cJ p nu de eq am nx oA oD oE oP cR aR hR cl ad gw pr n (vp_updL ou 0 (tr (oP c) (aR c)).toInt64) p cl a2 gw oA oD oE oP cR aR hR pr sq ab be nw tn 0 n) → va_S (lwA ss) ss.heap H locs → lv_has ls 8 (LOC b a bb o0 i) → W pp ll ee room_1 ss mm #[Value.ref b] bel mth cde H locs (cells + 1) (slots + 6) Q (F0 mm 1472 ls [])) :
    W pp ll ee room_1 ss mm #[Value.ref b] bel mth cde H locs cells slots Q (F0 mm 911 ls []) := by
  have hx := C.hx
  have hb := C.hb
  have hK := C.hK
  have hE := C.hE
  refine lv_aload_n hx hb dL_law_911 rfl (lv_at hl 1 rfl) ?_
  refine ld_arg C hS (k := 1) (lv_at hl 0 rfl) (lv_at hl 4 rfl) (by omega) (by decide) v1 rfl dL_law_912 dL_law_913 dL_law_915 dL_law_916 dL_law_917 ?_
  refine lv_aload_n hx hb dL_law_918 rfl (lv_at hl 3 rfl) ?_
  refine b_calliP (S := Unit) (wc := GW a cI cJ p nu de eq am nx oA oD oE oP cR aR hR cl ad gw pr n ++ [(o0, eJ cJ 1 ou)]) (wr := MW bb cI cJ p cl a2 gw oA oD oE oP cR aR hR pr sq ab be nw tn th n) (w' := fun u => GW a cI cJ p nu de eq am nx oA oD oE oP cR aR hR cl ad gw pr n ++ [(o0, eJ cJ 1 (vp_updL ou 0 (tr (oP c) (aR c)).toInt64))]) hP hD hS (hA_ ss) (vx_runSW (As := [.ref (a 0), .int (nI c), .ref o0]) (rest := []) C.fix (c_L_translatedResult ll D a cI cJ _ p nu de eq am nx oA oD oE oP cR aR hR cl ad gw pr n o0 ou c hc) (vx_cwSW 3 C.hts gL_law_L_translatedResult rfl rfl rfl (by decide +kernel) ⟨Nat.le_of_ble_eq_true rfl, Nat.le_of_ble_eq_true rfl⟩) ⟨PY.blind, PY.go hP hK hD hE C.hV C.hDC hS (hA_ ss)⟩ rfl rfl hl.1 rfl (lv_room (Nat.le_of_ble_eq_true rfl)) dL_law_919 ⟨(by show cells + 0 ≤ 1070; omega), (by show slots + 0 ≤ 8714; omega)⟩) (fun r9 u H locs hr9 hP hD hS => ?_)
  obtain rfl : r9 = 0 := hr9
  refine lv_istore (lv' := [(5, .int 0), (0, .ref b), (1, .ref (a 0)), (2, .ref (bb 0)), (3, .ref o0), (4, .int (nI i))]) hx hb dL_law_922 hl (by decide) rfl (fun ls hl => ?_)
  refine lv_aload_n hx hb dL_law_924 rfl (lv_at hl 3 rfl) ?_
  refine ld_arg C hS (k := 1) (lv_at hl 1 rfl) (lv_at hl 5 rfl) (by omega) (by decide) v1 rfl dL_law_925 dL_law_926 dL_law_928 dL_law_929 dL_law_930 ?_
  have hP := toMG hP
  have hD := toMGd hD
  refine b_calliP (S := Unit) (wc := MW bb cI cJ p cl a2 gw oA oD oE oP cR aR hR pr sq ab be nw tn th n) (wr := GW a cI cJ p nu de eq am nx oA oD oE oP cR aR hR cl ad gw pr n ++ [(o0, eJ cJ 1 (vp_updL ou 0 (tr (oP c) (aR c)).toInt64))]) (w' := fun u8 => MW bb cI cJ p cl a2 gw oA oD oE oP cR aR hR pr sq ab be nw tn 0 n) hP hD hS (hA_ ss) (va_runV (As := [.int (nI c)]) (rest := []) C.fix (c_X4_translatedResult ll D bb cI cJ _ p cl a2 gw oA oD oE oP cR aR hR pr sq ab be nw tn th n c hc) (cwV 1 C.hts gL_law_X4_translatedResult rfl rfl rfl (by decide +kernel) ⟨Nat.le_of_ble_eq_true rfl, Nat.le_of_ble_eq_true rfl⟩) ⟨PW.blind, va_recv hK hP (ci := 4) (q0 := 0) rfl rfl, PW.goP hP hK hD hE⟩ rfl rfl hl.1 rfl (lv_room (Nat.le_of_ble_eq_true rfl)) dL_law_931 ⟨(by show cells + 0 + 0 ≤ 1070; omega), (by show slots + 0 + 0 ≤ 8714; omega)⟩) (fun r8 u8 H locs hr8 hP hD hS => ?_)
  obtain rfl : r8 = trM (oP c) (aR c) := hr8
  refine lv_istore (lv' := [(6, .int (trM (oP c) (aR c))), (5, .int 0), (0, .ref b), (1, .ref (a 0)), (2, .ref (bb 0)), (3, .ref o0), (4, .int (nI i))]) hx hb dL_law_934 hl (by decide) rfl (fun ls hl => ?_)
  refine tl_i C hP rfl hS hl.1 (lv_at hl 4 rfl) (lv_at hl 5 rfl) (lv_at hl 1 rfl) (lv_at hl 0 rfl) ((if_pos rfl).trans (congrArg Int32.toInt64 hq)) rfl rfl (by decide) (by decide) (by decide) (by decide) dL_law_936 dL_law_937 dL_law_940 dL_law_942 dL_law_947 dL_law_949 dL_law_952 dL_law_953 dL_law_954 dL_law_955 dL_law_957 dL_law_958 dL_law_959 dL_law_964 ?_ ⟨(by omega), (by omega)⟩
  refine W.widen (k := cells + 1) (n := slots + 6) (by omega) (by omega) ?_
  exact kk _ _ _ (toMG hP) (toMGd hD) hS (lv_sub hl [2, 3, 4, 5, 6] rfl)
set_option maxHeartbeats 4000000 in
set_option maxRecDepth 100000 in
theorem kv_translatedResult_bad (x0 : Int32) (hbad : ¬ inB x0 0 5 = true)  (v1 : xs (i + 1) = x0) (C : lwC pp ll ss mm mth cde b L xs D cI cJ) (hi : i + 5 < L) (hcs : cells + 1 ≤ 1070 ∧ slots + 6 ≤ 8714) (hP : va_P D vwCl (LW a bb o0 cI cJ p nu de eq am nx oA oD oE oP cR aR hR cl ad gw pr n ou p cl a2 gw oA oD oE oP cR aR hR pr sq ab be nw tn th n) H) (hD : va_D (lwA ss) (LW a bb o0 cI cJ p nu de eq am nx oA oD oE oP cR aR hR cl ad gw pr n ou p cl a2 gw oA oD oE oP cR aR hR pr sq ab be nw tn th n)) (hS : va_S (lwA ss) ss.heap H locs) (hl : lv_has ls 8 (LOC b a bb o0 i))
    (kk : ∀  (H : Heap) (locs : List Loc) (ls : Array Slot), va_P D vwCl (LW a bb o0 cI cJ p nu de eq am nx oA oD oE oP cR aR hR cl ad gw pr n ou p cl a2 gw oA oD oE oP cR aR hR pr sq ab be nw tn 1 n) H → va_D (lwA ss) (LW a bb o0 cI cJ p nu de eq am nx oA oD oE oP cR aR hR cl ad gw pr n ou p cl a2 gw oA oD oE oP cR aR hR pr sq ab be nw tn 1 n) → va_S (lwA ss) ss.heap H locs → lv_has ls 8 (LOC b a bb o0 i) → W pp ll ee room_1 ss mm #[Value.ref b] bel mth cde H locs (cells + 1) (slots + 6) Q (F0 mm 1472 ls [])) :
    W pp ll ee room_1 ss mm #[Value.ref b] bel mth cde H locs cells slots Q (F0 mm 911 ls []) := by
  have hx := C.hx
  have hb := C.hb
  have hK := C.hK
  have hE := C.hE
  refine lv_aload_n hx hb dL_law_911 rfl (lv_at hl 1 rfl) ?_
  refine ld_arg C hS (k := 1) (lv_at hl 0 rfl) (lv_at hl 4 rfl) (by omega) (by decide) v1 rfl dL_law_912 dL_law_913 dL_law_915 dL_law_916 dL_law_917 ?_
  refine lv_aload_n hx hb dL_law_918 rfl (lv_at hl 3 rfl) ?_
  refine b_calliP (S := Unit) (wc := GW a cI cJ p nu de eq am nx oA oD oE oP cR aR hR cl ad gw pr n ++ [(o0, eJ cJ 1 ou)]) (wr := MW bb cI cJ p cl a2 gw oA oD oE oP cR aR hR pr sq ab be nw tn th n) (w' := fun u => GW a cI cJ p nu de eq am nx oA oD oE oP cR aR hR cl ad gw pr n ++ [(o0, eJ cJ 1 (ou))]) hP hD hS (hA_ ss) (vx_runSW (As := [.ref (a 0), .int (x0), .ref o0]) (rest := []) C.fix (c_L_translatedResult_bad ll C.hst D a cI cJ _ p nu de eq am nx oA oD oE oP cR aR hR cl ad gw pr n o0 ou x0 hbad) (vx_cwSW 3 C.hts gL_law_L_translatedResult rfl rfl rfl (by decide +kernel) ⟨Nat.le_of_ble_eq_true rfl, Nat.le_of_ble_eq_true rfl⟩) ⟨PY.blind, PY.go hP hK hD hE C.hV C.hDC hS (hA_ ss)⟩ rfl rfl hl.1 rfl (lv_room (Nat.le_of_ble_eq_true rfl)) dL_law_919 ⟨(by show cells + 1 ≤ 1070; omega), (by show slots + 6 ≤ 8714; omega)⟩) (fun r9 u H locs hr9 hP hD hS => ?_)
  obtain rfl : r9 = 1 := hr9
  refine lv_istore (lv' := [(5, .int 1), (0, .ref b), (1, .ref (a 0)), (2, .ref (bb 0)), (3, .ref o0), (4, .int (nI i))]) hx hb dL_law_922 hl (by decide) rfl (fun ls hl => ?_)
  refine lv_aload_n hx hb dL_law_924 rfl (lv_at hl 3 rfl) ?_
  refine ld_arg C hS (k := 1) (lv_at hl 1 rfl) (lv_at hl 5 rfl) (by omega) (by decide) v1 rfl dL_law_925 dL_law_926 dL_law_928 dL_law_929 dL_law_930 ?_
  have hP := toMG hP
  have hD := toMGd hD
  refine b_calliP (S := Unit) (wc := MW bb cI cJ p cl a2 gw oA oD oE oP cR aR hR pr sq ab be nw tn th n) (wr := GW a cI cJ p nu de eq am nx oA oD oE oP cR aR hR cl ad gw pr n ++ [(o0, eJ cJ 1 (ou))]) (w' := fun u8 => MW bb cI cJ p cl a2 gw oA oD oE oP cR aR hR pr sq ab be nw tn 1 n) hP hD hS (hA_ ss) (va_runV (As := [.int (x0)]) (rest := []) C.fix (c_X4_translatedResult_bad ll D bb cI cJ _ p cl a2 gw oA oD oE oP cR aR hR pr sq ab be nw tn th n x0 hbad) (cwV 1 C.hts gL_law_X4_translatedResult rfl rfl rfl (by decide +kernel) ⟨Nat.le_of_ble_eq_true rfl, Nat.le_of_ble_eq_true rfl⟩) ⟨PW.blind, va_recv hK hP (ci := 4) (q0 := 0) rfl rfl, PW.goP hP hK hD hE⟩ rfl rfl hl.1 rfl (lv_room (Nat.le_of_ble_eq_true rfl)) dL_law_931 ⟨(by show cells + 1 + 0 ≤ 1070; omega), (by show slots + 6 + 0 ≤ 8714; omega)⟩) (fun r8 u8 H locs hr8 hP hD hS => ?_)
  obtain rfl : r8 = 0 := hr8
  refine lv_istore (lv' := [(6, .int (0)), (5, .int 1), (0, .ref b), (1, .ref (a 0)), (2, .ref (bb 0)), (3, .ref o0), (4, .int (nI i))]) hx hb dL_law_934 hl (by decide) rfl (fun ls hl => ?_)
  refine tl_x C hP hl.1 (by decide) (lv_at hl 4 rfl) (lv_at hl 1 rfl) rfl (tg := 964) (by decide) (by decide) (by decide) dL_law_936 dL_law_937 dL_law_940 dL_law_942 dL_law_947 dL_law_949 dL_law_964 ?_ ⟨(by omega), (by omega)⟩
  refine W.widen (k := cells + 1) (n := slots + 6) (by omega) (by omega) ?_
  exact kk _ _ _ (toMG hP) (toMGd hD) hS (lv_sub hl [2, 3, 4, 5, 6] rfl)
set_option maxHeartbeats 4000000 in
set_option maxRecDepth 100000 in
theorem kv_reserve (c : Nat) (hc : c < 6) (hq : tr (oA c) (cR c) - tr (oD c) (cR c) - tr (oE c) (hR c) - tr (oP c) (aR c) = ntM oA oD cR c - trM (oE c) (hR c) - trM (oP c) (aR c)) (v1 : xs (i + 1) = nI c) (C : lwC pp ll ss mm mth cde b L xs D cI cJ) (hi : i + 5 < L) (hcs : cells + 1 ≤ 1070 ∧ slots + 6 ≤ 8714) (hP : va_P D vwCl (LW a bb o0 cI cJ p nu de eq am nx oA oD oE oP cR aR hR cl ad gw pr n ou p cl a2 gw oA oD oE oP cR aR hR pr sq ab be nw tn th n) H) (hD : va_D (lwA ss) (LW a bb o0 cI cJ p nu de eq am nx oA oD oE oP cR aR hR cl ad gw pr n ou p cl a2 gw oA oD oE oP cR aR hR pr sq ab be nw tn th n)) (hS : va_S (lwA ss) ss.heap H locs) (hl : lv_has ls 8 (LOC b a bb o0 i))
    (kk : ∀  (H : Heap) (locs : List Loc) (ls : Array Slot), va_P D vwCl (LW a bb o0 cI cJ p nu de eq am nx oA oD oE oP cR aR hR cl ad gw pr n (vp_updL ou 0 (tr (oA c) (cR c) - tr (oD c) (cR c) - tr (oE c) (hR c) - tr (oP c) (aR c)).toInt64) p cl a2 gw oA oD oE oP cR aR hR pr sq ab be nw tn 0 n) H → va_D (lwA ss) (LW a bb o0 cI cJ p nu de eq am nx oA oD oE oP cR aR hR cl ad gw pr n (vp_updL ou 0 (tr (oA c) (cR c) - tr (oD c) (cR c) - tr (oE c) (hR c) - tr (oP c) (aR c)).toInt64) p cl a2 gw oA oD oE oP cR aR hR pr sq ab be nw tn 0 n) → va_S (lwA ss) ss.heap H locs → lv_has ls 8 (LOC b a bb o0 i) → W pp ll ee room_1 ss mm #[Value.ref b] bel mth cde H locs (cells + 1) (slots + 6) Q (F0 mm 1472 ls [])) :
    W pp ll ee room_1 ss mm #[Value.ref b] bel mth cde H locs cells slots Q (F0 mm 967 ls []) := by
  have hx := C.hx
  have hb := C.hb
  have hK := C.hK
  have hE := C.hE
  refine lv_aload_n hx hb dL_law_967 rfl (lv_at hl 1 rfl) ?_
  refine ld_arg C hS (k := 1) (lv_at hl 0 rfl) (lv_at hl 4 rfl) (by omega) (by decide) v1 rfl dL_law_968 dL_law_969 dL_law_971 dL_law_972 dL_law_973 ?_
  refine lv_aload_n hx hb dL_law_974 rfl (lv_at hl 3 rfl) ?_
  refine b_calliP (S := Unit) (wc := GW a cI cJ p nu de eq am nx oA oD oE oP cR aR hR cl ad gw pr n ++ [(o0, eJ cJ 1 ou)]) (wr := MW bb cI cJ p cl a2 gw oA oD oE oP cR aR hR pr sq ab be nw tn th n) (w' := fun u => GW a cI cJ p nu de eq am nx oA oD oE oP cR aR hR cl ad gw pr n ++ [(o0, eJ cJ 1 (vp_updL ou 0 (tr (oA c) (cR c) - tr (oD c) (cR c) - tr (oE c) (hR c) - tr (oP c) (aR c)).toInt64))]) hP hD hS (hA_ ss) (vx_runSW (As := [.ref (a 0), .int (nI c), .ref o0]) (rest := []) C.fix (c_L_reserve ll D a cI cJ _ p nu de eq am nx oA oD oE oP cR aR hR cl ad gw pr n o0 ou c hc) (vx_cwSW 3 C.hts gL_law_L_reserve rfl rfl rfl (by decide +kernel) ⟨Nat.le_of_ble_eq_true rfl, Nat.le_of_ble_eq_true rfl⟩) ⟨PY.blind, PY.go hP hK hD hE C.hV C.hDC hS (hA_ ss)⟩ rfl rfl hl.1 rfl (lv_room (Nat.le_of_ble_eq_true rfl)) dL_law_975 ⟨(by show cells + 0 ≤ 1070; omega), (by show slots + 0 ≤ 8714; omega)⟩) (fun r9 u H locs hr9 hP hD hS => ?_)
  obtain rfl : r9 = 0 := hr9
  refine lv_istore (lv' := [(5, .int 0), (0, .ref b), (1, .ref (a 0)), (2, .ref (bb 0)), (3, .ref o0), (4, .int (nI i))]) hx hb dL_law_978 hl (by decide) rfl (fun ls hl => ?_)
  refine lv_aload_n hx hb dL_law_980 rfl (lv_at hl 3 rfl) ?_
  refine ld_arg C hS (k := 1) (lv_at hl 1 rfl) (lv_at hl 5 rfl) (by omega) (by decide) v1 rfl dL_law_981 dL_law_982 dL_law_984 dL_law_985 dL_law_986 ?_
  have hP := toMG hP
  have hD := toMGd hD
  refine b_calliP (S := Unit) (wc := MW bb cI cJ p cl a2 gw oA oD oE oP cR aR hR pr sq ab be nw tn th n) (wr := GW a cI cJ p nu de eq am nx oA oD oE oP cR aR hR cl ad gw pr n ++ [(o0, eJ cJ 1 (vp_updL ou 0 (tr (oA c) (cR c) - tr (oD c) (cR c) - tr (oE c) (hR c) - tr (oP c) (aR c)).toInt64))]) (w' := fun u8 => MW bb cI cJ p cl a2 gw oA oD oE oP cR aR hR pr sq ab be nw tn 0 n) hP hD hS (hA_ ss) (va_runV (As := [.int (nI c)]) (rest := []) C.fix (c_X4_reserve ll D bb cI cJ _ p cl a2 gw oA oD oE oP cR aR hR pr sq ab be nw tn th n c hc) (cwV 1 C.hts gL_law_X4_reserve rfl rfl rfl (by decide +kernel) ⟨Nat.le_of_ble_eq_true rfl, Nat.le_of_ble_eq_true rfl⟩) ⟨PW.blind, va_recv hK hP (ci := 4) (q0 := 0) rfl rfl, PW.goP hP hK hD hE⟩ rfl rfl hl.1 rfl (lv_room (Nat.le_of_ble_eq_true rfl)) dL_law_987 ⟨(by show cells + 0 + 0 ≤ 1070; omega), (by show slots + 0 + 0 ≤ 8714; omega)⟩) (fun r8 u8 H locs hr8 hP hD hS => ?_)
  obtain rfl : r8 = ntM oA oD cR c - trM (oE c) (hR c) - trM (oP c) (aR c) := hr8
  refine lv_istore (lv' := [(6, .int (ntM oA oD cR c - trM (oE c) (hR c) - trM (oP c) (aR c))), (5, .int 0), (0, .ref b), (1, .ref (a 0)), (2, .ref (bb 0)), (3, .ref o0), (4, .int (nI i))]) hx hb dL_law_990 hl (by decide) rfl (fun ls hl => ?_)
  refine tl_i C hP rfl hS hl.1 (lv_at hl 4 rfl) (lv_at hl 5 rfl) (lv_at hl 1 rfl) (lv_at hl 0 rfl) ((if_pos rfl).trans (congrArg Int32.toInt64 hq)) rfl rfl (by decide) (by decide) (by decide) (by decide) dL_law_992 dL_law_993 dL_law_996 dL_law_998 dL_law_1003 dL_law_1005 dL_law_1008 dL_law_1009 dL_law_1010 dL_law_1011 dL_law_1013 dL_law_1014 dL_law_1015 dL_law_1020 ?_ ⟨(by omega), (by omega)⟩
  refine W.widen (k := cells + 1) (n := slots + 6) (by omega) (by omega) ?_
  exact kk _ _ _ (toMG hP) (toMGd hD) hS (lv_sub hl [2, 3, 4, 5, 6] rfl)
set_option maxHeartbeats 4000000 in
set_option maxRecDepth 100000 in
theorem kv_reserve_bad (x0 : Int32) (hbad : ¬ inB x0 0 5 = true)  (v1 : xs (i + 1) = x0) (C : lwC pp ll ss mm mth cde b L xs D cI cJ) (hi : i + 5 < L) (hcs : cells + 1 ≤ 1070 ∧ slots + 6 ≤ 8714) (hP : va_P D vwCl (LW a bb o0 cI cJ p nu de eq am nx oA oD oE oP cR aR hR cl ad gw pr n ou p cl a2 gw oA oD oE oP cR aR hR pr sq ab be nw tn th n) H) (hD : va_D (lwA ss) (LW a bb o0 cI cJ p nu de eq am nx oA oD oE oP cR aR hR cl ad gw pr n ou p cl a2 gw oA oD oE oP cR aR hR pr sq ab be nw tn th n)) (hS : va_S (lwA ss) ss.heap H locs) (hl : lv_has ls 8 (LOC b a bb o0 i))
    (kk : ∀  (H : Heap) (locs : List Loc) (ls : Array Slot), va_P D vwCl (LW a bb o0 cI cJ p nu de eq am nx oA oD oE oP cR aR hR cl ad gw pr n ou p cl a2 gw oA oD oE oP cR aR hR pr sq ab be nw tn 1 n) H → va_D (lwA ss) (LW a bb o0 cI cJ p nu de eq am nx oA oD oE oP cR aR hR cl ad gw pr n ou p cl a2 gw oA oD oE oP cR aR hR pr sq ab be nw tn 1 n) → va_S (lwA ss) ss.heap H locs → lv_has ls 8 (LOC b a bb o0 i) → W pp ll ee room_1 ss mm #[Value.ref b] bel mth cde H locs (cells + 1) (slots + 6) Q (F0 mm 1472 ls [])) :
    W pp ll ee room_1 ss mm #[Value.ref b] bel mth cde H locs cells slots Q (F0 mm 967 ls []) := by
  have hx := C.hx
  have hb := C.hb
  have hK := C.hK
  have hE := C.hE
  refine lv_aload_n hx hb dL_law_967 rfl (lv_at hl 1 rfl) ?_
  refine ld_arg C hS (k := 1) (lv_at hl 0 rfl) (lv_at hl 4 rfl) (by omega) (by decide) v1 rfl dL_law_968 dL_law_969 dL_law_971 dL_law_972 dL_law_973 ?_
  refine lv_aload_n hx hb dL_law_974 rfl (lv_at hl 3 rfl) ?_
  refine b_calliP (S := Unit) (wc := GW a cI cJ p nu de eq am nx oA oD oE oP cR aR hR cl ad gw pr n ++ [(o0, eJ cJ 1 ou)]) (wr := MW bb cI cJ p cl a2 gw oA oD oE oP cR aR hR pr sq ab be nw tn th n) (w' := fun u => GW a cI cJ p nu de eq am nx oA oD oE oP cR aR hR cl ad gw pr n ++ [(o0, eJ cJ 1 (ou))]) hP hD hS (hA_ ss) (vx_runSW (As := [.ref (a 0), .int (x0), .ref o0]) (rest := []) C.fix (c_L_reserve_bad ll C.hst D a cI cJ _ p nu de eq am nx oA oD oE oP cR aR hR cl ad gw pr n o0 ou x0 hbad) (vx_cwSW 3 C.hts gL_law_L_reserve rfl rfl rfl (by decide +kernel) ⟨Nat.le_of_ble_eq_true rfl, Nat.le_of_ble_eq_true rfl⟩) ⟨PY.blind, PY.go hP hK hD hE C.hV C.hDC hS (hA_ ss)⟩ rfl rfl hl.1 rfl (lv_room (Nat.le_of_ble_eq_true rfl)) dL_law_975 ⟨(by show cells + 1 ≤ 1070; omega), (by show slots + 6 ≤ 8714; omega)⟩) (fun r9 u H locs hr9 hP hD hS => ?_)
  obtain rfl : r9 = 1 := hr9
  refine lv_istore (lv' := [(5, .int 1), (0, .ref b), (1, .ref (a 0)), (2, .ref (bb 0)), (3, .ref o0), (4, .int (nI i))]) hx hb dL_law_978 hl (by decide) rfl (fun ls hl => ?_)
  refine lv_aload_n hx hb dL_law_980 rfl (lv_at hl 3 rfl) ?_
  refine ld_arg C hS (k := 1) (lv_at hl 1 rfl) (lv_at hl 5 rfl) (by omega) (by decide) v1 rfl dL_law_981 dL_law_982 dL_law_984 dL_law_985 dL_law_986 ?_
  have hP := toMG hP
  have hD := toMGd hD
  refine b_calliP (S := Unit) (wc := MW bb cI cJ p cl a2 gw oA oD oE oP cR aR hR pr sq ab be nw tn th n) (wr := GW a cI cJ p nu de eq am nx oA oD oE oP cR aR hR cl ad gw pr n ++ [(o0, eJ cJ 1 (ou))]) (w' := fun u8 => MW bb cI cJ p cl a2 gw oA oD oE oP cR aR hR pr sq ab be nw tn 1 n) hP hD hS (hA_ ss) (va_runV (As := [.int (x0)]) (rest := []) C.fix (c_X4_reserve_bad ll D bb cI cJ _ p cl a2 gw oA oD oE oP cR aR hR pr sq ab be nw tn th n x0 hbad) (cwV 1 C.hts gL_law_X4_reserve rfl rfl rfl (by decide +kernel) ⟨Nat.le_of_ble_eq_true rfl, Nat.le_of_ble_eq_true rfl⟩) ⟨PW.blind, va_recv hK hP (ci := 4) (q0 := 0) rfl rfl, PW.goP hP hK hD hE⟩ rfl rfl hl.1 rfl (lv_room (Nat.le_of_ble_eq_true rfl)) dL_law_987 ⟨(by show cells + 1 + 0 ≤ 1070; omega), (by show slots + 6 + 0 ≤ 8714; omega)⟩) (fun r8 u8 H locs hr8 hP hD hS => ?_)
  obtain rfl : r8 = 0 := hr8
  refine lv_istore (lv' := [(6, .int (0)), (5, .int 1), (0, .ref b), (1, .ref (a 0)), (2, .ref (bb 0)), (3, .ref o0), (4, .int (nI i))]) hx hb dL_law_990 hl (by decide) rfl (fun ls hl => ?_)
  refine tl_x C hP hl.1 (by decide) (lv_at hl 4 rfl) (lv_at hl 1 rfl) rfl (tg := 1020) (by decide) (by decide) (by decide) dL_law_992 dL_law_993 dL_law_996 dL_law_998 dL_law_1003 dL_law_1005 dL_law_1020 ?_ ⟨(by omega), (by omega)⟩
  refine W.widen (k := cells + 1) (n := slots + 6) (by omega) (by omega) ?_
  exact kk _ _ _ (toMG hP) (toMGd hD) hS (lv_sub hl [2, 3, 4, 5, 6] rfl)
end KV
