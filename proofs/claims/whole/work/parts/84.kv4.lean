section KV
variable {pp : Program} {ll : Launch} {ee : Env} {ss : State} {mm : MethodId} {bel : List Frame} {mth : Method} {cde : Code} {H : Heap} {locs : List Loc} {cells slots : Nat} {Q : State → Prop} {ls : Array Slot}
variable {b L i : Nat} {xs : Nat → Int32} {D : va_G} {cI cJ : ClassId} {a bb : Nat → Nat} {o0 : Nat}
variable {p : Nat → Int32} {nu de eq : Nat → Int64} {am nx oA oD oE oP cR aR hR cl ad gw pr a2 : Nat → Int32} {n : Int32} {ou sq ab be : Nat → Int64} {nw tn : Nat → Int32} {th : Int32}

set_option maxHeartbeats 4000000 in
set_option maxRecDepth 100000 in
theorem kv_group (hq : nI (mem p 5) = nI (grp p)) (C : lwC pp ll ss mm mth cde b L xs D cI cJ) (hcs : cells + 1 ≤ 1070 ∧ slots + 6 ≤ 8714) (hP : va_P D vwCl (LW a bb o0 cI cJ p nu de eq am nx oA oD oE oP cR aR hR cl ad gw pr n ou p cl a2 gw oA oD oE oP cR aR hR pr sq ab be nw tn th n) H) (hD : va_D (lwA ss) (LW a bb o0 cI cJ p nu de eq am nx oA oD oE oP cR aR hR cl ad gw pr n ou p cl a2 gw oA oD oE oP cR aR hR pr sq ab be nw tn th n)) (hS : va_S (lwA ss) ss.heap H locs) (hl : lv_has ls 8 (LOC b a bb o0 i))
    (kk : ∀ (H : Heap) (locs : List Loc) (ls : Array Slot), va_P D vwCl (LW a bb o0 cI cJ p nu de eq am nx oA oD oE oP cR aR hR cl ad gw pr n ou p cl a2 gw oA oD oE oP cR aR hR pr sq ab be nw tn 0 n) H → va_D (lwA ss) (LW a bb o0 cI cJ p nu de eq am nx oA oD oE oP cR aR hR cl ad gw pr n ou p cl a2 gw oA oD oE oP cR aR hR pr sq ab be nw tn 0 n) → va_S (lwA ss) ss.heap H locs → lv_has ls 8 (LOC b a bb o0 i) → W pp ll ee room_1 ss mm #[Value.ref b] bel mth cde H locs (cells + 1) (slots + 6) Q (F0 mm 1472 ls [])) :
    W pp ll ee room_1 ss mm #[Value.ref b] bel mth cde H locs cells slots Q (F0 mm 574 ls []) := by
  have hx := C.hx
  have hb := C.hb
  have hK := C.hK
  have hE := C.hE
  refine lv_aload_n hx hb dL_law_574 rfl (lv_at hl 1 rfl) ?_
  have hPg : va_P D vwCl (GW a cI cJ p nu de eq am nx oA oD oE oP cR aR hR cl ad gw pr n ++ ([(o0, eJ cJ 1 ou)] ++ MW bb cI cJ p cl a2 gw oA oD oE oP cR aR hR pr sq ab be nw tn th n)) H := hP
  refine b_csi (v := nI (mem p 5)) (W.runV (As := []) (rest := []) C.fix (c_X3_group ll D a cI cJ p nu de eq am nx oA oD oE oP cR aR hR cl ad gw pr n) (cwV 0 C.hts gL_law_X3_group rfl rfl rfl (by decide +kernel) ⟨Nat.le_of_ble_eq_true rfl, Nat.le_of_ble_eq_true rfl⟩) ⟨PR.blind, va_recv hK hP (ci := 3) (q0 := 0) rfl rfl, PR.goP hPg hK hE⟩ rfl rfl hl.1 rfl (lv_room (Nat.le_of_ble_eq_true rfl)) dL_law_575 ⟨(by show cells + 0 ≤ 1070; omega), (by show slots + 0 ≤ 8714; omega)⟩) ?_
  refine lv_aload_n hx hb dL_law_578 rfl (lv_at hl 2 rfl) ?_
  have hP := toMG hP
  have hD := toMGd hD
  refine b_calliP (S := Unit) (wc := MW bb cI cJ p cl a2 gw oA oD oE oP cR aR hR pr sq ab be nw tn th n) (wr := GW a cI cJ p nu de eq am nx oA oD oE oP cR aR hR cl ad gw pr n ++ [(o0, eJ cJ 1 ou)]) (w' := fun u8 => MW bb cI cJ p cl a2 gw oA oD oE oP cR aR hR pr sq ab be nw tn 0 n) hP hD hS (hA_ ss) (va_runV (As := []) (rest := [.int (nI (mem p 5))]) C.fix (c_X4_group ll D bb cI cJ _ p cl a2 gw oA oD oE oP cR aR hR pr sq ab be nw tn th n ) (cwV 0 C.hts gL_law_X4_group rfl rfl rfl (by decide +kernel) ⟨Nat.le_of_ble_eq_true rfl, Nat.le_of_ble_eq_true rfl⟩) ⟨PW.blind, va_recv hK hP (ci := 4) (q0 := 0) rfl rfl, PW.goP hP hK hD hE⟩ rfl rfl hl.1 rfl (lv_room (Nat.le_of_ble_eq_true rfl)) dL_law_579 ⟨(by show cells + 0 ≤ 1070; omega), (by show slots + 0 ≤ 8714; omega)⟩) (fun r8 u8 H locs hr8 hP hD hS => ?_)
  obtain rfl : r8 = nI (grp p) := hr8
  refine lv_icmp_eq (tgt := 1472) hx hb dL_law_582 (by decide) (fun _ => ?_) (fun h => absurd hq h)
  refine W.widen (k := cells + 1) (n := slots + 6) (by omega) (by omega) ?_
  exact kk _ _ _ (toMG hP) (toMGd hD) hS hl
set_option maxHeartbeats 4000000 in
set_option maxRecDepth 100000 in
theorem kv_eliminated (hq : agO cl ad (mem p 5) 6 = elS cl a2 (grp p) 36) (C : lwC pp ll ss mm mth cde b L xs D cI cJ) (hcs : cells + 1 ≤ 1070 ∧ slots + 6 ≤ 8714) (hP : va_P D vwCl (LW a bb o0 cI cJ p nu de eq am nx oA oD oE oP cR aR hR cl ad gw pr n ou p cl a2 gw oA oD oE oP cR aR hR pr sq ab be nw tn th n) H) (hD : va_D (lwA ss) (LW a bb o0 cI cJ p nu de eq am nx oA oD oE oP cR aR hR cl ad gw pr n ou p cl a2 gw oA oD oE oP cR aR hR pr sq ab be nw tn th n)) (hS : va_S (lwA ss) ss.heap H locs) (hl : lv_has ls 8 (LOC b a bb o0 i))
    (kk : ∀ (H : Heap) (locs : List Loc) (ls : Array Slot), va_P D vwCl (LW a bb o0 cI cJ p nu de eq am nx oA oD oE oP cR aR hR cl ad gw pr n ou p cl a2 gw oA oD oE oP cR aR hR pr sq ab be nw tn 0 n) H → va_D (lwA ss) (LW a bb o0 cI cJ p nu de eq am nx oA oD oE oP cR aR hR cl ad gw pr n ou p cl a2 gw oA oD oE oP cR aR hR pr sq ab be nw tn 0 n) → va_S (lwA ss) ss.heap H locs → lv_has ls 8 (LOC b a bb o0 i) → W pp ll ee room_1 ss mm #[Value.ref b] bel mth cde H locs (cells + 1) (slots + 6) Q (F0 mm 1472 ls [])) :
    W pp ll ee room_1 ss mm #[Value.ref b] bel mth cde H locs cells slots Q (F0 mm 1251 ls []) := by
  have hx := C.hx
  have hb := C.hb
  have hK := C.hK
  have hE := C.hE
  refine lv_aload_n hx hb dL_law_1251 rfl (lv_at hl 1 rfl) ?_
  have hPg : va_P D vwCl (GW a cI cJ p nu de eq am nx oA oD oE oP cR aR hR cl ad gw pr n ++ ([(o0, eJ cJ 1 ou)] ++ MW bb cI cJ p cl a2 gw oA oD oE oP cR aR hR pr sq ab be nw tn th n)) H := hP
  refine b_csi (v := agO cl ad (mem p 5) 6) (W.runV (As := []) (rest := []) C.fix (c_X3_eliminated ll D a cI cJ p nu de eq am nx oA oD oE oP cR aR hR cl ad gw pr n) (cwV 0 C.hts gL_law_X3_eliminated rfl rfl rfl (by decide +kernel) ⟨Nat.le_of_ble_eq_true rfl, Nat.le_of_ble_eq_true rfl⟩) ⟨PR.blind, va_recv hK hP (ci := 3) (q0 := 0) rfl rfl, PR.goP hPg hK hE⟩ rfl rfl hl.1 rfl (lv_room (Nat.le_of_ble_eq_true rfl)) dL_law_1252 ⟨(by show cells + 0 ≤ 1070; omega), (by show slots + 0 ≤ 8714; omega)⟩) ?_
  refine lv_aload_n hx hb dL_law_1255 rfl (lv_at hl 2 rfl) ?_
  have hP := toMG hP
  have hD := toMGd hD
  refine b_calliP (S := Unit) (wc := MW bb cI cJ p cl a2 gw oA oD oE oP cR aR hR pr sq ab be nw tn th n) (wr := GW a cI cJ p nu de eq am nx oA oD oE oP cR aR hR cl ad gw pr n ++ [(o0, eJ cJ 1 ou)]) (w' := fun u8 => MW bb cI cJ p cl a2 gw oA oD oE oP cR aR hR pr sq ab be nw tn 0 n) hP hD hS (hA_ ss) (va_runV (As := []) (rest := [.int (agO cl ad (mem p 5) 6)]) C.fix (c_X4_eliminated ll D bb cI cJ _ p cl a2 gw oA oD oE oP cR aR hR pr sq ab be nw tn th n ) (cwV 0 C.hts gL_law_X4_eliminated rfl rfl rfl (by decide +kernel) ⟨Nat.le_of_ble_eq_true rfl, Nat.le_of_ble_eq_true rfl⟩) ⟨PW.blind, va_recv hK hP (ci := 4) (q0 := 0) rfl rfl, PW.goP hP hK hD hE⟩ rfl rfl hl.1 rfl (lv_room (Nat.le_of_ble_eq_true rfl)) dL_law_1256 ⟨(by show cells + 0 ≤ 1070; omega), (by show slots + 0 ≤ 8714; omega)⟩) (fun r8 u8 H locs hr8 hP hD hS => ?_)
  obtain rfl : r8 = elS cl a2 (grp p) 36 := hr8
  refine lv_icmp_eq (tgt := 1472) hx hb dL_law_1259 (by decide) (fun _ => ?_) (fun h => absurd hq h)
  refine W.widen (k := cells + 1) (n := slots + 6) (by omega) (by omega) ?_
  exact kk _ _ _ (toMG hP) (toMGd hD) hS hl
set_option maxHeartbeats 4000000 in
set_option maxRecDepth 100000 in
theorem kv_assets (hq : caS oA cR (mem p 5) 6 - agO cl ad (mem p 5) 6 = asS oA cR (grp p) 6 - elS cl a2 (grp p) 36) (C : lwC pp ll ss mm mth cde b L xs D cI cJ) (hcs : cells + 1 ≤ 1070 ∧ slots + 6 ≤ 8714) (hP : va_P D vwCl (LW a bb o0 cI cJ p nu de eq am nx oA oD oE oP cR aR hR cl ad gw pr n ou p cl a2 gw oA oD oE oP cR aR hR pr sq ab be nw tn th n) H) (hD : va_D (lwA ss) (LW a bb o0 cI cJ p nu de eq am nx oA oD oE oP cR aR hR cl ad gw pr n ou p cl a2 gw oA oD oE oP cR aR hR pr sq ab be nw tn th n)) (hS : va_S (lwA ss) ss.heap H locs) (hl : lv_has ls 8 (LOC b a bb o0 i))
    (kk : ∀ (H : Heap) (locs : List Loc) (ls : Array Slot), va_P D vwCl (LW a bb o0 cI cJ p nu de eq am nx oA oD oE oP cR aR hR cl ad gw pr n ou p cl a2 gw oA oD oE oP cR aR hR pr sq ab be nw tn 0 n) H → va_D (lwA ss) (LW a bb o0 cI cJ p nu de eq am nx oA oD oE oP cR aR hR cl ad gw pr n ou p cl a2 gw oA oD oE oP cR aR hR pr sq ab be nw tn 0 n) → va_S (lwA ss) ss.heap H locs → lv_has ls 8 (LOC b a bb o0 i) → W pp ll ee room_1 ss mm #[Value.ref b] bel mth cde H locs (cells + 1) (slots + 6) Q (F0 mm 1472 ls [])) :
    W pp ll ee room_1 ss mm #[Value.ref b] bel mth cde H locs cells slots Q (F0 mm 1264 ls []) := by
  have hx := C.hx
  have hb := C.hb
  have hK := C.hK
  have hE := C.hE
  refine lv_aload_n hx hb dL_law_1264 rfl (lv_at hl 1 rfl) ?_
  have hPg : va_P D vwCl (GW a cI cJ p nu de eq am nx oA oD oE oP cR aR hR cl ad gw pr n ++ ([(o0, eJ cJ 1 ou)] ++ MW bb cI cJ p cl a2 gw oA oD oE oP cR aR hR pr sq ab be nw tn th n)) H := hP
  refine b_csi (v := caS oA cR (mem p 5) 6 - agO cl ad (mem p 5) 6) (W.runV (As := []) (rest := []) C.fix (c_X3_assets ll D a cI cJ p nu de eq am nx oA oD oE oP cR aR hR cl ad gw pr n) (cwV 0 C.hts gL_law_X3_assets rfl rfl rfl (by decide +kernel) ⟨Nat.le_of_ble_eq_true rfl, Nat.le_of_ble_eq_true rfl⟩) ⟨PR.blind, va_recv hK hP (ci := 3) (q0 := 0) rfl rfl, PR.goP hPg hK hE⟩ rfl rfl hl.1 rfl (lv_room (Nat.le_of_ble_eq_true rfl)) dL_law_1265 ⟨(by show cells + 0 ≤ 1070; omega), (by show slots + 0 ≤ 8714; omega)⟩) ?_
  refine lv_aload_n hx hb dL_law_1268 rfl (lv_at hl 2 rfl) ?_
  have hP := toMG hP
  have hD := toMGd hD
  refine b_calliP (S := Unit) (wc := MW bb cI cJ p cl a2 gw oA oD oE oP cR aR hR pr sq ab be nw tn th n) (wr := GW a cI cJ p nu de eq am nx oA oD oE oP cR aR hR cl ad gw pr n ++ [(o0, eJ cJ 1 ou)]) (w' := fun u8 => MW bb cI cJ p cl a2 gw oA oD oE oP cR aR hR pr sq ab be nw tn 0 n) hP hD hS (hA_ ss) (va_runV (As := []) (rest := [.int (caS oA cR (mem p 5) 6 - agO cl ad (mem p 5) 6)]) C.fix (c_X4_assets ll D bb cI cJ _ p cl a2 gw oA oD oE oP cR aR hR pr sq ab be nw tn th n ) (cwV 0 C.hts gL_law_X4_assets rfl rfl rfl (by decide +kernel) ⟨Nat.le_of_ble_eq_true rfl, Nat.le_of_ble_eq_true rfl⟩) ⟨PW.blind, va_recv hK hP (ci := 4) (q0 := 0) rfl rfl, PW.goP hP hK hD hE⟩ rfl rfl hl.1 rfl (lv_room (Nat.le_of_ble_eq_true rfl)) dL_law_1269 ⟨(by show cells + 0 ≤ 1070; omega), (by show slots + 0 ≤ 8714; omega)⟩) (fun r8 u8 H locs hr8 hP hD hS => ?_)
  obtain rfl : r8 = asS oA cR (grp p) 6 - elS cl a2 (grp p) 36 := hr8
  refine lv_icmp_eq (tgt := 1472) hx hb dL_law_1272 (by decide) (fun _ => ?_) (fun h => absurd hq h)
  refine W.widen (k := cells + 1) (n := slots + 6) (by omega) (by omega) ?_
  exact kk _ _ _ (toMG hP) (toMGd hD) hS hl
set_option maxHeartbeats 4000000 in
set_option maxRecDepth 100000 in
theorem kv_debts (hq : caS oD cR (mem p 5) 6 - agO cl ad (mem p 5) 6 = asS oD cR (grp p) 6 - elS cl a2 (grp p) 36) (C : lwC pp ll ss mm mth cde b L xs D cI cJ) (hcs : cells + 1 ≤ 1070 ∧ slots + 6 ≤ 8714) (hP : va_P D vwCl (LW a bb o0 cI cJ p nu de eq am nx oA oD oE oP cR aR hR cl ad gw pr n ou p cl a2 gw oA oD oE oP cR aR hR pr sq ab be nw tn th n) H) (hD : va_D (lwA ss) (LW a bb o0 cI cJ p nu de eq am nx oA oD oE oP cR aR hR cl ad gw pr n ou p cl a2 gw oA oD oE oP cR aR hR pr sq ab be nw tn th n)) (hS : va_S (lwA ss) ss.heap H locs) (hl : lv_has ls 8 (LOC b a bb o0 i))
    (kk : ∀ (H : Heap) (locs : List Loc) (ls : Array Slot), va_P D vwCl (LW a bb o0 cI cJ p nu de eq am nx oA oD oE oP cR aR hR cl ad gw pr n ou p cl a2 gw oA oD oE oP cR aR hR pr sq ab be nw tn 0 n) H → va_D (lwA ss) (LW a bb o0 cI cJ p nu de eq am nx oA oD oE oP cR aR hR cl ad gw pr n ou p cl a2 gw oA oD oE oP cR aR hR pr sq ab be nw tn 0 n) → va_S (lwA ss) ss.heap H locs → lv_has ls 8 (LOC b a bb o0 i) → W pp ll ee room_1 ss mm #[Value.ref b] bel mth cde H locs (cells + 1) (slots + 6) Q (F0 mm 1472 ls [])) :
    W pp ll ee room_1 ss mm #[Value.ref b] bel mth cde H locs cells slots Q (F0 mm 1277 ls []) := by
  have hx := C.hx
  have hb := C.hb
  have hK := C.hK
  have hE := C.hE
  refine lv_aload_n hx hb dL_law_1277 rfl (lv_at hl 1 rfl) ?_
  have hPg : va_P D vwCl (GW a cI cJ p nu de eq am nx oA oD oE oP cR aR hR cl ad gw pr n ++ ([(o0, eJ cJ 1 ou)] ++ MW bb cI cJ p cl a2 gw oA oD oE oP cR aR hR pr sq ab be nw tn th n)) H := hP
  refine b_csi (v := caS oD cR (mem p 5) 6 - agO cl ad (mem p 5) 6) (W.runV (As := []) (rest := []) C.fix (c_X3_debts ll D a cI cJ p nu de eq am nx oA oD oE oP cR aR hR cl ad gw pr n) (cwV 0 C.hts gL_law_X3_debts rfl rfl rfl (by decide +kernel) ⟨Nat.le_of_ble_eq_true rfl, Nat.le_of_ble_eq_true rfl⟩) ⟨PR.blind, va_recv hK hP (ci := 3) (q0 := 0) rfl rfl, PR.goP hPg hK hE⟩ rfl rfl hl.1 rfl (lv_room (Nat.le_of_ble_eq_true rfl)) dL_law_1278 ⟨(by show cells + 0 ≤ 1070; omega), (by show slots + 0 ≤ 8714; omega)⟩) ?_
  refine lv_aload_n hx hb dL_law_1281 rfl (lv_at hl 2 rfl) ?_
  have hP := toMG hP
  have hD := toMGd hD
  refine b_calliP (S := Unit) (wc := MW bb cI cJ p cl a2 gw oA oD oE oP cR aR hR pr sq ab be nw tn th n) (wr := GW a cI cJ p nu de eq am nx oA oD oE oP cR aR hR cl ad gw pr n ++ [(o0, eJ cJ 1 ou)]) (w' := fun u8 => MW bb cI cJ p cl a2 gw oA oD oE oP cR aR hR pr sq ab be nw tn 0 n) hP hD hS (hA_ ss) (va_runV (As := []) (rest := [.int (caS oD cR (mem p 5) 6 - agO cl ad (mem p 5) 6)]) C.fix (c_X4_debts ll D bb cI cJ _ p cl a2 gw oA oD oE oP cR aR hR pr sq ab be nw tn th n ) (cwV 0 C.hts gL_law_X4_debts rfl rfl rfl (by decide +kernel) ⟨Nat.le_of_ble_eq_true rfl, Nat.le_of_ble_eq_true rfl⟩) ⟨PW.blind, va_recv hK hP (ci := 4) (q0 := 0) rfl rfl, PW.goP hP hK hD hE⟩ rfl rfl hl.1 rfl (lv_room (Nat.le_of_ble_eq_true rfl)) dL_law_1282 ⟨(by show cells + 0 ≤ 1070; omega), (by show slots + 0 ≤ 8714; omega)⟩) (fun r8 u8 H locs hr8 hP hD hS => ?_)
  obtain rfl : r8 = asS oD cR (grp p) 6 - elS cl a2 (grp p) 36 := hr8
  refine lv_icmp_eq (tgt := 1472) hx hb dL_law_1285 (by decide) (fun _ => ?_) (fun h => absurd hq h)
  refine W.widen (k := cells + 1) (n := slots + 6) (by omega) (by omega) ?_
  exact kk _ _ _ (toMG hP) (toMGd hD) hS hl
set_option maxHeartbeats 4000000 in
set_option maxRecDepth 100000 in
theorem kv_equity (hB : okB p) (hW : ¬ dW p 0 = 0) (hq : caS oA cR (mem p 5) 6 - agO cl ad (mem p 5) 6 - (caS oD cR (mem p 5) 6 - agO cl ad (mem p 5) 6) - cmS oA oD cR nu de (mem p 5) 6 = emS oA oD cR (aF p) (bF p) (grp p) (asS oA cR (grp p) 6 - elS cl a2 (grp p) 36 - (asS oD cR (grp p) 6 - elS cl a2 (grp p) 36)) 6) (C : lwC pp ll ss mm mth cde b L xs D cI cJ) (hcs : cells + 1 ≤ 1070 ∧ slots + 6 ≤ 8714) (hP : va_P D vwCl (LW a bb o0 cI cJ p nu de eq am nx oA oD oE oP cR aR hR cl ad gw pr n ou p cl a2 gw oA oD oE oP cR aR hR pr sq ab be nw tn th n) H) (hD : va_D (lwA ss) (LW a bb o0 cI cJ p nu de eq am nx oA oD oE oP cR aR hR cl ad gw pr n ou p cl a2 gw oA oD oE oP cR aR hR pr sq ab be nw tn th n)) (hS : va_S (lwA ss) ss.heap H locs) (hl : lv_has ls 8 (LOC b a bb o0 i))
    (kk : ∀ (u8 : (Nat → Int64) × (Nat → Int64) × (Nat → Int64)) (H : Heap) (locs : List Loc) (ls : Array Slot), va_P D vwCl (LW a bb o0 cI cJ p nu de eq am nx oA oD oE oP cR aR hR cl ad gw pr n ou p cl a2 gw oA oD oE oP cR aR hR pr (u8.1) (u8.2.1) (u8.2.2) nw tn 0 n) H → va_D (lwA ss) (LW a bb o0 cI cJ p nu de eq am nx oA oD oE oP cR aR hR cl ad gw pr n ou p cl a2 gw oA oD oE oP cR aR hR pr (u8.1) (u8.2.1) (u8.2.2) nw tn 0 n) → va_S (lwA ss) ss.heap H locs → lv_has ls 8 (LOC b a bb o0 i) → W pp ll ee room_1 ss mm #[Value.ref b] bel mth cde H locs (cells + 1) (slots + 6) Q (F0 mm 1472 ls [])) :
    W pp ll ee room_1 ss mm #[Value.ref b] bel mth cde H locs cells slots Q (F0 mm 1346 ls []) := by
  have hx := C.hx
  have hb := C.hb
  have hK := C.hK
  have hE := C.hE
  refine lv_aload_n hx hb dL_law_1346 rfl (lv_at hl 1 rfl) ?_
  have hPg : va_P D vwCl (GW a cI cJ p nu de eq am nx oA oD oE oP cR aR hR cl ad gw pr n ++ ([(o0, eJ cJ 1 ou)] ++ MW bb cI cJ p cl a2 gw oA oD oE oP cR aR hR pr sq ab be nw tn th n)) H := hP
  refine b_csi (v := caS oA cR (mem p 5) 6 - agO cl ad (mem p 5) 6 - (caS oD cR (mem p 5) 6 - agO cl ad (mem p 5) 6) - cmS oA oD cR nu de (mem p 5) 6) (W.runV (As := []) (rest := []) C.fix (c_X3_equity ll D a cI cJ p nu de eq am nx oA oD oE oP cR aR hR cl ad gw pr n) (cwV 0 C.hts gL_law_X3_equity rfl rfl rfl (by decide +kernel) ⟨Nat.le_of_ble_eq_true rfl, Nat.le_of_ble_eq_true rfl⟩) ⟨PR.blind, va_recv hK hP (ci := 3) (q0 := 0) rfl rfl, PR.goP hPg hK hE⟩ rfl rfl hl.1 rfl (lv_room (Nat.le_of_ble_eq_true rfl)) dL_law_1347 ⟨(by show cells + 0 ≤ 1070; omega), (by show slots + 0 ≤ 8714; omega)⟩) ?_
  refine lv_aload_n hx hb dL_law_1350 rfl (lv_at hl 2 rfl) ?_
  have hP := toMG hP
  have hD := toMGd hD
  refine b_calliP (S := (Nat → Int64) × (Nat → Int64) × (Nat → Int64)) (wc := MW bb cI cJ p cl a2 gw oA oD oE oP cR aR hR pr sq ab be nw tn th n) (wr := GW a cI cJ p nu de eq am nx oA oD oE oP cR aR hR cl ad gw pr n ++ [(o0, eJ cJ 1 ou)]) (w' := fun u8 => MW bb cI cJ p cl a2 gw oA oD oE oP cR aR hR pr (u8.1) (u8.2.1) (u8.2.2) nw tn 0 n) hP hD hS (hA_ ss) (va_runV (As := []) (rest := [.int (caS oA cR (mem p 5) 6 - agO cl ad (mem p 5) 6 - (caS oD cR (mem p 5) 6 - agO cl ad (mem p 5) 6) - cmS oA oD cR nu de (mem p 5) 6)]) C.fix (c_X4_equity ll D bb cI cJ _ p cl a2 gw oA oD oE oP cR aR hR pr sq ab be nw tn th n hB hW) (cwV 0 C.hts gL_law_X4_equity rfl rfl rfl (by decide +kernel) ⟨Nat.le_of_ble_eq_true rfl, Nat.le_of_ble_eq_true rfl⟩) ⟨PW.blind, va_recv hK hP (ci := 4) (q0 := 0) rfl rfl, PW.goP hP hK hD hE⟩ rfl rfl hl.1 rfl (lv_room (Nat.le_of_ble_eq_true rfl)) dL_law_1351 ⟨(by show cells + 0 ≤ 1070; omega), (by show slots + 0 ≤ 8714; omega)⟩) (fun r8 u8 H locs hr8 hP hD hS => ?_)
  obtain rfl : r8 = emS oA oD cR (aF p) (bF p) (grp p) (asS oA cR (grp p) 6 - elS cl a2 (grp p) 36 - (asS oD cR (grp p) 6 - elS cl a2 (grp p) 36)) 6 := hr8
  refine lv_icmp_eq (tgt := 1472) hx hb dL_law_1354 (by decide) (fun _ => ?_) (fun h => absurd hq h)
  refine W.widen (k := cells + 1) (n := slots + 6) (by omega) (by omega) ?_
  exact kk u8 _ _ _ (toMG hP) (toMGd hD) hS hl
set_option maxHeartbeats 4000000 in
set_option maxRecDepth 100000 in
theorem kv_result (hB : okB p) (hW : ¬ dW p 0 = 0) (hq : crS oP aR nu de (mem p 5) 6 = reS oP aR (aF p) (bF p) (grp p) 6) (C : lwC pp ll ss mm mth cde b L xs D cI cJ) (hcs : cells + 1 ≤ 1070 ∧ slots + 6 ≤ 8714) (hP : va_P D vwCl (LW a bb o0 cI cJ p nu de eq am nx oA oD oE oP cR aR hR cl ad gw pr n ou p cl a2 gw oA oD oE oP cR aR hR pr sq ab be nw tn th n) H) (hD : va_D (lwA ss) (LW a bb o0 cI cJ p nu de eq am nx oA oD oE oP cR aR hR cl ad gw pr n ou p cl a2 gw oA oD oE oP cR aR hR pr sq ab be nw tn th n)) (hS : va_S (lwA ss) ss.heap H locs) (hl : lv_has ls 8 (LOC b a bb o0 i))
    (kk : ∀ (u8 : (Nat → Int64) × (Nat → Int64) × (Nat → Int64)) (H : Heap) (locs : List Loc) (ls : Array Slot), va_P D vwCl (LW a bb o0 cI cJ p nu de eq am nx oA oD oE oP cR aR hR cl ad gw pr n ou p cl a2 gw oA oD oE oP cR aR hR pr (u8.1) (u8.2.1) (u8.2.2) nw tn 0 n) H → va_D (lwA ss) (LW a bb o0 cI cJ p nu de eq am nx oA oD oE oP cR aR hR cl ad gw pr n ou p cl a2 gw oA oD oE oP cR aR hR pr (u8.1) (u8.2.1) (u8.2.2) nw tn 0 n) → va_S (lwA ss) ss.heap H locs → lv_has ls 8 (LOC b a bb o0 i) → W pp ll ee room_1 ss mm #[Value.ref b] bel mth cde H locs (cells + 1) (slots + 6) Q (F0 mm 1472 ls [])) :
    W pp ll ee room_1 ss mm #[Value.ref b] bel mth cde H locs cells slots Q (F0 mm 1359 ls []) := by
  have hx := C.hx
  have hb := C.hb
  have hK := C.hK
  have hE := C.hE
  refine lv_aload_n hx hb dL_law_1359 rfl (lv_at hl 1 rfl) ?_
  have hPg : va_P D vwCl (GW a cI cJ p nu de eq am nx oA oD oE oP cR aR hR cl ad gw pr n ++ ([(o0, eJ cJ 1 ou)] ++ MW bb cI cJ p cl a2 gw oA oD oE oP cR aR hR pr sq ab be nw tn th n)) H := hP
  refine b_csi (v := crS oP aR nu de (mem p 5) 6) (W.runV (As := []) (rest := []) C.fix (c_X3_result ll D a cI cJ p nu de eq am nx oA oD oE oP cR aR hR cl ad gw pr n) (cwV 0 C.hts gL_law_X3_result rfl rfl rfl (by decide +kernel) ⟨Nat.le_of_ble_eq_true rfl, Nat.le_of_ble_eq_true rfl⟩) ⟨PR.blind, va_recv hK hP (ci := 3) (q0 := 0) rfl rfl, PR.goP hPg hK hE⟩ rfl rfl hl.1 rfl (lv_room (Nat.le_of_ble_eq_true rfl)) dL_law_1360 ⟨(by show cells + 0 ≤ 1070; omega), (by show slots + 0 ≤ 8714; omega)⟩) ?_
  refine lv_aload_n hx hb dL_law_1363 rfl (lv_at hl 2 rfl) ?_
  have hP := toMG hP
  have hD := toMGd hD
  refine b_calliP (S := (Nat → Int64) × (Nat → Int64) × (Nat → Int64)) (wc := MW bb cI cJ p cl a2 gw oA oD oE oP cR aR hR pr sq ab be nw tn th n) (wr := GW a cI cJ p nu de eq am nx oA oD oE oP cR aR hR cl ad gw pr n ++ [(o0, eJ cJ 1 ou)]) (w' := fun u8 => MW bb cI cJ p cl a2 gw oA oD oE oP cR aR hR pr (u8.1) (u8.2.1) (u8.2.2) nw tn 0 n) hP hD hS (hA_ ss) (va_runV (As := []) (rest := [.int (crS oP aR nu de (mem p 5) 6)]) C.fix (c_X4_result ll D bb cI cJ _ p cl a2 gw oA oD oE oP cR aR hR pr sq ab be nw tn th n hB hW) (cwV 0 C.hts gL_law_X4_result rfl rfl rfl (by decide +kernel) ⟨Nat.le_of_ble_eq_true rfl, Nat.le_of_ble_eq_true rfl⟩) ⟨PW.blind, va_recv hK hP (ci := 4) (q0 := 0) rfl rfl, PW.goP hP hK hD hE⟩ rfl rfl hl.1 rfl (lv_room (Nat.le_of_ble_eq_true rfl)) dL_law_1364 ⟨(by show cells + 0 ≤ 1070; omega), (by show slots + 0 ≤ 8714; omega)⟩) (fun r8 u8 H locs hr8 hP hD hS => ?_)
  obtain rfl : r8 = reS oP aR (aF p) (bF p) (grp p) 6 := hr8
  refine lv_icmp_eq (tgt := 1472) hx hb dL_law_1367 (by decide) (fun _ => ?_) (fun h => absurd hq h)
  refine W.widen (k := cells + 1) (n := slots + 6) (by omega) (by omega) ?_
  exact kk u8 _ _ _ (toMG hP) (toMGd hD) hS hl
end KV
