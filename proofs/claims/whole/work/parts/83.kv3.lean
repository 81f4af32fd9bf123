section KV
variable {pp : Program} {ll : Launch} {ee : Env} {ss : State} {mm : MethodId} {bel : List Frame} {mth : Method} {cde : Code} {H : Heap} {locs : List Loc} {cells slots : Nat} {Q : State → Prop} {ls : Array Slot}
variable {b L i : Nat} {xs : Nat → Int32} {D : va_G} {cI cJ : ClassId} {a bb : Nat → Nat} {o0 : Nat}
variable {p : Nat → Int32} {nu de eq : Nat → Int64} {am nx oA oD oE oP cR aR hR cl ad gw pr a2 : Nat → Int32} {n : Int32} {ou sq ab be : Nat → Int64} {nw tn : Nat → Int32} {th : Int32}

set_option maxHeartbeats 4000000 in
set_option maxRecDepth 100000 in
theorem kv_claim (o c : Nat) (x : Int32) (ho : o < 6) (hc : c < 6) (hpr : prB (nI o) (nI c) = true) (hqx : inB x 0 1000000 = true)  (v1 : xs (i + 1) = nI o) (v2 : xs (i + 2) = nI c) (v3 : xs (i + 3) = x) (C : lwC pp ll ss mm mth cde b L xs D cI cJ) (hi : i + 5 < L) (hcs : cells + 1 ≤ 1070 ∧ slots + 6 ≤ 8714) (hP : va_P D vwCl (LW a bb o0 cI cJ p nu de eq am nx oA oD oE oP cR aR hR cl ad gw pr n ou p cl a2 gw oA oD oE oP cR aR hR pr sq ab be nw tn th n) H) (hD : va_D (lwA ss) (LW a bb o0 cI cJ p nu de eq am nx oA oD oE oP cR aR hR cl ad gw pr n ou p cl a2 gw oA oD oE oP cR aR hR pr sq ab be nw tn th n)) (hS : va_S (lwA ss) ss.heap H locs) (hl : lv_has ls 8 (LOC b a bb o0 i))
    (kk : ∀  (H : Heap) (locs : List Loc) (ls : Array Slot), va_P D vwCl (LW a bb o0 cI cJ p nu de eq am nx oA oD oE oP cR aR hR (upd cl (6 * o + c) x) ad gw pr n (vp_updL ou 0 (cl (6 * o + c)).toInt64) p (upd cl (6 * o + c) x) a2 gw oA oD oE oP cR aR hR pr sq ab be nw tn 0 n) H → va_D (lwA ss) (LW a bb o0 cI cJ p nu de eq am nx oA oD oE oP cR aR hR (upd cl (6 * o + c) x) ad gw pr n (vp_updL ou 0 (cl (6 * o + c)).toInt64) p (upd cl (6 * o + c) x) a2 gw oA oD oE oP cR aR hR pr sq ab be nw tn 0 n) → va_S (lwA ss) ss.heap H locs → lv_has ls 8 (LOC b a bb o0 i) → W pp ll ee room_1 ss mm #[Value.ref b] bel mth cde H locs (cells + 1) (slots + 6) Q (F0 mm 1472 ls [])) :
    W pp ll ee room_1 ss mm #[Value.ref b] bel mth cde H locs cells slots Q (F0 mm 1023 ls []) := by
  have hx := C.hx
  have hb := C.hb
  have hK := C.hK
  have hE := C.hE
  refine lv_aload_n hx hb dL_law_1023 rfl (lv_at hl 1 rfl) ?_
  refine ld_arg C hS (k := 1) (lv_at hl 0 rfl) (lv_at hl 4 rfl) (by omega) (by decide) v1 rfl dL_law_1024 dL_law_1025 dL_law_1027 dL_law_1028 dL_law_1029 ?_
  refine ld_arg C hS (k := 2) (lv_at hl 0 rfl) (lv_at hl 4 rfl) (by omega) (by decide) v2 rfl dL_law_1030 dL_law_1031 dL_law_1033 dL_law_1034 dL_law_1035 ?_
  refine ld_arg C hS (k := 3) (lv_at hl 0 rfl) (lv_at hl 4 rfl) (by omega) (by decide) v3 rfl dL_law_1036 dL_law_1037 dL_law_1039 dL_law_1040 dL_law_1041 ?_
  refine lv_aload_n hx hb dL_law_1042 rfl (lv_at hl 3 rfl) ?_
  refine b_calliP (S := Unit) (wc := GW a cI cJ p nu de eq am nx oA oD oE oP cR aR hR cl ad gw pr n ++ [(o0, eJ cJ 1 ou)]) (wr := MW bb cI cJ p cl a2 gw oA oD oE oP cR aR hR pr sq ab be nw tn th n) (w' := fun u => GW a cI cJ p nu de eq am nx oA oD oE oP cR aR hR (upd cl (6 * o + c) x) ad gw pr n ++ [(o0, eJ cJ 1 (vp_updL ou 0 (cl (6 * o + c)).toInt64))]) hP hD hS (hA_ ss) (vx_runSW (As := [.ref (a 0), .int (nI o), .int (nI c), .int (x), .ref o0]) (rest := []) C.fix (c_L_claim ll D a cI cJ _ p nu de eq am nx oA oD oE oP cR aR hR cl ad gw pr n o0 ou o c x ho hc hpr hqx) (vx_cwSW 5 C.hts gL_law_L_claim rfl rfl rfl (by decide +kernel) ⟨Nat.le_of_ble_eq_true rfl, Nat.le_of_ble_eq_true rfl⟩) ⟨PY.blind, PY.go hP hK hD hE C.hV C.hDC hS (hA_ ss)⟩ rfl rfl hl.1 rfl (lv_room (Nat.le_of_ble_eq_true rfl)) dL_law_1043 ⟨(by show cells + 0 ≤ 1070; omega), (by show slots + 0 ≤ 8714; omega)⟩) (fun r9 u H locs hr9 hP hD hS => ?_)
  obtain rfl : r9 = 0 := hr9
  refine lv_istore (lv' := [(5, .int 0), (0, .ref b), (1, .ref (a 0)), (2, .ref (bb 0)), (3, .ref o0), (4, .int (nI i))]) hx hb dL_law_1046 hl (by decide) rfl (fun ls hl => ?_)
  refine lv_aload_n hx hb dL_law_1048 rfl (lv_at hl 3 rfl) ?_
  refine ld_arg C hS (k := 1) (lv_at hl 1 rfl) (lv_at hl 5 rfl) (by omega) (by decide) v1 rfl dL_law_1049 dL_law_1050 dL_law_1052 dL_law_1053 dL_law_1054 ?_
  refine ld_arg C hS (k := 2) (lv_at hl 1 rfl) (lv_at hl 5 rfl) (by omega) (by decide) v2 rfl dL_law_1055 dL_law_1056 dL_law_1058 dL_law_1059 dL_law_1060 ?_
  refine ld_arg C hS (k := 3) (lv_at hl 1 rfl) (lv_at hl 5 rfl) (by omega) (by decide) v3 rfl dL_law_1061 dL_law_1062 dL_law_1064 dL_law_1065 dL_law_1066 ?_
  have hP := toMG hP
  have hD := toMGd hD
  refine b_calliP (S := Unit) (wc := MW bb cI cJ p cl a2 gw oA oD oE oP cR aR hR pr sq ab be nw tn th n) (wr := GW a cI cJ p nu de eq am nx oA oD oE oP cR aR hR (upd cl (6 * o + c) x) ad gw pr n ++ [(o0, eJ cJ 1 (vp_updL ou 0 (cl (6 * o + c)).toInt64))]) (w' := fun u8 => MW bb cI cJ p (upd cl (6 * o + c) x) a2 gw oA oD oE oP cR aR hR pr sq ab be nw tn 0 n) hP hD hS (hA_ ss) (va_runV (As := [.int (nI o), .int (nI c), .int (x)]) (rest := []) C.fix (c_X4_claim ll D bb cI cJ _ p cl a2 gw oA oD oE oP cR aR hR pr sq ab be nw tn th n o c x ho hc hpr hqx) (cwV 3 C.hts gL_law_X4_claim rfl rfl rfl (by decide +kernel) ⟨Nat.le_of_ble_eq_true rfl, Nat.le_of_ble_eq_true rfl⟩) ⟨PW.blind, va_recv hK hP (ci := 4) (q0 := 0) rfl rfl, PW.goP hP hK hD hE⟩ rfl rfl hl.1 rfl (lv_room (Nat.le_of_ble_eq_true rfl)) dL_law_1067 ⟨(by show cells + 0 + 0 ≤ 1070; omega), (by show slots + 0 + 0 ≤ 8714; omega)⟩) (fun r8 u8 H locs hr8 hP hD hS => ?_)
  obtain rfl : r8 = cl (6 * o + c) := hr8
  refine lv_istore (lv' := [(6, .int (cl (6 * o + c))), (5, .int 0), (0, .ref b), (1, .ref (a 0)), (2, .ref (bb 0)), (3, .ref o0), (4, .int (nI i))]) hx hb dL_law_1070 hl (by decide) rfl (fun ls hl => ?_)
  refine tl_i C hP rfl hS hl.1 (lv_at hl 4 rfl) (lv_at hl 5 rfl) (lv_at hl 1 rfl) (lv_at hl 0 rfl) (if_pos rfl) rfl rfl (by decide) (by decide) (by decide) (by decide) dL_law_1072 dL_law_1073 dL_law_1076 dL_law_1078 dL_law_1083 dL_law_1085 dL_law_1088 dL_law_1089 dL_law_1090 dL_law_1091 dL_law_1093 dL_law_1094 dL_law_1095 dL_law_1100 ?_ ⟨(by omega), (by omega)⟩
  refine W.widen (k := cells + 1) (n := slots + 6) (by omega) (by omega) ?_
  exact kk _ _ _ (toMG hP) (toMGd hD) hS (lv_sub hl [2, 3, 4, 5, 6] rfl)
set_option maxHeartbeats 4000000 in
set_option maxRecDepth 100000 in
theorem kv_claim_bad (x0 x1 x : Int32) (hbad : ¬ (prB x0 x1 = true ∧ inB x 0 1000000 = true))  (v1 : xs (i + 1) = x0) (v2 : xs (i + 2) = x1) (v3 : xs (i + 3) = x) (C : lwC pp ll ss mm mth cde b L xs D cI cJ) (hi : i + 5 < L) (hcs : cells + 1 ≤ 1070 ∧ slots + 6 ≤ 8714) (hP : va_P D vwCl (LW a bb o0 cI cJ p nu de eq am nx oA oD oE oP cR aR hR cl ad gw pr n ou p cl a2 gw oA oD oE oP cR aR hR pr sq ab be nw tn th n) H) (hD : va_D (lwA ss) (LW a bb o0 cI cJ p nu de eq am nx oA oD oE oP cR aR hR cl ad gw pr n ou p cl a2 gw oA oD oE oP cR aR hR pr sq ab be nw tn th n)) (hS : va_S (lwA ss) ss.heap H locs) (hl : lv_has ls 8 (LOC b a bb o0 i))
    (kk : ∀  (H : Heap) (locs : List Loc) (ls : Array Slot), va_P D vwCl (LW a bb o0 cI cJ p nu de eq am nx oA oD oE oP cR aR hR cl ad gw pr n ou p cl a2 gw oA oD oE oP cR aR hR pr sq ab be nw tn 1 n) H → va_D (lwA ss) (LW a bb o0 cI cJ p nu de eq am nx oA oD oE oP cR aR hR cl ad gw pr n ou p cl a2 gw oA oD oE oP cR aR hR pr sq ab be nw tn 1 n) → va_S (lwA ss) ss.heap H locs → lv_has ls 8 (LOC b a bb o0 i) → W pp ll ee room_1 ss mm #[Value.ref b] bel mth cde H locs (cells + 1) (slots + 6) Q (F0 mm 1472 ls [])) :
    W pp ll ee room_1 ss mm #[Value.ref b] bel mth cde H locs cells slots Q (F0 mm 1023 ls []) := by
  have hx := C.hx
  have hb := C.hb
  have hK := C.hK
  have hE := C.hE
  refine lv_aload_n hx hb dL_law_1023 rfl (lv_at hl 1 rfl) ?_
  refine ld_arg C hS (k := 1) (lv_at hl 0 rfl) (lv_at hl 4 rfl) (by omega) (by decide) v1 rfl dL_law_1024 dL_law_1025 dL_law_1027 dL_law_1028 dL_law_1029 ?_
  refine ld_arg C hS (k := 2) (lv_at hl 0 rfl) (lv_at hl 4 rfl) (by omega) (by decide) v2 rfl dL_law_1030 dL_law_1031 dL_law_1033 dL_law_1034 dL_law_1035 ?_
  refine ld_arg C hS (k := 3) (lv_at hl 0 rfl) (lv_at hl 4 rfl) (by omega) (by decide) v3 rfl dL_law_1036 dL_law_1037 dL_law_1039 dL_law_1040 dL_law_1041 ?_
  refine lv_aload_n hx hb dL_law_1042 rfl (lv_at hl 3 rfl) ?_
  refine b_calliP (S := Unit) (wc := GW a cI cJ p nu de eq am nx oA oD oE oP cR aR hR cl ad gw pr n ++ [(o0, eJ cJ 1 ou)]) (wr := MW bb cI cJ p cl a2 gw oA oD oE oP cR aR hR pr sq ab be nw tn th n) (w' := fun u => GW a cI cJ p nu de eq am nx oA oD oE oP cR aR hR cl ad gw pr n ++ [(o0, eJ cJ 1 (ou))]) hP hD hS (hA_ ss) (vx_runSW (As := [.ref (a 0), .int (x0), .int (x1), .int (x), .ref o0]) (rest := []) C.fix (c_L_claim_bad ll C.hst D a cI cJ _ p nu de eq am nx oA oD oE oP cR aR hR cl ad gw pr n o0 ou x0 x1 x hbad) (vx_cwSW 5 C.hts gL_law_L_claim rfl rfl rfl (by decide +kernel) ⟨Nat.le_of_ble_eq_true rfl, Nat.le_of_ble_eq_true rfl⟩) ⟨PY.blind, PY.go hP hK hD hE C.hV C.hDC hS (hA_ ss)⟩ rfl rfl hl.1 rfl (lv_room (Nat.le_of_ble_eq_true rfl)) dL_law_1043 ⟨(by show cells + 1 ≤ 1070; omega), (by show slots + 6 ≤ 8714; omega)⟩) (fun r9 u H locs hr9 hP hD hS => ?_)
  obtain rfl : r9 = 1 := hr9
  refine lv_istore (lv' := [(5, .int 1), (0, .ref b), (1, .ref (a 0)), (2, .ref (bb 0)), (3, .ref o0), (4, .int (nI i))]) hx hb dL_law_1046 hl (by decide) rfl (fun ls hl => ?_)
  refine lv_aload_n hx hb dL_law_1048 rfl (lv_at hl 3 rfl) ?_
  refine ld_arg C hS (k := 1) (lv_at hl 1 rfl) (lv_at hl 5 rfl) (by omega) (by decide) v1 rfl dL_law_1049 dL_law_1050 dL_law_1052 dL_law_1053 dL_law_1054 ?_
  refine ld_arg C hS (k := 2) (lv_at hl 1 rfl) (lv_at hl 5 rfl) (by omega) (by decide) v2 rfl dL_law_1055 dL_law_1056 dL_law_1058 dL_law_1059 dL_law_1060 ?_
  refine ld_arg C hS (k := 3) (lv_at hl 1 rfl) (lv_at hl 5 rfl) (by omega) (by decide) v3 rfl dL_law_1061 dL_law_1062 dL_law_1064 dL_law_1065 dL_law_1066 ?_
  have hP := toMG hP
  have hD := toMGd hD
  refine b_calliP (S := Unit) (wc := MW bb cI cJ p cl a2 gw oA oD oE oP cR aR hR pr sq ab be nw tn th n) (wr := GW a cI cJ p nu de eq am nx oA oD oE oP cR aR hR cl ad gw pr n ++ [(o0, eJ cJ 1 (ou))]) (w' := fun u8 => MW bb cI cJ p cl a2 gw oA oD oE oP cR aR hR pr sq ab be nw tn 1 n) hP hD hS (hA_ ss) (va_runV (As := [.int (x0), .int (x1), .int (x)]) (rest := []) C.fix (c_X4_claim_bad ll D bb cI cJ _ p cl a2 gw oA oD oE oP cR aR hR pr sq ab be nw tn th n x0 x1 x hbad) (cwV 3 C.hts gL_law_X4_claim rfl rfl rfl (by decide +kernel) ⟨Nat.le_of_ble_eq_true rfl, Nat.le_of_ble_eq_true rfl⟩) ⟨PW.blind, va_recv hK hP (ci := 4) (q0 := 0) rfl rfl, PW.goP hP hK hD hE⟩ rfl rfl hl.1 rfl (lv_room (Nat.le_of_ble_eq_true rfl)) dL_law_1067 ⟨(by show cells + 1 + 0 ≤ 1070; omega), (by show slots + 6 + 0 ≤ 8714; omega)⟩) (fun r8 u8 H locs hr8 hP hD hS => ?_)
  obtain rfl : r8 = 0 := hr8
  refine lv_istore (lv' := [(6, .int (0)), (5, .int 1), (0, .ref b), (1, .ref (a 0)), (2, .ref (bb 0)), (3, .ref o0), (4, .int (nI i))]) hx hb dL_law_1070 hl (by decide) rfl (fun ls hl => ?_)
  refine tl_x C hP hl.1 (by decide) (lv_at hl 4 rfl) (lv_at hl 1 rfl) rfl (tg := 1100) (by decide) (by decide) (by decide) dL_law_1072 dL_law_1073 dL_law_1076 dL_law_1078 dL_law_1083 dL_law_1085 dL_law_1100 ?_ ⟨(by omega), (by omega)⟩
  refine W.widen (k := cells + 1) (n := slots + 6) (by omega) (by omega) ?_
  exact kk _ _ _ (toMG hP) (toMGd hD) hS (lv_sub hl [2, 3, 4, 5, 6] rfl)
set_option maxHeartbeats 4000000 in
set_option maxRecDepth 100000 in
theorem kv_admit (o c : Nat) (x : Int32) (ho : o < 6) (hc : c < 6) (hpr : prB (nI o) (nI c) = true) (hqx : inB x 0 1000000 = true) (hpr2 : prB (nI c) (nI o) = true) (hq : ad (6 * c + o) = a2 (6 * o + c)) (v1 : xs (i + 1) = nI o) (v2 : xs (i + 2) = nI c) (v3 : xs (i + 3) = x) (C : lwC pp ll ss mm mth cde b L xs D cI cJ) (hi : i + 5 < L) (hcs : cells + 1 ≤ 1070 ∧ slots + 6 ≤ 8714) (hP : va_P D vwCl (LW a bb o0 cI cJ p nu de eq am nx oA oD oE oP cR aR hR cl ad gw pr n ou p cl a2 gw oA oD oE oP cR aR hR pr sq ab be nw tn th n) H) (hD : va_D (lwA ss) (LW a bb o0 cI cJ p nu de eq am nx oA oD oE oP cR aR hR cl ad gw pr n ou p cl a2 gw oA oD oE oP cR aR hR pr sq ab be nw tn th n)) (hS : va_S (lwA ss) ss.heap H locs) (hl : lv_has ls 8 (LOC b a bb o0 i))
    (kk : ∀  (H : Heap) (locs : List Loc) (ls : Array Slot), va_P D vwCl (LW a bb o0 cI cJ p nu de eq am nx oA oD oE oP cR aR hR cl (upd ad (6 * c + o) x) gw pr n (vp_updL ou 0 (ad (6 * c + o)).toInt64) p cl (upd a2 (6 * o + c) x) gw oA oD oE oP cR aR hR pr sq ab be nw tn 0 n) H → va_D (lwA ss) (LW a bb o0 cI cJ p nu de eq am nx oA oD oE oP cR aR hR cl (upd ad (6 * c + o) x) gw pr n (vp_updL ou 0 (ad (6 * c + o)).toInt64) p cl (upd a2 (6 * o + c) x) gw oA oD oE oP cR aR hR pr sq ab be nw tn 0 n) → va_S (lwA ss) ss.heap H locs → lv_has ls 8 (LOC b a bb o0 i) → W pp ll ee room_1 ss mm #[Value.ref b] bel mth cde H locs (cells + 1) (slots + 6) Q (F0 mm 1472 ls [])) :
    W pp ll ee room_1 ss mm #[Value.ref b] bel mth cde H locs cells slots Q (F0 mm 1103 ls []) := by
  have hx := C.hx
  have hb := C.hb
  have hK := C.hK
  have hE := C.hE
  refine lv_aload_n hx hb dL_law_1103 rfl (lv_at hl 1 rfl) ?_
  refine ld_arg C hS (k := 1) (lv_at hl 0 rfl) (lv_at hl 4 rfl) (by omega) (by decide) v1 rfl dL_law_1104 dL_law_1105 dL_law_1107 dL_law_1108 dL_law_1109 ?_
  refine ld_arg C hS (k := 2) (lv_at hl 0 rfl) (lv_at hl 4 rfl) (by omega) (by decide) v2 rfl dL_law_1110 dL_law_1111 dL_law_1113 dL_law_1114 dL_law_1115 ?_
  refine ld_arg C hS (k := 3) (lv_at hl 0 rfl) (lv_at hl 4 rfl) (by omega) (by decide) v3 rfl dL_law_1116 dL_law_1117 dL_law_1119 dL_law_1120 dL_law_1121 ?_
  refine lv_aload_n hx hb dL_law_1122 rfl (lv_at hl 3 rfl) ?_
  refine b_calliP (S := Unit) (wc := GW a cI cJ p nu de eq am nx oA oD oE oP cR aR hR cl ad gw pr n ++ [(o0, eJ cJ 1 ou)]) (wr := MW bb cI cJ p cl a2 gw oA oD oE oP cR aR hR pr sq ab be nw tn th n) (w' := fun u => GW a cI cJ p nu de eq am nx oA oD oE oP cR aR hR cl (upd ad (6 * c + o) x) gw pr n ++ [(o0, eJ cJ 1 (vp_updL ou 0 (ad (6 * c + o)).toInt64))]) hP hD hS (hA_ ss) (vx_runSW (As := [.ref (a 0), .int (nI o), .int (nI c), .int (x), .ref o0]) (rest := []) C.fix (c_L_admit ll D a cI cJ _ p nu de eq am nx oA oD oE oP cR aR hR cl ad gw pr n o0 ou o c x ho hc hpr hqx) (vx_cwSW 5 C.hts gL_law_L_admit rfl rfl rfl (by decide +kernel) ⟨Nat.le_of_ble_eq_true rfl, Nat.le_of_ble_eq_true rfl⟩) ⟨PY.blind, PY.go hP hK hD hE C.hV C.hDC hS (hA_ ss)⟩ rfl rfl hl.1 rfl (lv_room (Nat.le_of_ble_eq_true rfl)) dL_law_1123 ⟨(by show cells + 0 ≤ 1070; omega), (by show slots + 0 ≤ 8714; omega)⟩) (fun r9 u H locs hr9 hP hD hS => ?_)
  obtain rfl : r9 = 0 := hr9
  refine lv_istore (lv' := [(5, .int 0), (0, .ref b), (1, .ref (a 0)), (2, .ref (bb 0)), (3, .ref o0), (4, .int (nI i))]) hx hb dL_law_1126 hl (by decide) rfl (fun ls hl => ?_)
  refine lv_aload_n hx hb dL_law_1128 rfl (lv_at hl 3 rfl) ?_
  refine ld_arg C hS (k := 1) (lv_at hl 1 rfl) (lv_at hl 5 rfl) (by omega) (by decide) v1 rfl dL_law_1129 dL_law_1130 dL_law_1132 dL_law_1133 dL_law_1134 ?_
  refine ld_arg C hS (k := 2) (lv_at hl 1 rfl) (lv_at hl 5 rfl) (by omega) (by decide) v2 rfl dL_law_1135 dL_law_1136 dL_law_1138 dL_law_1139 dL_law_1140 ?_
  refine ld_arg C hS (k := 3) (lv_at hl 1 rfl) (lv_at hl 5 rfl) (by omega) (by decide) v3 rfl dL_law_1141 dL_law_1142 dL_law_1144 dL_law_1145 dL_law_1146 ?_
  have hP := toMG hP
  have hD := toMGd hD
  refine b_calliP (S := Unit) (wc := MW bb cI cJ p cl a2 gw oA oD oE oP cR aR hR pr sq ab be nw tn th n) (wr := GW a cI cJ p nu de eq am nx oA oD oE oP cR aR hR cl (upd ad (6 * c + o) x) gw pr n ++ [(o0, eJ cJ 1 (vp_updL ou 0 (ad (6 * c + o)).toInt64))]) (w' := fun u8 => MW bb cI cJ p cl (upd a2 (6 * o + c) x) gw oA oD oE oP cR aR hR pr sq ab be nw tn 0 n) hP hD hS (hA_ ss) (va_runV (As := [.int (nI o), .int (nI c), .int (x)]) (rest := []) C.fix (c_X4_admit ll D bb cI cJ _ p cl a2 gw oA oD oE oP cR aR hR pr sq ab be nw tn th n o c x ho hc hpr2 hqx) (cwV 3 C.hts gL_law_X4_admit rfl rfl rfl (by decide +kernel) ⟨Nat.le_of_ble_eq_true rfl, Nat.le_of_ble_eq_true rfl⟩) ⟨PW.blind, va_recv hK hP (ci := 4) (q0 := 0) rfl rfl, PW.goP hP hK hD hE⟩ rfl rfl hl.1 rfl (lv_room (Nat.le_of_ble_eq_true rfl)) dL_law_1147 ⟨(by show cells + 0 + 0 ≤ 1070; omega), (by show slots + 0 + 0 ≤ 8714; omega)⟩) (fun r8 u8 H locs hr8 hP hD hS => ?_)
  obtain rfl : r8 = a2 (6 * o + c) := hr8
  refine lv_istore (lv' := [(6, .int (a2 (6 * o + c))), (5, .int 0), (0, .ref b), (1, .ref (a 0)), (2, .ref (bb 0)), (3, .ref o0), (4, .int (nI i))]) hx hb dL_law_1150 hl (by decide) rfl (fun ls hl => ?_)
  refine tl_i C hP rfl hS hl.1 (lv_at hl 4 rfl) (lv_at hl 5 rfl) (lv_at hl 1 rfl) (lv_at hl 0 rfl) ((if_pos rfl).trans (congrArg Int32.toInt64 hq)) rfl rfl (by decide) (by decide) (by decide) (by decide) dL_law_1152 dL_law_1153 dL_law_1156 dL_law_1158 dL_law_1163 dL_law_1165 dL_law_1168 dL_law_1169 dL_law_1170 dL_law_1171 dL_law_1173 dL_law_1174 dL_law_1175 dL_law_1180 ?_ ⟨(by omega), (by omega)⟩
  refine W.widen (k := cells + 1) (n := slots + 6) (by omega) (by omega) ?_
  exact kk _ _ _ (toMG hP) (toMGd hD) hS (lv_sub hl [2, 3, 4, 5, 6] rfl)
set_option maxHeartbeats 4000000 in
set_option maxRecDepth 100000 in
theorem kv_admit_bad (x0 x1 x : Int32) (hbad : ¬ (prB x0 x1 = true ∧ inB x 0 1000000 = true)) (hbad2 : ¬ (prB x1 x0 = true ∧ inB x 0 1000000 = true))  (v1 : xs (i + 1) = x0) (v2 : xs (i + 2) = x1) (v3 : xs (i + 3) = x) (C : lwC pp ll ss mm mth cde b L xs D cI cJ) (hi : i + 5 < L) (hcs : cells + 1 ≤ 1070 ∧ slots + 6 ≤ 8714) (hP : va_P D vwCl (LW a bb o0 cI cJ p nu de eq am nx oA oD oE oP cR aR hR cl ad gw pr n ou p cl a2 gw oA oD oE oP cR aR hR pr sq ab be nw tn th n) H) (hD : va_D (lwA ss) (LW a bb o0 cI cJ p nu de eq am nx oA oD oE oP cR aR hR cl ad gw pr n ou p cl a2 gw oA oD oE oP cR aR hR pr sq ab be nw tn th n)) (hS : va_S (lwA ss) ss.heap H locs) (hl : lv_has ls 8 (LOC b a bb o0 i))
    (kk : ∀  (H : Heap) (locs : List Loc) (ls : Array Slot), va_P D vwCl (LW a bb o0 cI cJ p nu de eq am nx oA oD oE oP cR aR hR cl ad gw pr n ou p cl a2 gw oA oD oE oP cR aR hR pr sq ab be nw tn 1 n) H → va_D (lwA ss) (LW a bb o0 cI cJ p nu de eq am nx oA oD oE oP cR aR hR cl ad gw pr n ou p cl a2 gw oA oD oE oP cR aR hR pr sq ab be nw tn 1 n) → va_S (lwA ss) ss.heap H locs → lv_has ls 8 (LOC b a bb o0 i) → W pp ll ee room_1 ss mm #[Value.ref b] bel mth cde H locs (cells + 1) (slots + 6) Q (F0 mm 1472 ls [])) :
    W pp ll ee room_1 ss mm #[Value.ref b] bel mth cde H locs cells slots Q (F0 mm 1103 ls []) := by
  have hx := C.hx
  have hb := C.hb
  have hK := C.hK
  have hE := C.hE
  refine lv_aload_n hx hb dL_law_1103 rfl (lv_at hl 1 rfl) ?_
  refine ld_arg C hS (k := 1) (lv_at hl 0 rfl) (lv_at hl 4 rfl) (by omega) (by decide) v1 rfl dL_law_1104 dL_law_1105 dL_law_1107 dL_law_1108 dL_law_1109 ?_
  refine ld_arg C hS (k := 2) (lv_at hl 0 rfl) (lv_at hl 4 rfl) (by omega) (by decide) v2 rfl dL_law_1110 dL_law_1111 dL_law_1113 dL_law_1114 dL_law_1115 ?_
  refine ld_arg C hS (k := 3) (lv_at hl 0 rfl) (lv_at hl 4 rfl) (by omega) (by decide) v3 rfl dL_law_1116 dL_law_1117 dL_law_1119 dL_law_1120 dL_law_1121 ?_
  refine lv_aload_n hx hb dL_law_1122 rfl (lv_at hl 3 rfl) ?_
  refine b_calliP (S := Unit) (wc := GW a cI cJ p nu de eq am nx oA oD oE oP cR aR hR cl ad gw pr n ++ [(o0, eJ cJ 1 ou)]) (wr := MW bb cI cJ p cl a2 gw oA oD oE oP cR aR hR pr sq ab be nw tn th n) (w' := fun u => GW a cI cJ p nu de eq am nx oA oD oE oP cR aR hR cl ad gw pr n ++ [(o0, eJ cJ 1 (ou))]) hP hD hS (hA_ ss) (vx_runSW (As := [.ref (a 0), .int (x0), .int (x1), .int (x), .ref o0]) (rest := []) C.fix (c_L_admit_bad ll C.hst D a cI cJ _ p nu de eq am nx oA oD oE oP cR aR hR cl ad gw pr n o0 ou x0 x1 x hbad) (vx_cwSW 5 C.hts gL_law_L_admit rfl rfl rfl (by decide +kernel) ⟨Nat.le_of_ble_eq_true rfl, Nat.le_of_ble_eq_true rfl⟩) ⟨PY.blind, PY.go hP hK hD hE C.hV C.hDC hS (hA_ ss)⟩ rfl rfl hl.1 rfl (lv_room (Nat.le_of_ble_eq_true rfl)) dL_law_1123 ⟨(by show cells + 1 ≤ 1070; omega), (by show slots + 6 ≤ 8714; omega)⟩) (fun r9 u H locs hr9 hP hD hS => ?_)
  obtain rfl : r9 = 1 := hr9
  refine lv_istore (lv' := [(5, .int 1), (0, .ref b), (1, .ref (a 0)), (2, .ref (bb 0)), (3, .ref o0), (4, .int (nI i))]) hx hb dL_law_1126 hl (by decide) rfl (fun ls hl => ?_)
  refine lv_aload_n hx hb dL_law_1128 rfl (lv_at hl 3 rfl) ?_
  refine ld_arg C hS (k := 1) (lv_at hl 1 rfl) (lv_at hl 5 rfl) (by omega) (by decide) v1 rfl dL_law_1129 dL_law_1130 dL_law_1132 dL_law_1133 dL_law_1134 ?_
  refine ld_arg C hS (k := 2) (lv_at hl 1 rfl) (lv_at hl 5 rfl) (by omega) (by decide) v2 rfl dL_law_1135 dL_law_1136 dL_law_1138 dL_law_1139 dL_law_1140 ?_
  refine ld_arg C hS (k := 3) (lv_at hl 1 rfl) (lv_at hl 5 rfl) (by omega) (by decide) v3 rfl dL_law_1141 dL_law_1142 dL_law_1144 dL_law_1145 dL_law_1146 ?_
  have hP := toMG hP
  have hD := toMGd hD
  refine b_calliP (S := Unit) (wc := MW bb cI cJ p cl a2 gw oA oD oE oP cR aR hR pr sq ab be nw tn th n) (wr := GW a cI cJ p nu de eq am nx oA oD oE oP cR aR hR cl ad gw pr n ++ [(o0, eJ cJ 1 (ou))]) (w' := fun u8 => MW bb cI cJ p cl a2 gw oA oD oE oP cR aR hR pr sq ab be nw tn 1 n) hP hD hS (hA_ ss) (va_runV (As := [.int (x0), .int (x1), .int (x)]) (rest := []) C.fix (c_X4_admit_bad ll D bb cI cJ _ p cl a2 gw oA oD oE oP cR aR hR pr sq ab be nw tn th n x0 x1 x hbad2) (cwV 3 C.hts gL_law_X4_admit rfl rfl rfl (by decide +kernel) ⟨Nat.le_of_ble_eq_true rfl, Nat.le_of_ble_eq_true rfl⟩) ⟨PW.blind, va_recv hK hP (ci := 4) (q0 := 0) rfl rfl, PW.goP hP hK hD hE⟩ rfl rfl hl.1 rfl (lv_room (Nat.le_of_ble_eq_true rfl)) dL_law_1147 ⟨(by show cells + 1 + 0 ≤ 1070; omega), (by show slots + 6 + 0 ≤ 8714; omega)⟩) (fun r8 u8 H locs hr8 hP hD hS => ?_)
  obtain rfl : r8 = 0 := hr8
  refine lv_istore (lv' := [(6, .int (0)), (5, .int 1), (0, .ref b), (1, .ref (a 0)), (2, .ref (bb 0)), (3, .ref o0), (4, .int (nI i))]) hx hb dL_law_1150 hl (by decide) rfl (fun ls hl => ?_)
  refine tl_x C hP hl.1 (by decide) (lv_at hl 4 rfl) (lv_at hl 1 rfl) rfl (tg := 1180) (by decide) (by decide) (by decide) dL_law_1152 dL_law_1153 dL_law_1156 dL_law_1158 dL_law_1163 dL_law_1165 dL_law_1180 ?_ ⟨(by omega), (by omega)⟩
  refine W.widen (k := cells + 1) (n := slots + 6) (by omega) (by omega) ?_
  exact kk _ _ _ (toMG hP) (toMGd hD) hS (lv_sub hl [2, 3, 4, 5, 6] rfl)
set_option maxHeartbeats 4000000 in
set_option maxRecDepth 100000 in
theorem kv_difference (o c : Nat) (ho : o < 6) (hc : c < 6) (hpr : prB (nI o) (nI c) = true) (hq : cl (6 * o + c) - ad (6 * o + c) = cl (6 * o + c) - a2 (6 * c + o)) (v1 : xs (i + 1) = nI o) (v2 : xs (i + 2) = nI c) (C : lwC pp ll ss mm mth cde b L xs D cI cJ) (hi : i + 5 < L) (hcs : cells + 1 ≤ 1070 ∧ slots + 6 ≤ 8714) (hP : va_P D vwCl (LW a bb o0 cI cJ p nu de eq am nx oA oD oE oP cR aR hR cl ad gw pr n ou p cl a2 gw oA oD oE oP cR aR hR pr sq ab be nw tn th n) H) (hD : va_D (lwA ss) (LW a bb o0 cI cJ p nu de eq am nx oA oD oE oP cR aR hR cl ad gw pr n ou p cl a2 gw oA oD oE oP cR aR hR pr sq ab be nw tn th n)) (hS : va_S (lwA ss) ss.heap H locs) (hl : lv_has ls 8 (LOC b a bb o0 i))
    (kk : ∀  (H : Heap) (locs : List Loc) (ls : Array Slot), va_P D vwCl (LW a bb o0 cI cJ p nu de eq am nx oA oD oE oP cR aR hR cl ad gw pr n (vp_updL ou 0 (cl (6 * o + c) - ad (6 * o + c)).toInt64) p cl a2 gw oA oD oE oP cR aR hR pr sq ab be nw tn 0 n) H → va_D (lwA ss) (LW a bb o0 cI cJ p nu de eq am nx oA oD oE oP cR aR hR cl ad gw pr n (vp_updL ou 0 (cl (6 * o + c) - ad (6 * o + c)).toInt64) p cl a2 gw oA oD oE oP cR aR hR pr sq ab be nw tn 0 n) → va_S (lwA ss) ss.heap H locs → lv_has ls 8 (LOC b a bb o0 i) → W pp ll ee room_1 ss mm #[Value.ref b] bel mth cde H locs (cells + 1) (slots + 6) Q (F0 mm 1472 ls [])) :
    W pp ll ee room_1 ss mm #[Value.ref b] bel mth cde H locs cells slots Q (F0 mm 1183 ls []) := by
  have hx := C.hx
  have hb := C.hb
  have hK := C.hK
  have hE := C.hE
  refine lv_aload_n hx hb dL_law_1183 rfl (lv_at hl 1 rfl) ?_
  refine ld_arg C hS (k := 1) (lv_at hl 0 rfl) (lv_at hl 4 rfl) (by omega) (by decide) v1 rfl dL_law_1184 dL_law_1185 dL_law_1187 dL_law_1188 dL_law_1189 ?_
  refine ld_arg C hS (k := 2) (lv_at hl 0 rfl) (lv_at hl 4 rfl) (by omega) (by decide) v2 rfl dL_law_1190 dL_law_1191 dL_law_1193 dL_law_1194 dL_law_1195 ?_
  refine lv_aload_n hx hb dL_law_1196 rfl (lv_at hl 3 rfl) ?_
  refine b_calliP (S := Unit) (wc := GW a cI cJ p nu de eq am nx oA oD oE oP cR aR hR cl ad gw pr n ++ [(o0, eJ cJ 1 ou)]) (wr := MW bb cI cJ p cl a2 gw oA oD oE oP cR aR hR pr sq ab be nw tn th n) (w' := fun u => GW a cI cJ p nu de eq am nx oA oD oE oP cR aR hR cl ad gw pr n ++ [(o0, eJ cJ 1 (vp_updL ou 0 (cl (6 * o + c) - ad (6 * o + c)).toInt64))]) hP hD hS (hA_ ss) (vx_runSW (As := [.ref (a 0), .int (nI o), .int (nI c), .ref o0]) (rest := []) C.fix (c_L_difference ll D a cI cJ _ p nu de eq am nx oA oD oE oP cR aR hR cl ad gw pr n o0 ou o c ho hc hpr) (vx_cwSW 4 C.hts gL_law_L_difference rfl rfl rfl (by decide +kernel) ⟨Nat.le_of_ble_eq_true rfl, Nat.le_of_ble_eq_true rfl⟩) ⟨PY.blind, PY.go hP hK hD hE C.hV C.hDC hS (hA_ ss)⟩ rfl rfl hl.1 rfl (lv_room (Nat.le_of_ble_eq_true rfl)) dL_law_1197 ⟨(by show cells + 0 ≤ 1070; omega), (by show slots + 0 ≤ 8714; omega)⟩) (fun r9 u H locs hr9 hP hD hS => ?_)
  obtain rfl : r9 = 0 := hr9
  refine lv_istore (lv' := [(5, .int 0), (0, .ref b), (1, .ref (a 0)), (2, .ref (bb 0)), (3, .ref o0), (4, .int (nI i))]) hx hb dL_law_1200 hl (by decide) rfl (fun ls hl => ?_)
  refine lv_aload_n hx hb dL_law_1202 rfl (lv_at hl 3 rfl) ?_
  refine ld_arg C hS (k := 1) (lv_at hl 1 rfl) (lv_at hl 5 rfl) (by omega) (by decide) v1 rfl dL_law_1203 dL_law_1204 dL_law_1206 dL_law_1207 dL_law_1208 ?_
  refine ld_arg C hS (k := 2) (lv_at hl 1 rfl) (lv_at hl 5 rfl) (by omega) (by decide) v2 rfl dL_law_1209 dL_law_1210 dL_law_1212 dL_law_1213 dL_law_1214 ?_
  have hP := toMG hP
  have hD := toMGd hD
  refine b_calliP (S := Unit) (wc := MW bb cI cJ p cl a2 gw oA oD oE oP cR aR hR pr sq ab be nw tn th n) (wr := GW a cI cJ p nu de eq am nx oA oD oE oP cR aR hR cl ad gw pr n ++ [(o0, eJ cJ 1 (vp_updL ou 0 (cl (6 * o + c) - ad (6 * o + c)).toInt64))]) (w' := fun u8 => MW bb cI cJ p cl a2 gw oA oD oE oP cR aR hR pr sq ab be nw tn 0 n) hP hD hS (hA_ ss) (va_runV (As := [.int (nI o), .int (nI c)]) (rest := []) C.fix (c_X4_difference ll D bb cI cJ _ p cl a2 gw oA oD oE oP cR aR hR pr sq ab be nw tn th n o c ho hc hpr) (cwV 2 C.hts gL_law_X4_difference rfl rfl rfl (by decide +kernel) ⟨Nat.le_of_ble_eq_true rfl, Nat.le_of_ble_eq_true rfl⟩) ⟨PW.blind, va_recv hK hP (ci := 4) (q0 := 0) rfl rfl, PW.goP hP hK hD hE⟩ rfl rfl hl.1 rfl (lv_room (Nat.le_of_ble_eq_true rfl)) dL_law_1215 ⟨(by show cells + 0 + 0 ≤ 1070; omega), (by show slots + 0 + 0 ≤ 8714; omega)⟩) (fun r8 u8 H locs hr8 hP hD hS => ?_)
  obtain rfl : r8 = cl (6 * o + c) - a2 (6 * c + o) := hr8
  refine lv_istore (lv' := [(6, .int (cl (6 * o + c) - a2 (6 * c + o))), (5, .int 0), (0, .ref b), (1, .ref (a 0)), (2, .ref (bb 0)), (3, .ref o0), (4, .int (nI i))]) hx hb dL_law_1218 hl (by decide) rfl (fun ls hl => ?_)
  refine tl_i C hP rfl hS hl.1 (lv_at hl 4 rfl) (lv_at hl 5 rfl) (lv_at hl 1 rfl) (lv_at hl 0 rfl) ((if_pos rfl).trans (congrArg Int32.toInt64 hq)) rfl rfl (by decide) (by decide) (by decide) (by decide) dL_law_1220 dL_law_1221 dL_law_1224 dL_law_1226 dL_law_1231 dL_law_1233 dL_law_1236 dL_law_1237 dL_law_1238 dL_law_1239 dL_law_1241 dL_law_1242 dL_law_1243 dL_law_1248 ?_ ⟨(by omega), (by omega)⟩
  refine W.widen (k := cells + 1) (n := slots + 6) (by omega) (by omega) ?_
  exact kk _ _ _ (toMG hP) (toMGd hD) hS (lv_sub hl [2, 3, 4, 5, 6] rfl)
set_option maxHeartbeats 4000000 in
set_option maxRecDepth 100000 in
theorem kv_difference_bad (x0 x1 : Int32) (hbad : ¬ prB x0 x1 = true)  (v1 : xs (i + 1) = x0) (v2 : xs (i + 2) = x1) (C : lwC pp ll ss mm mth cde b L xs D cI cJ) (hi : i + 5 < L) (hcs : cells + 1 ≤ 1070 ∧ slots + 6 ≤ 8714) (hP : va_P D vwCl (LW a bb o0 cI cJ p nu de eq am nx oA oD oE oP cR aR hR cl ad gw pr n ou p cl a2 gw oA oD oE oP cR aR hR pr sq ab be nw tn th n) H) (hD : va_D (lwA ss) (LW a bb o0 cI cJ p nu de eq am nx oA oD oE oP cR aR hR cl ad gw pr n ou p cl a2 gw oA oD oE oP cR aR hR pr sq ab be nw tn th n)) (hS : va_S (lwA ss) ss.heap H locs) (hl : lv_has ls 8 (LOC b a bb o0 i))
    (kk : ∀  (H : Heap) (locs : List Loc) (ls : Array Slot), va_P D vwCl (LW a bb o0 cI cJ p nu de eq am nx oA oD oE oP cR aR hR cl ad gw pr n ou p cl a2 gw oA oD oE oP cR aR hR pr sq ab be nw tn 1 n) H → va_D (lwA ss) (LW a bb o0 cI cJ p nu de eq am nx oA oD oE oP cR aR hR cl ad gw pr n ou p cl a2 gw oA oD oE oP cR aR hR pr sq ab be nw tn 1 n) → va_S (lwA ss) ss.heap H locs → lv_has ls 8 (LOC b a bb o0 i) → W pp ll ee room_1 ss mm #[Value.ref b] bel mth cde H locs (cells + 1) (slots + 6) Q (F0 mm 1472 ls [])) :
    W pp ll ee room_1 ss mm #[Value.ref b] bel mth cde H locs cells slots Q (F0 mm 1183 ls []) := by
  have hx := C.hx
  have hb := C.hb
  have hK := C.hK
  have hE := C.hE
  refine lv_aload_n hx hb dL_law_1183 rfl (lv_at hl 1 rfl) ?_
  refine ld_arg C hS (k := 1) (lv_at hl 0 rfl) (lv_at hl 4 rfl) (by omega) (by decide) v1 rfl dL_law_1184 dL_law_1185 dL_law_1187 dL_law_1188 dL_law_1189 ?_
  refine ld_arg C hS (k := 2) (lv_at hl 0 rfl) (lv_at hl 4 rfl) (by omega) (by decide) v2 rfl dL_law_1190 dL_law_1191 dL_law_1193 dL_law_1194 dL_law_1195 ?_
  refine lv_aload_n hx hb dL_law_1196 rfl (lv_at hl 3 rfl) ?_
  refine b_calliP (S := Unit) (wc := GW a cI cJ p nu de eq am nx oA oD oE oP cR aR hR cl ad gw pr n ++ [(o0, eJ cJ 1 ou)]) (wr := MW bb cI cJ p cl a2 gw oA oD oE oP cR aR hR pr sq ab be nw tn th n) (w' := fun u => GW a cI cJ p nu de eq am nx oA oD oE oP cR aR hR cl ad gw pr n ++ [(o0, eJ cJ 1 (ou))]) hP hD hS (hA_ ss) (vx_runSW (As := [.ref (a 0), .int (x0), .int (x1), .ref o0]) (rest := []) C.fix (c_L_difference_bad ll C.hst D a cI cJ _ p nu de eq am nx oA oD oE oP cR aR hR cl ad gw pr n o0 ou x0 x1 hbad) (vx_cwSW 4 C.hts gL_law_L_difference rfl rfl rfl (by decide +kernel) ⟨Nat.le_of_ble_eq_true rfl, Nat.le_of_ble_eq_true rfl⟩) ⟨PY.blind, PY.go hP hK hD hE C.hV C.hDC hS (hA_ ss)⟩ rfl rfl hl.1 rfl (lv_room (Nat.le_of_ble_eq_true rfl)) dL_law_1197 ⟨(by show cells + 1 ≤ 1070; omega), (by show slots + 6 ≤ 8714; omega)⟩) (fun r9 u H locs hr9 hP hD hS => ?_)
  obtain rfl : r9 = 1 := hr9
  refine lv_istore (lv' := [(5, .int 1), (0, .ref b), (1, .ref (a 0)), (2, .ref (bb 0)), (3, .ref o0), (4, .int (nI i))]) hx hb dL_law_1200 hl (by decide) rfl (fun ls hl => ?_)
  refine lv_aload_n hx hb dL_law_1202 rfl (lv_at hl 3 rfl) ?_
  refine ld_arg C hS (k := 1) (lv_at hl 1 rfl) (lv_at hl 5 rfl) (by omega) (by decide) v1 rfl dL_law_1203 dL_law_1204 dL_law_1206 dL_law_1207 dL_law_1208 ?_
  refine ld_arg C hS (k := 2) (lv_at hl 1 rfl) (lv_at hl 5 rfl) (by omega) (by decide) v2 rfl dL_law_1209 dL_law_1210 dL_law_1212 dL_law_1213 dL_law_1214 ?_
  have hP := toMG hP
  have hD := toMGd hD
  refine b_calliP (S := Unit) (wc := MW bb cI cJ p cl a2 gw oA oD oE oP cR aR hR pr sq ab be nw tn th n) (wr := GW a cI cJ p nu de eq am nx oA oD oE oP cR aR hR cl ad gw pr n ++ [(o0, eJ cJ 1 (ou))]) (w' := fun u8 => MW bb cI cJ p cl a2 gw oA oD oE oP cR aR hR pr sq ab be nw tn 1 n) hP hD hS (hA_ ss) (va_runV (As := [.int (x0), .int (x1)]) (rest := []) C.fix (c_X4_difference_bad ll D bb cI cJ _ p cl a2 gw oA oD oE oP cR aR hR pr sq ab be nw tn th n x0 x1 hbad) (cwV 2 C.hts gL_law_X4_difference rfl rfl rfl (by decide +kernel) ⟨Nat.le_of_ble_eq_true rfl, Nat.le_of_ble_eq_true rfl⟩) ⟨PW.blind, va_recv hK hP (ci := 4) (q0 := 0) rfl rfl, PW.goP hP hK hD hE⟩ rfl rfl hl.1 rfl (lv_room (Nat.le_of_ble_eq_true rfl)) dL_law_1215 ⟨(by show cells + 1 + 0 ≤ 1070; omega), (by show slots + 6 + 0 ≤ 8714; omega)⟩) (fun r8 u8 H locs hr8 hP hD hS => ?_)
  obtain rfl : r8 = 0 := hr8
  refine lv_istore (lv' := [(6, .int (0)), (5, .int 1), (0, .ref b), (1, .ref (a 0)), (2, .ref (bb 0)), (3, .ref o0), (4, .int (nI i))]) hx hb dL_law_1218 hl (by decide) rfl (fun ls hl => ?_)
  refine tl_x C hP hl.1 (by decide) (lv_at hl 4 rfl) (lv_at hl 1 rfl) rfl (tg := 1248) (by decide) (by decide) (by decide) dL_law_1220 dL_law_1221 dL_law_1224 dL_law_1226 dL_law_1231 dL_law_1233 dL_law_1248 ?_ ⟨(by omega), (by omega)⟩
  refine W.widen (k := cells + 1) (n := slots + 6) (by omega) (by omega) ?_
  exact kk _ _ _ (toMG hP) (toMGd hD) hS (lv_sub hl [2, 3, 4, 5, 6] rfl)
set_option maxHeartbeats 4000000 in
set_option maxRecDepth 100000 in
theorem kv_minority (c : Nat) (hc : c < 6) (hB : okB p) (hW : ¬ dW p 0 = 0) (hq : mAm oA oD cR nu de (mem p 5) c = miV oA oD cR (aF p) (bF p) (grp p) c) (v1 : xs (i + 1) = nI c) (C : lwC pp ll ss mm mth cde b L xs D cI cJ) (hi : i + 5 < L) (hcs : cells + 1 ≤ 1070 ∧ slots + 6 ≤ 8714) (hP : va_P D vwCl (LW a bb o0 cI cJ p nu de eq am nx oA oD oE oP cR aR hR cl ad gw pr n ou p cl a2 gw oA oD oE oP cR aR hR pr sq ab be nw tn th n) H) (hD : va_D (lwA ss) (LW a bb o0 cI cJ p nu de eq am nx oA oD oE oP cR aR hR cl ad gw pr n ou p cl a2 gw oA oD oE oP cR aR hR pr sq ab be nw tn th n)) (hS : va_S (lwA ss) ss.heap H locs) (hl : lv_has ls 8 (LOC b a bb o0 i))
    (kk : ∀ (u8 : (Nat → Int64) × (Nat → Int64) × (Nat → Int64)) (H : Heap) (locs : List Loc) (ls : Array Slot), va_P D vwCl (LW a bb o0 cI cJ p nu de eq am nx oA oD oE oP cR aR hR cl ad gw pr n (vp_updL ou 0 (mAm oA oD cR nu de (mem p 5) c).toInt64) p cl a2 gw oA oD oE oP cR aR hR pr (u8.1) (u8.2.1) (u8.2.2) nw tn 0 n) H → va_D (lwA ss) (LW a bb o0 cI cJ p nu de eq am nx oA oD oE oP cR aR hR cl ad gw pr n (vp_updL ou 0 (mAm oA oD cR nu de (mem p 5) c).toInt64) p cl a2 gw oA oD oE oP cR aR hR pr (u8.1) (u8.2.1) (u8.2.2) nw tn 0 n) → va_S (lwA ss) ss.heap H locs → lv_has ls 8 (LOC b a bb o0 i) → W pp ll ee room_1 ss mm #[Value.ref b] bel mth cde H locs (cells + 1) (slots + 6) Q (F0 mm 1472 ls [])) :
    W pp ll ee room_1 ss mm #[Value.ref b] bel mth cde H locs cells slots Q (F0 mm 1290 ls []) := by
  have hx := C.hx
  have hb := C.hb
  have hK := C.hK
  have hE := C.hE
  refine lv_aload_n hx hb dL_law_1290 rfl (lv_at hl 1 rfl) ?_
  refine ld_arg C hS (k := 1) (lv_at hl 0 rfl) (lv_at hl 4 rfl) (by omega) (by decide) v1 rfl dL_law_1291 dL_law_1292 dL_law_1294 dL_law_1295 dL_law_1296 ?_
  refine lv_aload_n hx hb dL_law_1297 rfl (lv_at hl 3 rfl) ?_
  refine b_calliP (S := Unit) (wc := GW a cI cJ p nu de eq am nx oA oD oE oP cR aR hR cl ad gw pr n ++ [(o0, eJ cJ 1 ou)]) (wr := MW bb cI cJ p cl a2 gw oA oD oE oP cR aR hR pr sq ab be nw tn th n) (w' := fun u => GW a cI cJ p nu de eq am nx oA oD oE oP cR aR hR cl ad gw pr n ++ [(o0, eJ cJ 1 (vp_updL ou 0 (mAm oA oD cR nu de (mem p 5) c).toInt64))]) hP hD hS (hA_ ss) (vx_runSW (As := [.ref (a 0), .int (nI c), .ref o0]) (rest := []) C.fix (c_L_minority ll D a cI cJ _ p nu de eq am nx oA oD oE oP cR aR hR cl ad gw pr n o0 ou c hc) (vx_cwSW 3 C.hts gL_law_L_minority rfl rfl rfl (by decide +kernel) ⟨Nat.le_of_ble_eq_true rfl, Nat.le_of_ble_eq_true rfl⟩) ⟨PY.blind, PY.go hP hK hD hE C.hV C.hDC hS (hA_ ss)⟩ rfl rfl hl.1 rfl (lv_room (Nat.le_of_ble_eq_true rfl)) dL_law_1298 ⟨(by show cells + 0 ≤ 1070; omega), (by show slots + 0 ≤ 8714; omega)⟩) (fun r9 u H locs hr9 hP hD hS => ?_)
  obtain rfl : r9 = 0 := hr9
  refine lv_istore (lv' := [(5, .int 0), (0, .ref b), (1, .ref (a 0)), (2, .ref (bb 0)), (3, .ref o0), (4, .int (nI i))]) hx hb dL_law_1301 hl (by decide) rfl (fun ls hl => ?_)
  refine lv_aload_n hx hb dL_law_1303 rfl (lv_at hl 3 rfl) ?_
  refine ld_arg C hS (k := 1) (lv_at hl 1 rfl) (lv_at hl 5 rfl) (by omega) (by decide) v1 rfl dL_law_1304 dL_law_1305 dL_law_1307 dL_law_1308 dL_law_1309 ?_
  have hP := toMG hP
  have hD := toMGd hD
  refine b_calliP (S := (Nat → Int64) × (Nat → Int64) × (Nat → Int64)) (wc := MW bb cI cJ p cl a2 gw oA oD oE oP cR aR hR pr sq ab be nw tn th n) (wr := GW a cI cJ p nu de eq am nx oA oD oE oP cR aR hR cl ad gw pr n ++ [(o0, eJ cJ 1 (vp_updL ou 0 (mAm oA oD cR nu de (mem p 5) c).toInt64))]) (w' := fun u8 => MW bb cI cJ p cl a2 gw oA oD oE oP cR aR hR pr (u8.1) (u8.2.1) (u8.2.2) nw tn 0 n) hP hD hS (hA_ ss) (va_runV (As := [.int (nI c)]) (rest := []) C.fix (c_X4_minority ll D bb cI cJ _ p cl a2 gw oA oD oE oP cR aR hR pr sq ab be nw tn th n c hc hB hW) (cwV 1 C.hts gL_law_X4_minority rfl rfl rfl (by decide +kernel) ⟨Nat.le_of_ble_eq_true rfl, Nat.le_of_ble_eq_true rfl⟩) ⟨PW.blind, va_recv hK hP (ci := 4) (q0 := 0) rfl rfl, PW.goP hP hK hD hE⟩ rfl rfl hl.1 rfl (lv_room (Nat.le_of_ble_eq_true rfl)) dL_law_1310 ⟨(by show cells + 0 + 0 ≤ 1070; omega), (by show slots + 0 + 0 ≤ 8714; omega)⟩) (fun r8 u8 H locs hr8 hP hD hS => ?_)
  obtain rfl : r8 = miV oA oD cR (aF p) (bF p) (grp p) c := hr8
  refine lv_istore (lv' := [(6, .int (miV oA oD cR (aF p) (bF p) (grp p) c)), (5, .int 0), (0, .ref b), (1, .ref (a 0)), (2, .ref (bb 0)), (3, .ref o0), (4, .int (nI i))]) hx hb dL_law_1313 hl (by decide) rfl (fun ls hl => ?_)
  refine tl_i C hP rfl hS hl.1 (lv_at hl 4 rfl) (lv_at hl 5 rfl) (lv_at hl 1 rfl) (lv_at hl 0 rfl) ((if_pos rfl).trans (congrArg Int32.toInt64 hq)) rfl rfl (by decide) (by decide) (by decide) (by decide) dL_law_1315 dL_law_1316 dL_law_1319 dL_law_1321 dL_law_1326 dL_law_1328 dL_law_1331 dL_law_1332 dL_law_1333 dL_law_1334 dL_law_1336 dL_law_1337 dL_law_1338 dL_law_1343 ?_ ⟨(by omega), (by omega)⟩
  refine W.widen (k := cells + 1) (n := slots + 6) (by omega) (by omega) ?_
  exact kk u8 _ _ _ (toMG hP) (toMGd hD) hS (lv_sub hl [2, 3, 4, 5, 6] rfl)
set_option maxHeartbeats 4000000 in
set_option maxRecDepth 100000 in
theorem kv_minority_bad (x0 : Int32) (hbad : ¬ inB x0 0 5 = true)  (v1 : xs (i + 1) = x0) (C : lwC pp ll ss mm mth cde b L xs D cI cJ) (hi : i + 5 < L) (hcs : cells + 1 ≤ 1070 ∧ slots + 6 ≤ 8714) (hP : va_P D vwCl (LW a bb o0 cI cJ p nu de eq am nx oA oD oE oP cR aR hR cl ad gw pr n ou p cl a2 gw oA oD oE oP cR aR hR pr sq ab be nw tn th n) H) (hD : va_D (lwA ss) (LW a bb o0 cI cJ p nu de eq am nx oA oD oE oP cR aR hR cl ad gw pr n ou p cl a2 gw oA oD oE oP cR aR hR pr sq ab be nw tn th n)) (hS : va_S (lwA ss) ss.heap H locs) (hl : lv_has ls 8 (LOC b a bb o0 i))
    (kk : ∀  (H : Heap) (locs : List Loc) (ls : Array Slot), va_P D vwCl (LW a bb o0 cI cJ p nu de eq am nx oA oD oE oP cR aR hR cl ad gw pr n ou p cl a2 gw oA oD oE oP cR aR hR pr sq ab be nw tn 1 n) H → va_D (lwA ss) (LW a bb o0 cI cJ p nu de eq am nx oA oD oE oP cR aR hR cl ad gw pr n ou p cl a2 gw oA oD oE oP cR aR hR pr sq ab be nw tn 1 n) → va_S (lwA ss) ss.heap H locs → lv_has ls 8 (LOC b a bb o0 i) → W pp ll ee room_1 ss mm #[Value.ref b] bel mth cde H locs (cells + 1) (slots + 6) Q (F0 mm 1472 ls [])) :
    W pp ll ee room_1 ss mm #[Value.ref b] bel mth cde H locs cells slots Q (F0 mm 1290 ls []) := by
  have hx := C.hx
  have hb := C.hb
  have hK := C.hK
  have hE := C.hE
  refine lv_aload_n hx hb dL_law_1290 rfl (lv_at hl 1 rfl) ?_
  refine ld_arg C hS (k := 1) (lv_at hl 0 rfl) (lv_at hl 4 rfl) (by omega) (by decide) v1 rfl dL_law_1291 dL_law_1292 dL_law_1294 dL_law_1295 dL_law_1296 ?_
  refine lv_aload_n hx hb dL_law_1297 rfl (lv_at hl 3 rfl) ?_
  refine b_calliP (S := Unit) (wc := GW a cI cJ p nu de eq am nx oA oD oE oP cR aR hR cl ad gw pr n ++ [(o0, eJ cJ 1 ou)]) (wr := MW bb cI cJ p cl a2 gw oA oD oE oP cR aR hR pr sq ab be nw tn th n) (w' := fun u => GW a cI cJ p nu de eq am nx oA oD oE oP cR aR hR cl ad gw pr n ++ [(o0, eJ cJ 1 (ou))]) hP hD hS (hA_ ss) (vx_runSW (As := [.ref (a 0), .int (x0), .ref o0]) (rest := []) C.fix (c_L_minority_bad ll C.hst D a cI cJ _ p nu de eq am nx oA oD oE oP cR aR hR cl ad gw pr n o0 ou x0 hbad) (vx_cwSW 3 C.hts gL_law_L_minority rfl rfl rfl (by decide +kernel) ⟨Nat.le_of_ble_eq_true rfl, Nat.le_of_ble_eq_true rfl⟩) ⟨PY.blind, PY.go hP hK hD hE C.hV C.hDC hS (hA_ ss)⟩ rfl rfl hl.1 rfl (lv_room (Nat.le_of_ble_eq_true rfl)) dL_law_1298 ⟨(by show cells + 1 ≤ 1070; omega), (by show slots + 6 ≤ 8714; omega)⟩) (fun r9 u H locs hr9 hP hD hS => ?_)
  obtain rfl : r9 = 1 := hr9
  refine lv_istore (lv' := [(5, .int 1), (0, .ref b), (1, .ref (a 0)), (2, .ref (bb 0)), (3, .ref o0), (4, .int (nI i))]) hx hb dL_law_1301 hl (by decide) rfl (fun ls hl => ?_)
  refine lv_aload_n hx hb dL_law_1303 rfl (lv_at hl 3 rfl) ?_
  refine ld_arg C hS (k := 1) (lv_at hl 1 rfl) (lv_at hl 5 rfl) (by omega) (by decide) v1 rfl dL_law_1304 dL_law_1305 dL_law_1307 dL_law_1308 dL_law_1309 ?_
  have hP := toMG hP
  have hD := toMGd hD
  refine b_calliP (S := Unit) (wc := MW bb cI cJ p cl a2 gw oA oD oE oP cR aR hR pr sq ab be nw tn th n) (wr := GW a cI cJ p nu de eq am nx oA oD oE oP cR aR hR cl ad gw pr n ++ [(o0, eJ cJ 1 (ou))]) (w' := fun u8 => MW bb cI cJ p cl a2 gw oA oD oE oP cR aR hR pr sq ab be nw tn 1 n) hP hD hS (hA_ ss) (va_runV (As := [.int (x0)]) (rest := []) C.fix (c_X4_minority_bad ll D bb cI cJ _ p cl a2 gw oA oD oE oP cR aR hR pr sq ab be nw tn th n x0 hbad) (cwV 1 C.hts gL_law_X4_minority rfl rfl rfl (by decide +kernel) ⟨Nat.le_of_ble_eq_true rfl, Nat.le_of_ble_eq_true rfl⟩) ⟨PW.blind, va_recv hK hP (ci := 4) (q0 := 0) rfl rfl, PW.goP hP hK hD hE⟩ rfl rfl hl.1 rfl (lv_room (Nat.le_of_ble_eq_true rfl)) dL_law_1310 ⟨(by show cells + 1 + 0 ≤ 1070; omega), (by show slots + 6 + 0 ≤ 8714; omega)⟩) (fun r8 u8 H locs hr8 hP hD hS => ?_)
  obtain rfl : r8 = 0 := hr8
  refine lv_istore (lv' := [(6, .int (0)), (5, .int 1), (0, .ref b), (1, .ref (a 0)), (2, .ref (bb 0)), (3, .ref o0), (4, .int (nI i))]) hx hb dL_law_1313 hl (by decide) rfl (fun ls hl => ?_)
  refine tl_x C hP hl.1 (by decide) (lv_at hl 4 rfl) (lv_at hl 1 rfl) rfl (tg := 1343) (by decide) (by decide) (by decide) dL_law_1315 dL_law_1316 dL_law_1319 dL_law_1321 dL_law_1326 dL_law_1328 dL_law_1343 ?_ ⟨(by omega), (by omega)⟩
  refine W.widen (k := cells + 1) (n := slots + 6) (by omega) (by omega) ?_
  exact kk _ _ _ (toMG hP) (toMGd hD) hS (lv_sub hl [2, 3, 4, 5, 6] rfl)
set_option maxHeartbeats 4000000 in
set_option maxRecDepth 100000 in
theorem kv_close (z : Nat) (hz : z < 12) (hB : okB p) (hW : ¬ dW p 0 = 0) (hq : crS oP aR nu de (mem p 5) 6 = reS oP aR (aF p) (bF p) (grp p) 6)  (C : lwC pp ll ss mm mth cde b L xs D cI cJ) (hi : i + 5 < L) (hcs : cells + 1 ≤ 1070 ∧ slots + 6 ≤ 8714) (hP : va_P D vwCl (LW a bb o0 cI cJ p nu de eq am nx oA oD oE oP cR aR hR cl ad gw pr (nI z) ou p cl a2 gw oA oD oE oP cR aR hR pr sq ab be nw tn th (nI z)) H) (hD : va_D (lwA ss) (LW a bb o0 cI cJ p nu de eq am nx oA oD oE oP cR aR hR cl ad gw pr (nI z) ou p cl a2 gw oA oD oE oP cR aR hR pr sq ab be nw tn th (nI z))) (hS : va_S (lwA ss) ss.heap H locs) (hl : lv_has ls 8 (LOC b a bb o0 i))
    (kk : ∀ (u8 : (Nat → Int64) × (Nat → Int64) × (Nat → Int64)) (H : Heap) (locs : List Loc) (ls : Array Slot), va_P D vwCl (LW a bb o0 cI cJ p nu de eq am nx oA oD (cE oE oP 6) (cP oP 6) cR aR hR cl ad gw (upd pr z (crS oP aR nu de (mem p 5) 6)) (nI (z + 1)) (vp_updL ou 0 (crS oP aR nu de (mem p 5) 6).toInt64) p cl a2 gw oA oD (cE oE oP 6) (cP oP 6) cR aR hR (upd pr z (reS oP aR (aF p) (bF p) (grp p) 6)) (u8.1) (u8.2.1) (u8.2.2) nw tn 0 (nI (z + 1))) H → va_D (lwA ss) (LW a bb o0 cI cJ p nu de eq am nx oA oD (cE oE oP 6) (cP oP 6) cR aR hR cl ad gw (upd pr z (crS oP aR nu de (mem p 5) 6)) (nI (z + 1)) (vp_updL ou 0 (crS oP aR nu de (mem p 5) 6).toInt64) p cl a2 gw oA oD (cE oE oP 6) (cP oP 6) cR aR hR (upd pr z (reS oP aR (aF p) (bF p) (grp p) 6)) (u8.1) (u8.2.1) (u8.2.2) nw tn 0 (nI (z + 1))) → va_S (lwA ss) ss.heap H locs → lv_has ls 8 (LOC b a bb o0 i) → W pp ll ee room_1 ss mm #[Value.ref b] bel mth cde H locs (cells + 1) (slots + 6) Q (F0 mm 1472 ls [])) :
    W pp ll ee room_1 ss mm #[Value.ref b] bel mth cde H locs cells slots Q (F0 mm 1372 ls []) := by
  have hx := C.hx
  have hb := C.hb
  have hK := C.hK
  have hE := C.hE
  refine lv_aload_n hx hb dL_law_1372 rfl (lv_at hl 1 rfl) ?_
  refine lv_aload_n hx hb dL_law_1373 rfl (lv_at hl 3 rfl) ?_
  refine b_calliP (S := Unit) (wc := GW a cI cJ p nu de eq am nx oA oD oE oP cR aR hR cl ad gw pr (nI z) ++ [(o0, eJ cJ 1 ou)]) (wr := MW bb cI cJ p cl a2 gw oA oD oE oP cR aR hR pr sq ab be nw tn th (nI z)) (w' := fun u => GW a cI cJ p nu de eq am nx oA oD (cE oE oP 6) (cP oP 6) cR aR hR cl ad gw (upd pr z (crS oP aR nu de (mem p 5) 6)) (nI (z + 1)) ++ [(o0, eJ cJ 1 (vp_updL ou 0 (crS oP aR nu de (mem p 5) 6).toInt64))]) hP hD hS (hA_ ss) (vx_runSW (As := [.ref (a 0), .ref o0]) (rest := []) C.fix (c_L_close ll D a cI cJ _ p nu de eq am nx oA oD oE oP cR aR hR cl ad gw pr (nI z) o0 ou z hz) (vx_cwSW 2 C.hts gL_law_L_close rfl rfl rfl (by decide +kernel) ⟨Nat.le_of_ble_eq_true rfl, Nat.le_of_ble_eq_true rfl⟩) ⟨PY.blind, PY.go hP hK hD hE C.hV C.hDC hS (hA_ ss)⟩ rfl rfl hl.1 rfl (lv_room (Nat.le_of_ble_eq_true rfl)) dL_law_1374 ⟨(by show cells + 0 ≤ 1070; omega), (by show slots + 0 ≤ 8714; omega)⟩) (fun r9 u H locs hr9 hP hD hS => ?_)
  obtain rfl : r9 = 0 := hr9
  refine lv_istore (lv' := [(5, .int 0), (0, .ref b), (1, .ref (a 0)), (2, .ref (bb 0)), (3, .ref o0), (4, .int (nI i))]) hx hb dL_law_1377 hl (by decide) rfl (fun ls hl => ?_)
  refine lv_aload_n hx hb dL_law_1379 rfl (lv_at hl 3 rfl) ?_
  have hP := toMG hP
  have hD := toMGd hD
  refine b_calliP (S := (Nat → Int64) × (Nat → Int64) × (Nat → Int64)) (wc := MW bb cI cJ p cl a2 gw oA oD oE oP cR aR hR pr sq ab be nw tn th (nI z)) (wr := GW a cI cJ p nu de eq am nx oA oD (cE oE oP 6) (cP oP 6) cR aR hR cl ad gw (upd pr z (crS oP aR nu de (mem p 5) 6)) (nI (z + 1)) ++ [(o0, eJ cJ 1 (vp_updL ou 0 (crS oP aR nu de (mem p 5) 6).toInt64))]) (w' := fun u8 => MW bb cI cJ p cl a2 gw oA oD (cE oE oP 6) (cP oP 6) cR aR hR (upd pr z (reS oP aR (aF p) (bF p) (grp p) 6)) (u8.1) (u8.2.1) (u8.2.2) nw tn 0 (nI (z + 1))) hP hD hS (hA_ ss) (va_runV (As := []) (rest := []) C.fix (c_X4_close ll D bb cI cJ _ p cl a2 gw oA oD oE oP cR aR hR pr sq ab be nw tn th (nI z) z hz hB hW) (cwV 0 C.hts gL_law_X4_close rfl rfl rfl (by decide +kernel) ⟨Nat.le_of_ble_eq_true rfl, Nat.le_of_ble_eq_true rfl⟩) ⟨PW.blind, va_recv hK hP (ci := 4) (q0 := 0) rfl rfl, PW.goP hP hK hD hE⟩ rfl rfl hl.1 rfl (lv_room (Nat.le_of_ble_eq_true rfl)) dL_law_1380 ⟨(by show cells + 0 + 0 ≤ 1070; omega), (by show slots + 0 + 0 ≤ 8714; omega)⟩) (fun r8 u8 H locs hr8 hP hD hS => ?_)
  obtain rfl : r8 = reS oP aR (aF p) (bF p) (grp p) 6 := hr8
  refine lv_istore (lv' := [(6, .int (reS oP aR (aF p) (bF p) (grp p) 6)), (5, .int 0), (0, .ref b), (1, .ref (a 0)), (2, .ref (bb 0)), (3, .ref o0), (4, .int (nI i))]) hx hb dL_law_1383 hl (by decide) rfl (fun ls hl => ?_)
  refine tl_i C hP rfl hS hl.1 (lv_at hl 4 rfl) (lv_at hl 5 rfl) (lv_at hl 1 rfl) (lv_at hl 0 rfl) ((if_pos rfl).trans (congrArg Int32.toInt64 hq)) rfl rfl (by decide) (by decide) (by decide) (by decide) dL_law_1385 dL_law_1386 dL_law_1389 dL_law_1391 dL_law_1396 dL_law_1398 dL_law_1401 dL_law_1402 dL_law_1403 dL_law_1404 dL_law_1406 dL_law_1407 dL_law_1408 dL_law_1413 ?_ ⟨(by omega), (by omega)⟩
  refine W.widen (k := cells + 1) (n := slots + 6) (by omega) (by omega) ?_
  exact kk u8 _ _ _ (toMG hP) (toMGd hD) hS (lv_sub hl [2, 3, 4, 5, 6] rfl)
set_option maxHeartbeats 4000000 in
set_option maxRecDepth 100000 in
theorem kv_close_bad     (C : lwC pp ll ss mm mth cde b L xs D cI cJ) (hi : i + 5 < L) (hcs : cells + 1 ≤ 1070 ∧ slots + 6 ≤ 8714) (hP : va_P D vwCl (LW a bb o0 cI cJ p nu de eq am nx oA oD oE oP cR aR hR cl ad gw pr (nI 12) ou p cl a2 gw oA oD oE oP cR aR hR pr sq ab be nw tn th (nI 12)) H) (hD : va_D (lwA ss) (LW a bb o0 cI cJ p nu de eq am nx oA oD oE oP cR aR hR cl ad gw pr (nI 12) ou p cl a2 gw oA oD oE oP cR aR hR pr sq ab be nw tn th (nI 12))) (hS : va_S (lwA ss) ss.heap H locs) (hl : lv_has ls 8 (LOC b a bb o0 i))
    (kk : ∀  (H : Heap) (locs : List Loc) (ls : Array Slot), va_P D vwCl (LW a bb o0 cI cJ p nu de eq am nx oA oD oE oP cR aR hR cl ad gw pr (nI 12) ou p cl a2 gw oA oD oE oP cR aR hR pr sq ab be nw tn 1 (nI 12)) H → va_D (lwA ss) (LW a bb o0 cI cJ p nu de eq am nx oA oD oE oP cR aR hR cl ad gw pr (nI 12) ou p cl a2 gw oA oD oE oP cR aR hR pr sq ab be nw tn 1 (nI 12)) → va_S (lwA ss) ss.heap H locs → lv_has ls 8 (LOC b a bb o0 i) → W pp ll ee room_1 ss mm #[Value.ref b] bel mth cde H locs (cells + 1) (slots + 6) Q (F0 mm 1472 ls [])) :
    W pp ll ee room_1 ss mm #[Value.ref b] bel mth cde H locs cells slots Q (F0 mm 1372 ls []) := by
  have hx := C.hx
  have hb := C.hb
  have hK := C.hK
  have hE := C.hE
  refine lv_aload_n hx hb dL_law_1372 rfl (lv_at hl 1 rfl) ?_
  refine lv_aload_n hx hb dL_law_1373 rfl (lv_at hl 3 rfl) ?_
  refine b_calliP (S := Unit) (wc := GW a cI cJ p nu de eq am nx oA oD oE oP cR aR hR cl ad gw pr (nI 12) ++ [(o0, eJ cJ 1 ou)]) (wr := MW bb cI cJ p cl a2 gw oA oD oE oP cR aR hR pr sq ab be nw tn th (nI 12)) (w' := fun u => GW a cI cJ p nu de eq am nx oA oD oE oP cR aR hR cl ad gw pr (nI 12) ++ [(o0, eJ cJ 1 (ou))]) hP hD hS (hA_ ss) (vx_runSW (As := [.ref (a 0), .ref o0]) (rest := []) C.fix (c_L_close_bad ll C.hst D a cI cJ _ p nu de eq am nx oA oD oE oP cR aR hR cl ad gw pr (nI 12) o0 ou ) (vx_cwSW 2 C.hts gL_law_L_close rfl rfl rfl (by decide +kernel) ⟨Nat.le_of_ble_eq_true rfl, Nat.le_of_ble_eq_true rfl⟩) ⟨PY.blind, PY.go hP hK hD hE C.hV C.hDC hS (hA_ ss)⟩ rfl rfl hl.1 rfl (lv_room (Nat.le_of_ble_eq_true rfl)) dL_law_1374 ⟨(by show cells + 1 ≤ 1070; omega), (by show slots + 6 ≤ 8714; omega)⟩) (fun r9 u H locs hr9 hP hD hS => ?_)
  obtain rfl : r9 = 1 := hr9
  refine lv_istore (lv' := [(5, .int 1), (0, .ref b), (1, .ref (a 0)), (2, .ref (bb 0)), (3, .ref o0), (4, .int (nI i))]) hx hb dL_law_1377 hl (by decide) rfl (fun ls hl => ?_)
  refine lv_aload_n hx hb dL_law_1379 rfl (lv_at hl 3 rfl) ?_
  have hP := toMG hP
  have hD := toMGd hD
  refine b_calliP (S := Unit) (wc := MW bb cI cJ p cl a2 gw oA oD oE oP cR aR hR pr sq ab be nw tn th (nI 12)) (wr := GW a cI cJ p nu de eq am nx oA oD oE oP cR aR hR cl ad gw pr (nI 12) ++ [(o0, eJ cJ 1 (ou))]) (w' := fun u8 => MW bb cI cJ p cl a2 gw oA oD oE oP cR aR hR pr sq ab be nw tn 1 (nI 12)) hP hD hS (hA_ ss) (va_runV (As := []) (rest := []) C.fix (c_X4_close_bad ll D bb cI cJ _ p cl a2 gw oA oD oE oP cR aR hR pr sq ab be nw tn th (nI 12) ) (cwV 0 C.hts gL_law_X4_close rfl rfl rfl (by decide +kernel) ⟨Nat.le_of_ble_eq_true rfl, Nat.le_of_ble_eq_true rfl⟩) ⟨PW.blind, va_recv hK hP (ci := 4) (q0 := 0) rfl rfl, PW.goP hP hK hD hE⟩ rfl rfl hl.1 rfl (lv_room (Nat.le_of_ble_eq_true rfl)) dL_law_1380 ⟨(by show cells + 1 + 0 ≤ 1070; omega), (by show slots + 6 + 0 ≤ 8714; omega)⟩) (fun r8 u8 H locs hr8 hP hD hS => ?_)
  obtain rfl : r8 = 0 := hr8
  refine lv_istore (lv' := [(6, .int (0)), (5, .int 1), (0, .ref b), (1, .ref (a 0)), (2, .ref (bb 0)), (3, .ref o0), (4, .int (nI i))]) hx hb dL_law_1383 hl (by decide) rfl (fun ls hl => ?_)
  refine tl_x C hP hl.1 (by decide) (lv_at hl 4 rfl) (lv_at hl 1 rfl) rfl (tg := 1413) (by decide) (by decide) (by decide) dL_law_1385 dL_law_1386 dL_law_1389 dL_law_1391 dL_law_1396 dL_law_1398 dL_law_1413 ?_ ⟨(by omega), (by omega)⟩
  refine W.widen (k := cells + 1) (n := slots + 6) (by omega) (by omega) ?_
  exact kk _ _ _ (toMG hP) (toMGd hD) hS (lv_sub hl [2, 3, 4, 5, 6] rfl)
set_option maxHeartbeats 4000000 in
set_option maxRecDepth 100000 in
theorem kv_resultOf (z j : Nat) (hz : z ≤ 12) (hj : j < z) (hqj : inB (nI j) 0 (nI z - 1) = true)  (v1 : xs (i + 1) = nI j) (C : lwC pp ll ss mm mth cde b L xs D cI cJ) (hi : i + 5 < L) (hcs : cells + 1 ≤ 1070 ∧ slots + 6 ≤ 8714) (hP : va_P D vwCl (LW a bb o0 cI cJ p nu de eq am nx oA oD oE oP cR aR hR cl ad gw pr (nI z) ou p cl a2 gw oA oD oE oP cR aR hR pr sq ab be nw tn th (nI z)) H) (hD : va_D (lwA ss) (LW a bb o0 cI cJ p nu de eq am nx oA oD oE oP cR aR hR cl ad gw pr (nI z) ou p cl a2 gw oA oD oE oP cR aR hR pr sq ab be nw tn th (nI z))) (hS : va_S (lwA ss) ss.heap H locs) (hl : lv_has ls 8 (LOC b a bb o0 i))
    (kk : ∀  (H : Heap) (locs : List Loc) (ls : Array Slot), va_P D vwCl (LW a bb o0 cI cJ p nu de eq am nx oA oD oE oP cR aR hR cl ad gw pr (nI z) (vp_updL ou 0 (pr j).toInt64) p cl a2 gw oA oD oE oP cR aR hR pr sq ab be nw tn 0 (nI z)) H → va_D (lwA ss) (LW a bb o0 cI cJ p nu de eq am nx oA oD oE oP cR aR hR cl ad gw pr (nI z) (vp_updL ou 0 (pr j).toInt64) p cl a2 gw oA oD oE oP cR aR hR pr sq ab be nw tn 0 (nI z)) → va_S (lwA ss) ss.heap H locs → lv_has ls 8 (LOC b a bb o0 i) → W pp ll ee room_1 ss mm #[Value.ref b] bel mth cde H locs (cells + 1) (slots + 6) Q (F0 mm 1472 ls [])) :
    W pp ll ee room_1 ss mm #[Value.ref b] bel mth cde H locs cells slots Q (F0 mm 1416 ls []) := by
  have hx := C.hx
  have hb := C.hb
  have hK := C.hK
  have hE := C.hE
  refine lv_aload_n hx hb dL_law_1416 rfl (lv_at hl 1 rfl) ?_
  refine ld_arg C hS (k := 1) (lv_at hl 0 rfl) (lv_at hl 4 rfl) (by omega) (by decide) v1 rfl dL_law_1417 dL_law_1418 dL_law_1420 dL_law_1421 dL_law_1422 ?_
  refine lv_aload_n hx hb dL_law_1423 rfl (lv_at hl 3 rfl) ?_
  refine b_calliP (S := Unit) (wc := GW a cI cJ p nu de eq am nx oA oD oE oP cR aR hR cl ad gw pr (nI z) ++ [(o0, eJ cJ 1 ou)]) (wr := MW bb cI cJ p cl a2 gw oA oD oE oP cR aR hR pr sq ab be nw tn th (nI z)) (w' := fun u => GW a cI cJ p nu de eq am nx oA oD oE oP cR aR hR cl ad gw pr (nI z) ++ [(o0, eJ cJ 1 (vp_updL ou 0 (pr j).toInt64))]) hP hD hS (hA_ ss) (vx_runSW (As := [.ref (a 0), .int (nI j), .ref o0]) (rest := []) C.fix (c_L_resultOf ll D a cI cJ _ p nu de eq am nx oA oD oE oP cR aR hR cl ad gw pr (nI z) o0 ou z j hz hj) (vx_cwSW 3 C.hts gL_law_L_resultOf rfl rfl rfl (by decide +kernel) ⟨Nat.le_of_ble_eq_true rfl, Nat.le_of_ble_eq_true rfl⟩) ⟨PY.blind, PY.go hP hK hD hE C.hV C.hDC hS (hA_ ss)⟩ rfl rfl hl.1 rfl (lv_room (Nat.le_of_ble_eq_true rfl)) dL_law_1424 ⟨(by show cells + 0 ≤ 1070; omega), (by show slots + 0 ≤ 8714; omega)⟩) (fun r9 u H locs hr9 hP hD hS => ?_)
  obtain rfl : r9 = 0 := hr9
  refine lv_istore (lv' := [(5, .int 0), (0, .ref b), (1, .ref (a 0)), (2, .ref (bb 0)), (3, .ref o0), (4, .int (nI i))]) hx hb dL_law_1427 hl (by decide) rfl (fun ls hl => ?_)
  refine lv_aload_n hx hb dL_law_1429 rfl (lv_at hl 3 rfl) ?_
  refine ld_arg C hS (k := 1) (lv_at hl 1 rfl) (lv_at hl 5 rfl) (by omega) (by decide) v1 rfl dL_law_1430 dL_law_1431 dL_law_1433 dL_law_1434 dL_law_1435 ?_
  have hP := toMG hP
  have hD := toMGd hD
  refine b_calliP (S := Unit) (wc := MW bb cI cJ p cl a2 gw oA oD oE oP cR aR hR pr sq ab be nw tn th (nI z)) (wr := GW a cI cJ p nu de eq am nx oA oD oE oP cR aR hR cl ad gw pr (nI z) ++ [(o0, eJ cJ 1 (vp_updL ou 0 (pr j).toInt64))]) (w' := fun u8 => MW bb cI cJ p cl a2 gw oA oD oE oP cR aR hR pr sq ab be nw tn 0 (nI z)) hP hD hS (hA_ ss) (va_runV (As := [.int (nI j)]) (rest := []) C.fix (c_X4_resultOf ll D bb cI cJ _ p cl a2 gw oA oD oE oP cR aR hR pr sq ab be nw tn th (nI z) z j hz hj hqj) (cwV 1 C.hts gL_law_X4_resultOf rfl rfl rfl (by decide +kernel) ⟨Nat.le_of_ble_eq_true rfl, Nat.le_of_ble_eq_true rfl⟩) ⟨PW.blind, va_recv hK hP (ci := 4) (q0 := 0) rfl rfl, PW.goP hP hK hD hE⟩ rfl rfl hl.1 rfl (lv_room (Nat.le_of_ble_eq_true rfl)) dL_law_1436 ⟨(by show cells + 0 + 0 ≤ 1070; omega), (by show slots + 0 + 0 ≤ 8714; omega)⟩) (fun r8 u8 H locs hr8 hP hD hS => ?_)
  obtain rfl : r8 = pr j := hr8
  refine lv_istore (lv' := [(6, .int (pr j)), (5, .int 0), (0, .ref b), (1, .ref (a 0)), (2, .ref (bb 0)), (3, .ref o0), (4, .int (nI i))]) hx hb dL_law_1439 hl (by decide) rfl (fun ls hl => ?_)
  refine tl_i C hP rfl hS hl.1 (lv_at hl 4 rfl) (lv_at hl 5 rfl) (lv_at hl 1 rfl) (lv_at hl 0 rfl) (if_pos rfl) rfl rfl (by decide) (by decide) (by decide) (by decide) dL_law_1441 dL_law_1442 dL_law_1445 dL_law_1447 dL_law_1452 dL_law_1454 dL_law_1457 dL_law_1458 dL_law_1459 dL_law_1460 dL_law_1462 dL_law_1463 dL_law_1464 dL_law_1469 ?_ ⟨(by omega), (by omega)⟩
  refine W.widen (k := cells + 1) (n := slots + 6) (by omega) (by omega) ?_
  exact kk _ _ _ (toMG hP) (toMGd hD) hS (lv_sub hl [2, 3, 4, 5, 6] rfl)
set_option maxHeartbeats 4000000 in
set_option maxRecDepth 100000 in
theorem kv_resultOf_bad (z : Nat) (x0 : Int32) (hz : z ≤ 12) (hbad : ¬ inB x0 0 (nI z - 1) = true)  (v1 : xs (i + 1) = x0) (C : lwC pp ll ss mm mth cde b L xs D cI cJ) (hi : i + 5 < L) (hcs : cells + 1 ≤ 1070 ∧ slots + 6 ≤ 8714) (hP : va_P D vwCl (LW a bb o0 cI cJ p nu de eq am nx oA oD oE oP cR aR hR cl ad gw pr (nI z) ou p cl a2 gw oA oD oE oP cR aR hR pr sq ab be nw tn th (nI z)) H) (hD : va_D (lwA ss) (LW a bb o0 cI cJ p nu de eq am nx oA oD oE oP cR aR hR cl ad gw pr (nI z) ou p cl a2 gw oA oD oE oP cR aR hR pr sq ab be nw tn th (nI z))) (hS : va_S (lwA ss) ss.heap H locs) (hl : lv_has ls 8 (LOC b a bb o0 i))
    (kk : ∀  (H : Heap) (locs : List Loc) (ls : Array Slot), va_P D vwCl (LW a bb o0 cI cJ p nu de eq am nx oA oD oE oP cR aR hR cl ad gw pr (nI z) ou p cl a2 gw oA oD oE oP cR aR hR pr sq ab be nw tn 1 (nI z)) H → va_D (lwA ss) (LW a bb o0 cI cJ p nu de eq am nx oA oD oE oP cR aR hR cl ad gw pr (nI z) ou p cl a2 gw oA oD oE oP cR aR hR pr sq ab be nw tn 1 (nI z)) → va_S (lwA ss) ss.heap H locs → lv_has ls 8 (LOC b a bb o0 i) → W pp ll ee room_1 ss mm #[Value.ref b] bel mth cde H locs (cells + 1) (slots + 6) Q (F0 mm 1472 ls [])) :
    W pp ll ee room_1 ss mm #[Value.ref b] bel mth cde H locs cells slots Q (F0 mm 1416 ls []) := by
  have hx := C.hx
  have hb := C.hb
  have hK := C.hK
  have hE := C.hE
  refine lv_aload_n hx hb dL_law_1416 rfl (lv_at hl 1 rfl) ?_
  refine ld_arg C hS (k := 1) (lv_at hl 0 rfl) (lv_at hl 4 rfl) (by omega) (by decide) v1 rfl dL_law_1417 dL_law_1418 dL_law_1420 dL_law_1421 dL_law_1422 ?_
  refine lv_aload_n hx hb dL_law_1423 rfl (lv_at hl 3 rfl) ?_
  refine b_calliP (S := Unit) (wc := GW a cI cJ p nu de eq am nx oA oD oE oP cR aR hR cl ad gw pr (nI z) ++ [(o0, eJ cJ 1 ou)]) (wr := MW bb cI cJ p cl a2 gw oA oD oE oP cR aR hR pr sq ab be nw tn th (nI z)) (w' := fun u => GW a cI cJ p nu de eq am nx oA oD oE oP cR aR hR cl ad gw pr (nI z) ++ [(o0, eJ cJ 1 (ou))]) hP hD hS (hA_ ss) (vx_runSW (As := [.ref (a 0), .int (x0), .ref o0]) (rest := []) C.fix (c_L_resultOf_bad ll C.hst D a cI cJ _ p nu de eq am nx oA oD oE oP cR aR hR cl ad gw pr (nI z) o0 ou z x0 hz hbad) (vx_cwSW 3 C.hts gL_law_L_resultOf rfl rfl rfl (by decide +kernel) ⟨Nat.le_of_ble_eq_true rfl, Nat.le_of_ble_eq_true rfl⟩) ⟨PY.blind, PY.go hP hK hD hE C.hV C.hDC hS (hA_ ss)⟩ rfl rfl hl.1 rfl (lv_room (Nat.le_of_ble_eq_true rfl)) dL_law_1424 ⟨(by show cells + 1 ≤ 1070; omega), (by show slots + 6 ≤ 8714; omega)⟩) (fun r9 u H locs hr9 hP hD hS => ?_)
  obtain rfl : r9 = 1 := hr9
  refine lv_istore (lv' := [(5, .int 1), (0, .ref b), (1, .ref (a 0)), (2, .ref (bb 0)), (3, .ref o0), (4, .int (nI i))]) hx hb dL_law_1427 hl (by decide) rfl (fun ls hl => ?_)
  refine lv_aload_n hx hb dL_law_1429 rfl (lv_at hl 3 rfl) ?_
  refine ld_arg C hS (k := 1) (lv_at hl 1 rfl) (lv_at hl 5 rfl) (by omega) (by decide) v1 rfl dL_law_1430 dL_law_1431 dL_law_1433 dL_law_1434 dL_law_1435 ?_
  have hP := toMG hP
  have hD := toMGd hD
  refine b_calliP (S := Unit) (wc := MW bb cI cJ p cl a2 gw oA oD oE oP cR aR hR pr sq ab be nw tn th (nI z)) (wr := GW a cI cJ p nu de eq am nx oA oD oE oP cR aR hR cl ad gw pr (nI z) ++ [(o0, eJ cJ 1 (ou))]) (w' := fun u8 => MW bb cI cJ p cl a2 gw oA oD oE oP cR aR hR pr sq ab be nw tn 1 (nI z)) hP hD hS (hA_ ss) (va_runV (As := [.int (x0)]) (rest := []) C.fix (c_X4_resultOf_bad ll D bb cI cJ _ p cl a2 gw oA oD oE oP cR aR hR pr sq ab be nw tn th (nI z) z x0 hbad) (cwV 1 C.hts gL_law_X4_resultOf rfl rfl rfl (by decide +kernel) ⟨Nat.le_of_ble_eq_true rfl, Nat.le_of_ble_eq_true rfl⟩) ⟨PW.blind, va_recv hK hP (ci := 4) (q0 := 0) rfl rfl, PW.goP hP hK hD hE⟩ rfl rfl hl.1 rfl (lv_room (Nat.le_of_ble_eq_true rfl)) dL_law_1436 ⟨(by show cells + 1 + 0 ≤ 1070; omega), (by show slots + 6 + 0 ≤ 8714; omega)⟩) (fun r8 u8 H locs hr8 hP hD hS => ?_)
  obtain rfl : r8 = 0 := hr8
  refine lv_istore (lv' := [(6, .int (0)), (5, .int 1), (0, .ref b), (1, .ref (a 0)), (2, .ref (bb 0)), (3, .ref o0), (4, .int (nI i))]) hx hb dL_law_1439 hl (by decide) rfl (fun ls hl => ?_)
  refine tl_x C hP hl.1 (by decide) (lv_at hl 4 rfl) (lv_at hl 1 rfl) rfl (tg := 1469) (by decide) (by decide) (by decide) dL_law_1441 dL_law_1442 dL_law_1445 dL_law_1447 dL_law_1452 dL_law_1454 dL_law_1469 ?_ ⟨(by omega), (by omega)⟩
  refine W.widen (k := cells + 1) (n := slots + 6) (by omega) (by omega) ?_
  exact kk _ _ _ (toMG hP) (toMGd hD) hS (lv_sub hl [2, 3, 4, 5, 6] rfl)
end KV
