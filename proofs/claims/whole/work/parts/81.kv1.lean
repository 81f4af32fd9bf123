section KV
variable {pp : Program} {ll : Launch} {ee : Env} {ss : State} {mm : MethodId} {bel : List Frame} {mth : Method} {cde : Code} {H : Heap} {locs : List Loc} {cells slots : Nat} {Q : State → Prop} {ls : Array Slot}
variable {b L i : Nat} {xs : Nat → Int32} {D : va_G} {cI cJ : ClassId} {a bb : Nat → Nat} {o0 : Nat}
variable {p : Nat → Int32} {nu de eq : Nat → Int64} {am nx oA oD oE oP cR aR hR cl ad gw pr a2 : Nat → Int32} {n : Int32} {ou sq ab be : Nat → Int64} {nw tn : Nat → Int32} {th : Int32}

set_option maxHeartbeats 4000000 in
set_option maxRecDepth 100000 in
theorem kv_hold (o c : Nat) (x : Int32) (ho : o < 6) (hc : c < 6) (hpr : prB (nI o) (nI c) = true) (hqx : inB x 0 100 = true) (htk : tkOK p eq o c x) (hs : smH p o c x ≤ 100) (hB : okB (upd p (6 * o + c) x)) (hW : ¬ dW (upd p (6 * o + c) x) 0 = 0)  (v1 : xs (i + 1) = nI o) (v2 : xs (i + 2) = nI c) (v3 : xs (i + 3) = x) (C : lwC pp ll ss mm mth cde b L xs D cI cJ) (hi : i + 5 < L) (hcs : cells + 1 ≤ 1070 ∧ slots + 6 ≤ 8714) (hP : va_P D vwCl (LW a bb o0 cI cJ p nu de eq am nx oA oD oE oP cR aR hR cl ad gw pr n ou p cl a2 gw oA oD oE oP cR aR hR pr sq ab be nw tn th n) H) (hD : va_D (lwA ss) (LW a bb o0 cI cJ p nu de eq am nx oA oD oE oP cR aR hR cl ad gw pr n ou p cl a2 gw oA oD oE oP cR aR hR pr sq ab be nw tn th n)) (hS : va_S (lwA ss) ss.heap H locs) (hl : lv_has ls 8 (LOC b a bb o0 i))
    (kk : ∀ (u : Nat → Int64) (u8 : (Nat → Int64) × (Nat → Int64) × (Nat → Int64)) (H : Heap) (locs : List Loc) (ls : Array Slot), va_P D vwCl (LW a bb o0 cI cJ (upd p (6 * o + c) x) (ksN (ds (weO (upd p (6 * o + c) x) eq 5) 5).1 (ds (weO (upd p (6 * o + c) x) eq 5) 5).2 nu 5) (ksD (ds (weO (upd p (6 * o + c) x) eq 5) 5).1 (ds (weO (upd p (6 * o + c) x) eq 5) 5).2 de 5) u am nx oA oD oE oP cR aR hR cl ad gw pr n (vp_updL ou 0 (p (6 * o + c)).toInt64) (upd p (6 * o + c) x) cl a2 gw oA oD oE oP cR aR hR pr (u8.1) (u8.2.1) (u8.2.2) nw tn 0 n) H → va_D (lwA ss) (LW a bb o0 cI cJ (upd p (6 * o + c) x) (ksN (ds (weO (upd p (6 * o + c) x) eq 5) 5).1 (ds (weO (upd p (6 * o + c) x) eq 5) 5).2 nu 5) (ksD (ds (weO (upd p (6 * o + c) x) eq 5) 5).1 (ds (weO (upd p (6 * o + c) x) eq 5) 5).2 de 5) u am nx oA oD oE oP cR aR hR cl ad gw pr n (vp_updL ou 0 (p (6 * o + c)).toInt64) (upd p (6 * o + c) x) cl a2 gw oA oD oE oP cR aR hR pr (u8.1) (u8.2.1) (u8.2.2) nw tn 0 n) → va_S (lwA ss) ss.heap H locs → lv_has ls 8 (LOC b a bb o0 i) → W pp ll ee room_1 ss mm #[Value.ref b] bel mth cde H locs (cells + 1) (slots + 6) Q (F0 mm 1472 ls [])) :
    W pp ll ee room_1 ss mm #[Value.ref b] bel mth cde H locs cells slots Q (F0 mm 156 ls []) := by
  have hx := C.hx
  have hb := C.hb
  have hK := C.hK
  have hE := C.hE
  refine lv_aload_n hx hb dL_law_156 rfl (lv_at hl 1 rfl) ?_
  refine ld_arg C hS (k := 1) (lv_at hl 0 rfl) (lv_at hl 4 rfl) (by omega) (by decide) v1 rfl dL_law_157 dL_law_158 dL_law_160 dL_law_161 dL_law_162 ?_
  refine ld_arg C hS (k := 2) (lv_at hl 0 rfl) (lv_at hl 4 rfl) (by omega) (by decide) v2 rfl dL_law_163 dL_law_164 dL_law_166 dL_law_167 dL_law_168 ?_
  refine ld_arg C hS (k := 3) (lv_at hl 0 rfl) (lv_at hl 4 rfl) (by omega) (by decide) v3 rfl dL_law_169 dL_law_170 dL_law_172 dL_law_173 dL_law_174 ?_
  refine lv_aload_n hx hb dL_law_175 rfl (lv_at hl 3 rfl) ?_
  refine b_calliP (S := Nat → Int64) (wc := GW a cI cJ p nu de eq am nx oA oD oE oP cR aR hR cl ad gw pr n ++ [(o0, eJ cJ 1 ou)]) (wr := MW bb cI cJ p cl a2 gw oA oD oE oP cR aR hR pr sq ab be nw tn th n) (w' := fun u => GW a cI cJ (upd p (6 * o + c) x) (ksN (ds (weO (upd p (6 * o + c) x) eq 5) 5).1 (ds (weO (upd p (6 * o + c) x) eq 5) 5).2 nu 5) (ksD (ds (weO (upd p (6 * o + c) x) eq 5) 5).1 (ds (weO (upd p (6 * o + c) x) eq 5) 5).2 de 5) u am nx oA oD oE oP cR aR hR cl ad gw pr n ++ [(o0, eJ cJ 1 (vp_updL ou 0 (p (6 * o + c)).toInt64))]) hP hD hS (hA_ ss) (vx_runSW (As := [.ref (a 0), .int (nI o), .int (nI c), .int (x), .ref o0]) (rest := []) C.fix (c_L_hold ll D a cI cJ _ p nu de eq am nx oA oD oE oP cR aR hR cl ad gw pr n o0 ou o c x ho hc hpr hqx htk) (vx_cwSW 5 C.hts gL_law_L_hold rfl rfl rfl (by decide +kernel) ⟨Nat.le_of_ble_eq_true rfl, Nat.le_of_ble_eq_true rfl⟩) ⟨PY.blind, PY.go hP hK hD hE C.hV C.hDC hS (hA_ ss)⟩ rfl rfl hl.1 rfl (lv_room (Nat.le_of_ble_eq_true rfl)) dL_law_176 ⟨(by show cells + 0 ≤ 1070; omega), (by show slots + 0 ≤ 8714; omega)⟩) (fun r9 u H locs hr9 hP hD hS => ?_)
  obtain rfl : r9 = 0 := hr9
  refine lv_istore (lv' := [(5, .int 0), (0, .ref b), (1, .ref (a 0)), (2, .ref (bb 0)), (3, .ref o0), (4, .int (nI i))]) hx hb dL_law_179 hl (by decide) rfl (fun ls hl => ?_)
  refine lv_aload_n hx hb dL_law_181 rfl (lv_at hl 3 rfl) ?_
  refine ld_arg C hS (k := 1) (lv_at hl 1 rfl) (lv_at hl 5 rfl) (by omega) (by decide) v1 rfl dL_law_182 dL_law_183 dL_law_185 dL_law_186 dL_law_187 ?_
  refine ld_arg C hS (k := 2) (lv_at hl 1 rfl) (lv_at hl 5 rfl) (by omega) (by decide) v2 rfl dL_law_188 dL_law_189 dL_law_191 dL_law_192 dL_law_193 ?_
  refine ld_arg C hS (k := 3) (lv_at hl 1 rfl) (lv_at hl 5 rfl) (by omega) (by decide) v3 rfl dL_law_194 dL_law_195 dL_law_197 dL_law_198 dL_law_199 ?_
  have hP := toMG hP
  have hD := toMGd hD
  refine b_calliP (S := (Nat → Int64) × (Nat → Int64) × (Nat → Int64)) (wc := MW bb cI cJ p cl a2 gw oA oD oE oP cR aR hR pr sq ab be nw tn th n) (wr := GW a cI cJ (upd p (6 * o + c) x) (ksN (ds (weO (upd p (6 * o + c) x) eq 5) 5).1 (ds (weO (upd p (6 * o + c) x) eq 5) 5).2 nu 5) (ksD (ds (weO (upd p (6 * o + c) x) eq 5) 5).1 (ds (weO (upd p (6 * o + c) x) eq 5) 5).2 de 5) u am nx oA oD oE oP cR aR hR cl ad gw pr n ++ [(o0, eJ cJ 1 (vp_updL ou 0 (p (6 * o + c)).toInt64))]) (w' := fun u8 => MW bb cI cJ (upd p (6 * o + c) x) cl a2 gw oA oD oE oP cR aR hR pr (u8.1) (u8.2.1) (u8.2.2) nw tn 0 n) hP hD hS (hA_ ss) (va_runV (As := [.int (nI o), .int (nI c), .int (x)]) (rest := []) C.fix (c_X4_hold ll D bb cI cJ _ p cl a2 gw oA oD oE oP cR aR hR pr sq ab be nw tn th n o c x ho hc hpr hqx hs hB hW) (cwV 3 C.hts gL_law_X4_hold rfl rfl rfl (by decide +kernel) ⟨Nat.le_of_ble_eq_true rfl, Nat.le_of_ble_eq_true rfl⟩) ⟨PW.blind, va_recv hK hP (ci := 4) (q0 := 0) rfl rfl, PW.goP hP hK hD hE⟩ rfl rfl hl.1 rfl (lv_room (Nat.le_of_ble_eq_true rfl)) dL_law_200 ⟨(by show cells + 0 + 0 ≤ 1070; omega), (by show slots + 0 + 0 ≤ 8714; omega)⟩) (fun r8 u8 H locs hr8 hP hD hS => ?_)
  obtain rfl : r8 = p (6 * o + c) := hr8
  refine lv_istore (lv' := [(6, .int (p (6 * o + c))), (5, .int 0), (0, .ref b), (1, .ref (a 0)), (2, .ref (bb 0)), (3, .ref o0), (4, .int (nI i))]) hx hb dL_law_203 hl (by decide) rfl (fun ls hl => ?_)
  refine tl_i C hP rfl hS hl.1 (lv_at hl 4 rfl) (lv_at hl 5 rfl) (lv_at hl 1 rfl) (lv_at hl 0 rfl) (if_pos rfl) rfl rfl (by decide) (by decide) (by decide) (by decide) dL_law_205 dL_law_206 dL_law_209 dL_law_211 dL_law_216 dL_law_218 dL_law_221 dL_law_222 dL_law_223 dL_law_224 dL_law_226 dL_law_227 dL_law_228 dL_law_233 ?_ ⟨(by omega), (by omega)⟩
  refine W.widen (k := cells + 1) (n := slots + 6) (by omega) (by omega) ?_
  exact kk u u8 _ _ _ (toMG hP) (toMGd hD) hS (lv_sub hl [2, 3, 4, 5, 6] rfl)
set_option maxHeartbeats 4000000 in
set_option maxRecDepth 100000 in
theorem kv_hold_hi (o c : Nat) (x : Int32) (ho : o < 6) (hc : c < 6) (hpr : prB (nI o) (nI c) = true) (hqx : inB x 0 100 = true) (htk : ¬ tkOK p eq o c x) (hs : ¬ smH p o c x ≤ 100)  (v1 : xs (i + 1) = nI o) (v2 : xs (i + 2) = nI c) (v3 : xs (i + 3) = x) (C : lwC pp ll ss mm mth cde b L xs D cI cJ) (hi : i + 5 < L) (hcs : cells + 1 ≤ 1070 ∧ slots + 6 ≤ 8714) (hP : va_P D vwCl (LW a bb o0 cI cJ p nu de eq am nx oA oD oE oP cR aR hR cl ad gw pr n ou p cl a2 gw oA oD oE oP cR aR hR pr sq ab be nw tn th n) H) (hD : va_D (lwA ss) (LW a bb o0 cI cJ p nu de eq am nx oA oD oE oP cR aR hR cl ad gw pr n ou p cl a2 gw oA oD oE oP cR aR hR pr sq ab be nw tn th n)) (hS : va_S (lwA ss) ss.heap H locs) (hl : lv_has ls 8 (LOC b a bb o0 i))
    (kk : ∀ (u : Nat → Int64) (H : Heap) (locs : List Loc) (ls : Array Slot), va_P D vwCl (LW a bb o0 cI cJ p nu de u am nx oA oD oE oP cR aR hR cl ad gw pr n ou p cl a2 gw oA oD oE oP cR aR hR pr sq ab be nw tn 2 n) H → va_D (lwA ss) (LW a bb o0 cI cJ p nu de u am nx oA oD oE oP cR aR hR cl ad gw pr n ou p cl a2 gw oA oD oE oP cR aR hR pr sq ab be nw tn 2 n) → va_S (lwA ss) ss.heap H locs → lv_has ls 8 (LOC b a bb o0 i) → W pp ll ee room_1 ss mm #[Value.ref b] bel mth cde H locs (cells + 1) (slots + 6) Q (F0 mm 1472 ls [])) :
    W pp ll ee room_1 ss mm #[Value.ref b] bel mth cde H locs cells slots Q (F0 mm 156 ls []) := by
  have hx := C.hx
  have hb := C.hb
  have hK := C.hK
  have hE := C.hE
  refine lv_aload_n hx hb dL_law_156 rfl (lv_at hl 1 rfl) ?_
  refine ld_arg C hS (k := 1) (lv_at hl 0 rfl) (lv_at hl 4 rfl) (by omega) (by decide) v1 rfl dL_law_157 dL_law_158 dL_law_160 dL_law_161 dL_law_162 ?_
  refine ld_arg C hS (k := 2) (lv_at hl 0 rfl) (lv_at hl 4 rfl) (by omega) (by decide) v2 rfl dL_law_163 dL_law_164 dL_law_166 dL_law_167 dL_law_168 ?_
  refine ld_arg C hS (k := 3) (lv_at hl 0 rfl) (lv_at hl 4 rfl) (by omega) (by decide) v3 rfl dL_law_169 dL_law_170 dL_law_172 dL_law_173 dL_law_174 ?_
  refine lv_aload_n hx hb dL_law_175 rfl (lv_at hl 3 rfl) ?_
  refine b_calliP (S := Nat → Int64) (wc := GW a cI cJ p nu de eq am nx oA oD oE oP cR aR hR cl ad gw pr n ++ [(o0, eJ cJ 1 ou)]) (wr := MW bb cI cJ p cl a2 gw oA oD oE oP cR aR hR pr sq ab be nw tn th n) (w' := fun u => GW a cI cJ p nu de u am nx oA oD oE oP cR aR hR cl ad gw pr n ++ [(o0, eJ cJ 1 (ou))]) hP hD hS (hA_ ss) (vx_runSW (As := [.ref (a 0), .int (nI o), .int (nI c), .int (x), .ref o0]) (rest := []) C.fix (c_L_hold_no ll C.hst D a cI cJ _ p nu de eq am nx oA oD oE oP cR aR hR cl ad gw pr n o0 ou o c x ho hc hpr hqx htk) (vx_cwSW 5 C.hts gL_law_L_hold rfl rfl rfl (by decide +kernel) ⟨Nat.le_of_ble_eq_true rfl, Nat.le_of_ble_eq_true rfl⟩) ⟨PY.bl2, PY.go2 hP hK hD hE C.hV C.hDC C.hNc hS (hA_ ss)⟩ rfl rfl hl.1 rfl (lv_room (Nat.le_of_ble_eq_true rfl)) dL_law_176 ⟨(by show cells + 1 ≤ 1070; omega), (by show slots + 6 ≤ 8714; omega)⟩) (fun r9 u H locs hr9 hP hD hS => ?_)
  obtain rfl : r9 = 2 := hr9
  refine lv_istore (lv' := [(5, .int 2), (0, .ref b), (1, .ref (a 0)), (2, .ref (bb 0)), (3, .ref o0), (4, .int (nI i))]) hx hb dL_law_179 hl (by decide) rfl (fun ls hl => ?_)
  refine lv_aload_n hx hb dL_law_181 rfl (lv_at hl 3 rfl) ?_
  refine ld_arg C hS (k := 1) (lv_at hl 1 rfl) (lv_at hl 5 rfl) (by omega) (by decide) v1 rfl dL_law_182 dL_law_183 dL_law_185 dL_law_186 dL_law_187 ?_
  refine ld_arg C hS (k := 2) (lv_at hl 1 rfl) (lv_at hl 5 rfl) (by omega) (by decide) v2 rfl dL_law_188 dL_law_189 dL_law_191 dL_law_192 dL_law_193 ?_
  refine ld_arg C hS (k := 3) (lv_at hl 1 rfl) (lv_at hl 5 rfl) (by omega) (by decide) v3 rfl dL_law_194 dL_law_195 dL_law_197 dL_law_198 dL_law_199 ?_
  have hP := toMG hP
  have hD := toMGd hD
  refine b_calliP (S := Unit) (wc := MW bb cI cJ p cl a2 gw oA oD oE oP cR aR hR pr sq ab be nw tn th n) (wr := GW a cI cJ p nu de u am nx oA oD oE oP cR aR hR cl ad gw pr n ++ [(o0, eJ cJ 1 (ou))]) (w' := fun u8 => MW bb cI cJ p cl a2 gw oA oD oE oP cR aR hR pr sq ab be nw tn 2 n) hP hD hS (hA_ ss) (va_runV (As := [.int (nI o), .int (nI c), .int (x)]) (rest := []) C.fix (c_X4_hold_hi ll D bb cI cJ _ p cl a2 gw oA oD oE oP cR aR hR pr sq ab be nw tn th n o c x ho hc hpr hqx hs) (cwV 3 C.hts gL_law_X4_hold rfl rfl rfl (by decide +kernel) ⟨Nat.le_of_ble_eq_true rfl, Nat.le_of_ble_eq_true rfl⟩) ⟨PW.blind, va_recv hK hP (ci := 4) (q0 := 0) rfl rfl, PW.goP hP hK hD hE⟩ rfl rfl hl.1 rfl (lv_room (Nat.le_of_ble_eq_true rfl)) dL_law_200 ⟨(by show cells + 1 + 0 ≤ 1070; omega), (by show slots + 6 + 0 ≤ 8714; omega)⟩) (fun r8 u8 H locs hr8 hP hD hS => ?_)
  obtain rfl : r8 = 0 := hr8
  refine lv_istore (lv' := [(6, .int (0)), (5, .int 2), (0, .ref b), (1, .ref (a 0)), (2, .ref (bb 0)), (3, .ref o0), (4, .int (nI i))]) hx hb dL_law_203 hl (by decide) rfl (fun ls hl => ?_)
  refine tl_x C hP hl.1 (by decide) (lv_at hl 4 rfl) (lv_at hl 1 rfl) rfl (tg := 233) (by decide) (by decide) (by decide) dL_law_205 dL_law_206 dL_law_209 dL_law_211 dL_law_216 dL_law_218 dL_law_233 ?_ ⟨(by omega), (by omega)⟩
  refine W.widen (k := cells + 1) (n := slots + 6) (by omega) (by omega) ?_
  exact kk u _ _ _ (toMG hP) (toMGd hD) hS (lv_sub hl [2, 3, 4, 5, 6] rfl)
set_option maxHeartbeats 4000000 in
set_option maxRecDepth 100000 in
theorem kv_hold_no (o c : Nat) (x : Int32) (ho : o < 6) (hc : c < 6) (hpr : prB (nI o) (nI c) = true) (hqx : inB x 0 100 = true) (htk : ¬ tkOK p eq o c x) (hs : smH p o c x ≤ 100) (hW : dW (upd p (6 * o + c) x) 0 = 0)  (v1 : xs (i + 1) = nI o) (v2 : xs (i + 2) = nI c) (v3 : xs (i + 3) = x) (C : lwC pp ll ss mm mth cde b L xs D cI cJ) (hi : i + 5 < L) (hcs : cells + 1 ≤ 1070 ∧ slots + 6 ≤ 8714) (hP : va_P D vwCl (LW a bb o0 cI cJ p nu de eq am nx oA oD oE oP cR aR hR cl ad gw pr n ou p cl a2 gw oA oD oE oP cR aR hR pr sq ab be nw tn th n) H) (hD : va_D (lwA ss) (LW a bb o0 cI cJ p nu de eq am nx oA oD oE oP cR aR hR cl ad gw pr n ou p cl a2 gw oA oD oE oP cR aR hR pr sq ab be nw tn th n)) (hS : va_S (lwA ss) ss.heap H locs) (hl : lv_has ls 8 (LOC b a bb o0 i))
    (kk : ∀ (u : Nat → Int64) (u8 : (Nat → Int64) × (Nat → Int64) × (Nat → Int64)) (H : Heap) (locs : List Loc) (ls : Array Slot), va_P D vwCl (LW a bb o0 cI cJ p nu de u am nx oA oD oE oP cR aR hR cl ad gw pr n ou p cl a2 gw oA oD oE oP cR aR hR pr (u8.1) (u8.2.1) (u8.2.2) nw tn 2 n) H → va_D (lwA ss) (LW a bb o0 cI cJ p nu de u am nx oA oD oE oP cR aR hR cl ad gw pr n ou p cl a2 gw oA oD oE oP cR aR hR pr (u8.1) (u8.2.1) (u8.2.2) nw tn 2 n) → va_S (lwA ss) ss.heap H locs → lv_has ls 8 (LOC b a bb o0 i) → W pp ll ee room_1 ss mm #[Value.ref b] bel mth cde H locs (cells + 1) (slots + 6) Q (F0 mm 1472 ls [])) :
    W pp ll ee room_1 ss mm #[Value.ref b] bel mth cde H locs cells slots Q (F0 mm 156 ls []) := by
  have hx := C.hx
  have hb := C.hb
  have hK := C.hK
  have hE := C.hE
  refine lv_aload_n hx hb dL_law_156 rfl (lv_at hl 1 rfl) ?_
  refine ld_arg C hS (k := 1) (lv_at hl 0 rfl) (lv_at hl 4 rfl) (by omega) (by decide) v1 rfl dL_law_157 dL_law_158 dL_law_160 dL_law_161 dL_law_162 ?_
  refine ld_arg C hS (k := 2) (lv_at hl 0 rfl) (lv_at hl 4 rfl) (by omega) (by decide) v2 rfl dL_law_163 dL_law_164 dL_law_166 dL_law_167 dL_law_168 ?_
  refine ld_arg C hS (k := 3) (lv_at hl 0 rfl) (lv_at hl 4 rfl) (by omega) (by decide) v3 rfl dL_law_169 dL_law_170 dL_law_172 dL_law_173 dL_law_174 ?_
  refine lv_aload_n hx hb dL_law_175 rfl (lv_at hl 3 rfl) ?_
  refine b_calliP (S := Nat → Int64) (wc := GW a cI cJ p nu de eq am nx oA oD oE oP cR aR hR cl ad gw pr n ++ [(o0, eJ cJ 1 ou)]) (wr := MW bb cI cJ p cl a2 gw oA oD oE oP cR aR hR pr sq ab be nw tn th n) (w' := fun u => GW a cI cJ p nu de u am nx oA oD oE oP cR aR hR cl ad gw pr n ++ [(o0, eJ cJ 1 (ou))]) hP hD hS (hA_ ss) (vx_runSW (As := [.ref (a 0), .int (nI o), .int (nI c), .int (x), .ref o0]) (rest := []) C.fix (c_L_hold_no ll C.hst D a cI cJ _ p nu de eq am nx oA oD oE oP cR aR hR cl ad gw pr n o0 ou o c x ho hc hpr hqx htk) (vx_cwSW 5 C.hts gL_law_L_hold rfl rfl rfl (by decide +kernel) ⟨Nat.le_of_ble_eq_true rfl, Nat.le_of_ble_eq_true rfl⟩) ⟨PY.bl2, PY.go2 hP hK hD hE C.hV C.hDC C.hNc hS (hA_ ss)⟩ rfl rfl hl.1 rfl (lv_room (Nat.le_of_ble_eq_true rfl)) dL_law_176 ⟨(by show cells + 1 ≤ 1070; omega), (by show slots + 6 ≤ 8714; omega)⟩) (fun r9 u H locs hr9 hP hD hS => ?_)
  obtain rfl : r9 = 2 := hr9
  refine lv_istore (lv' := [(5, .int 2), (0, .ref b), (1, .ref (a 0)), (2, .ref (bb 0)), (3, .ref o0), (4, .int (nI i))]) hx hb dL_law_179 hl (by decide) rfl (fun ls hl => ?_)
  refine lv_aload_n hx hb dL_law_181 rfl (lv_at hl 3 rfl) ?_
  refine ld_arg C hS (k := 1) (lv_at hl 1 rfl) (lv_at hl 5 rfl) (by omega) (by decide) v1 rfl dL_law_182 dL_law_183 dL_law_185 dL_law_186 dL_law_187 ?_
  refine ld_arg C hS (k := 2) (lv_at hl 1 rfl) (lv_at hl 5 rfl) (by omega) (by decide) v2 rfl dL_law_188 dL_law_189 dL_law_191 dL_law_192 dL_law_193 ?_
  refine ld_arg C hS (k := 3) (lv_at hl 1 rfl) (lv_at hl 5 rfl) (by omega) (by decide) v3 rfl dL_law_194 dL_law_195 dL_law_197 dL_law_198 dL_law_199 ?_
  have hP := toMG hP
  have hD := toMGd hD
  refine b_calliP (S := (Nat → Int64) × (Nat → Int64) × (Nat → Int64)) (wc := MW bb cI cJ p cl a2 gw oA oD oE oP cR aR hR pr sq ab be nw tn th n) (wr := GW a cI cJ p nu de u am nx oA oD oE oP cR aR hR cl ad gw pr n ++ [(o0, eJ cJ 1 (ou))]) (w' := fun u8 => MW bb cI cJ p cl a2 gw oA oD oE oP cR aR hR pr (u8.1) (u8.2.1) (u8.2.2) nw tn 2 n) hP hD hS (hA_ ss) (va_runV (As := [.int (nI o), .int (nI c), .int (x)]) (rest := []) C.fix (c_X4_hold_no ll D bb cI cJ _ p cl a2 gw oA oD oE oP cR aR hR pr sq ab be nw tn th n o c x ho hc hpr hqx hs hW) (cwV 3 C.hts gL_law_X4_hold rfl rfl rfl (by decide +kernel) ⟨Nat.le_of_ble_eq_true rfl, Nat.le_of_ble_eq_true rfl⟩) ⟨PW.blind, va_recv hK hP (ci := 4) (q0 := 0) rfl rfl, PW.goP hP hK hD hE⟩ rfl rfl hl.1 rfl (lv_room (Nat.le_of_ble_eq_true rfl)) dL_law_200 ⟨(by show cells + 1 + 0 ≤ 1070; omega), (by show slots + 6 + 0 ≤ 8714; omega)⟩) (fun r8 u8 H locs hr8 hP hD hS => ?_)
  obtain rfl : r8 = 0 := hr8
  refine lv_istore (lv' := [(6, .int (0)), (5, .int 2), (0, .ref b), (1, .ref (a 0)), (2, .ref (bb 0)), (3, .ref o0), (4, .int (nI i))]) hx hb dL_law_203 hl (by decide) rfl (fun ls hl => ?_)
  refine tl_x C hP hl.1 (by decide) (lv_at hl 4 rfl) (lv_at hl 1 rfl) rfl (tg := 233) (by decide) (by decide) (by decide) dL_law_205 dL_law_206 dL_law_209 dL_law_211 dL_law_216 dL_law_218 dL_law_233 ?_ ⟨(by omega), (by omega)⟩
  refine W.widen (k := cells + 1) (n := slots + 6) (by omega) (by omega) ?_
  exact kk u u8 _ _ _ (toMG hP) (toMGd hD) hS (lv_sub hl [2, 3, 4, 5, 6] rfl)
set_option maxHeartbeats 4000000 in
set_option maxRecDepth 100000 in
theorem kv_hold_bad (x0 x1 x : Int32) (hbad : ¬ (prB x0 x1 = true ∧ inB x 0 100 = true))  (v1 : xs (i + 1) = x0) (v2 : xs (i + 2) = x1) (v3 : xs (i + 3) = x) (C : lwC pp ll ss mm mth cde b L xs D cI cJ) (hi : i + 5 < L) (hcs : cells + 1 ≤ 1070 ∧ slots + 6 ≤ 8714) (hP : va_P D vwCl (LW a bb o0 cI cJ p nu de eq am nx oA oD oE oP cR aR hR cl ad gw pr n ou p cl a2 gw oA oD oE oP cR aR hR pr sq ab be nw tn th n) H) (hD : va_D (lwA ss) (LW a bb o0 cI cJ p nu de eq am nx oA oD oE oP cR aR hR cl ad gw pr n ou p cl a2 gw oA oD oE oP cR aR hR pr sq ab be nw tn th n)) (hS : va_S (lwA ss) ss.heap H locs) (hl : lv_has ls 8 (LOC b a bb o0 i))
    (kk : ∀  (H : Heap) (locs : List Loc) (ls : Array Slot), va_P D vwCl (LW a bb o0 cI cJ p nu de eq am nx oA oD oE oP cR aR hR cl ad gw pr n ou p cl a2 gw oA oD oE oP cR aR hR pr sq ab be nw tn 1 n) H → va_D (lwA ss) (LW a bb o0 cI cJ p nu de eq am nx oA oD oE oP cR aR hR cl ad gw pr n ou p cl a2 gw oA oD oE oP cR aR hR pr sq ab be nw tn 1 n) → va_S (lwA ss) ss.heap H locs → lv_has ls 8 (LOC b a bb o0 i) → W pp ll ee room_1 ss mm #[Value.ref b] bel mth cde H locs (cells + 1) (slots + 6) Q (F0 mm 1472 ls [])) :
    W pp ll ee room_1 ss mm #[Value.ref b] bel mth cde H locs cells slots Q (F0 mm 156 ls []) := by
  have hx := C.hx
  have hb := C.hb
  have hK := C.hK
  have hE := C.hE
  refine lv_aload_n hx hb dL_law_156 rfl (lv_at hl 1 rfl) ?_
  refine ld_arg C hS (k := 1) (lv_at hl 0 rfl) (lv_at hl 4 rfl) (by omega) (by decide) v1 rfl dL_law_157 dL_law_158 dL_law_160 dL_law_161 dL_law_162 ?_
  refine ld_arg C hS (k := 2) (lv_at hl 0 rfl) (lv_at hl 4 rfl) (by omega) (by decide) v2 rfl dL_law_163 dL_law_164 dL_law_166 dL_law_167 dL_law_168 ?_
  refine ld_arg C hS (k := 3) (lv_at hl 0 rfl) (lv_at hl 4 rfl) (by omega) (by decide) v3 rfl dL_law_169 dL_law_170 dL_law_172 dL_law_173 dL_law_174 ?_
  refine lv_aload_n hx hb dL_law_175 rfl (lv_at hl 3 rfl) ?_
  refine b_calliP (S := Unit) (wc := GW a cI cJ p nu de eq am nx oA oD oE oP cR aR hR cl ad gw pr n ++ [(o0, eJ cJ 1 ou)]) (wr := MW bb cI cJ p cl a2 gw oA oD oE oP cR aR hR pr sq ab be nw tn th n) (w' := fun u => GW a cI cJ p nu de eq am nx oA oD oE oP cR aR hR cl ad gw pr n ++ [(o0, eJ cJ 1 (ou))]) hP hD hS (hA_ ss) (vx_runSW (As := [.ref (a 0), .int (x0), .int (x1), .int (x), .ref o0]) (rest := []) C.fix (c_L_hold_bad ll C.hst D a cI cJ _ p nu de eq am nx oA oD oE oP cR aR hR cl ad gw pr n o0 ou x0 x1 x hbad) (vx_cwSW 5 C.hts gL_law_L_hold rfl rfl rfl (by decide +kernel) ⟨Nat.le_of_ble_eq_true rfl, Nat.le_of_ble_eq_true rfl⟩) ⟨PY.blind, PY.go hP hK hD hE C.hV C.hDC hS (hA_ ss)⟩ rfl rfl hl.1 rfl (lv_room (Nat.le_of_ble_eq_true rfl)) dL_law_176 ⟨(by show cells + 1 ≤ 1070; omega), (by show slots + 6 ≤ 8714; omega)⟩) (fun r9 u H locs hr9 hP hD hS => ?_)
  obtain rfl : r9 = 1 := hr9
  refine lv_istore (lv' := [(5, .int 1), (0, .ref b), (1, .ref (a 0)), (2, .ref (bb 0)), (3, .ref o0), (4, .int (nI i))]) hx hb dL_law_179 hl (by decide) rfl (fun ls hl => ?_)
  refine lv_aload_n hx hb dL_law_181 rfl (lv_at hl 3 rfl) ?_
  refine ld_arg C hS (k := 1) (lv_at hl 1 rfl) (lv_at hl 5 rfl) (by omega) (by decide) v1 rfl dL_law_182 dL_law_183 dL_law_185 dL_law_186 dL_law_187 ?_
  refine ld_arg C hS (k := 2) (lv_at hl 1 rfl) (lv_at hl 5 rfl) (by omega) (by decide) v2 rfl dL_law_188 dL_law_189 dL_law_191 dL_law_192 dL_law_193 ?_
  refine ld_arg C hS (k := 3) (lv_at hl 1 rfl) (lv_at hl 5 rfl) (by omega) (by decide) v3 rfl dL_law_194 dL_law_195 dL_law_197 dL_law_198 dL_law_199 ?_
  have hP := toMG hP
  have hD := toMGd hD
  refine b_calliP (S := Unit) (wc := MW bb cI cJ p cl a2 gw oA oD oE oP cR aR hR pr sq ab be nw tn th n) (wr := GW a cI cJ p nu de eq am nx oA oD oE oP cR aR hR cl ad gw pr n ++ [(o0, eJ cJ 1 (ou))]) (w' := fun u8 => MW bb cI cJ p cl a2 gw oA oD oE oP cR aR hR pr sq ab be nw tn 1 n) hP hD hS (hA_ ss) (va_runV (As := [.int (x0), .int (x1), .int (x)]) (rest := []) C.fix (c_X4_hold_bad ll D bb cI cJ _ p cl a2 gw oA oD oE oP cR aR hR pr sq ab be nw tn th n x0 x1 x hbad) (cwV 3 C.hts gL_law_X4_hold rfl rfl rfl (by decide +kernel) ⟨Nat.le_of_ble_eq_true rfl, Nat.le_of_ble_eq_true rfl⟩) ⟨PW.blind, va_recv hK hP (ci := 4) (q0 := 0) rfl rfl, PW.goP hP hK hD hE⟩ rfl rfl hl.1 rfl (lv_room (Nat.le_of_ble_eq_true rfl)) dL_law_200 ⟨(by show cells + 1 + 0 ≤ 1070; omega), (by show slots + 6 + 0 ≤ 8714; omega)⟩) (fun r8 u8 H locs hr8 hP hD hS => ?_)
  obtain rfl : r8 = 0 := hr8
  refine lv_istore (lv' := [(6, .int (0)), (5, .int 1), (0, .ref b), (1, .ref (a 0)), (2, .ref (bb 0)), (3, .ref o0), (4, .int (nI i))]) hx hb dL_law_203 hl (by decide) rfl (fun ls hl => ?_)
  refine tl_x C hP hl.1 (by decide) (lv_at hl 4 rfl) (lv_at hl 1 rfl) rfl (tg := 233) (by decide) (by decide) (by decide) dL_law_205 dL_law_206 dL_law_209 dL_law_211 dL_law_216 dL_law_218 dL_law_233 ?_ ⟨(by omega), (by omega)⟩
  refine W.widen (k := cells + 1) (n := slots + 6) (by omega) (by omega) ?_
  exact kk _ _ _ (toMG hP) (toMGd hD) hS (lv_sub hl [2, 3, 4, 5, 6] rfl)
set_option maxHeartbeats 4000000 in
set_option maxRecDepth 100000 in
theorem kv_acquire (o c : Nat) (x pz : Int32) (ho : o < 6) (hc : c < 6) (hpr : prB (nI o) (nI c) = true) (hqx : inB x 1 100 = true) (hz : inB pz 0 1000000 = true) (htk : tkOK p eq o c (p (6 * o + c) + x)) (hs : smH p o c (p (6 * o + c) + x) ≤ 100) (hB : okB (upd p (6 * o + c) (p (6 * o + c) + x))) (hW : ¬ dW (upd p (6 * o + c) (p (6 * o + c) + x)) 0 = 0)  (v1 : xs (i + 1) = nI o) (v2 : xs (i + 2) = nI c) (v3 : xs (i + 3) = x) (v4 : xs (i + 4) = pz) (C : lwC pp ll ss mm mth cde b L xs D cI cJ) (hi : i + 5 < L) (hcs : cells + 1 ≤ 1070 ∧ slots + 6 ≤ 8714) (hP : va_P D vwCl (LW a bb o0 cI cJ p nu de eq am nx oA oD oE oP cR aR hR cl ad gw pr n ou p cl a2 gw oA oD oE oP cR aR hR pr sq ab be nw tn th n) H) (hD : va_D (lwA ss) (LW a bb o0 cI cJ p nu de eq am nx oA oD oE oP cR aR hR cl ad gw pr n ou p cl a2 gw oA oD oE oP cR aR hR pr sq ab be nw tn th n)) (hS : va_S (lwA ss) ss.heap H locs) (hl : lv_has ls 8 (LOC b a bb o0 i))
    (kk : ∀ (u : Nat → Int64) (u8 : (Nat → Int64) × (Nat → Int64) × (Nat → Int64)) (H : Heap) (locs : List Loc) (ls : Array Slot), va_P D vwCl (LW a bb o0 cI cJ (upd p (6 * o + c) (p (6 * o + c) + x)) (ksN (ds (weO (upd p (6 * o + c) (p (6 * o + c) + x)) eq 5) 5).1 (ds (weO (upd p (6 * o + c) (p (6 * o + c) + x)) eq 5) 5).2 nu 5) (ksD (ds (weO (upd p (6 * o + c) (p (6 * o + c) + x)) eq 5) 5).1 (ds (weO (upd p (6 * o + c) (p (6 * o + c) + x)) eq 5) 5).2 de 5) u am nx oA oD oE oP cR aR hR cl ad (upd gw c (gw c + (pz - fdI (x * (tr (oA c) (cR c) - tr (oD c) (cR c))) 100))) pr n (vp_updL ou 0 (p (6 * o + c) + x).toInt64) (upd p (6 * o + c) (p (6 * o + c) + x)) cl a2 (upd gw c (gw c + (pz - (flM (x.toInt64 * (ntM oA oD cR c).toInt64) 100).toInt32))) oA oD oE oP cR aR hR pr (u8.1) (u8.2.1) (u8.2.2) nw tn 0 n) H → va_D (lwA ss) (LW a bb o0 cI cJ (upd p (6 * o + c) (p (6 * o + c) + x)) (ksN (ds (weO (upd p (6 * o + c) (p (6 * o + c) + x)) eq 5) 5).1 (ds (weO (upd p (6 * o + c) (p (6 * o + c) + x)) eq 5) 5).2 nu 5) (ksD (ds (weO (upd p (6 * o + c) (p (6 * o + c) + x)) eq 5) 5).1 (ds (weO (upd p (6 * o + c) (p (6 * o + c) + x)) eq 5) 5).2 de 5) u am nx oA oD oE oP cR aR hR cl ad (upd gw c (gw c + (pz - fdI (x * (tr (oA c) (cR c) - tr (oD c) (cR c))) 100))) pr n (vp_updL ou 0 (p (6 * o + c) + x).toInt64) (upd p (6 * o + c) (p (6 * o + c) + x)) cl a2 (upd gw c (gw c + (pz - (flM (x.toInt64 * (ntM oA oD cR c).toInt64) 100).toInt32))) oA oD oE oP cR aR hR pr (u8.1) (u8.2.1) (u8.2.2) nw tn 0 n) → va_S (lwA ss) ss.heap H locs → lv_has ls 8 (LOC b a bb o0 i) → W pp ll ee room_1 ss mm #[Value.ref b] bel mth cde H locs (cells + 1) (slots + 6) Q (F0 mm 1472 ls [])) :
    W pp ll ee room_1 ss mm #[Value.ref b] bel mth cde H locs cells slots Q (F0 mm 236 ls []) := by
  have hx := C.hx
  have hb := C.hb
  have hK := C.hK
  have hE := C.hE
  refine lv_aload_n hx hb dL_law_236 rfl (lv_at hl 1 rfl) ?_
  refine ld_arg C hS (k := 1) (lv_at hl 0 rfl) (lv_at hl 4 rfl) (by omega) (by decide) v1 rfl dL_law_237 dL_law_238 dL_law_240 dL_law_241 dL_law_242 ?_
  refine ld_arg C hS (k := 2) (lv_at hl 0 rfl) (lv_at hl 4 rfl) (by omega) (by decide) v2 rfl dL_law_243 dL_law_244 dL_law_246 dL_law_247 dL_law_248 ?_
  refine ld_arg C hS (k := 3) (lv_at hl 0 rfl) (lv_at hl 4 rfl) (by omega) (by decide) v3 rfl dL_law_249 dL_law_250 dL_law_252 dL_law_253 dL_law_254 ?_
  refine ld_arg C hS (k := 4) (lv_at hl 0 rfl) (lv_at hl 4 rfl) (by omega) (by decide) v4 rfl dL_law_255 dL_law_256 dL_law_258 dL_law_259 dL_law_260 ?_
  refine lv_aload_n hx hb dL_law_261 rfl (lv_at hl 3 rfl) ?_
  refine b_calliP (S := Nat → Int64) (wc := GW a cI cJ p nu de eq am nx oA oD oE oP cR aR hR cl ad gw pr n ++ [(o0, eJ cJ 1 ou)]) (wr := MW bb cI cJ p cl a2 gw oA oD oE oP cR aR hR pr sq ab be nw tn th n) (w' := fun u => GW a cI cJ (upd p (6 * o + c) (p (6 * o + c) + x)) (ksN (ds (weO (upd p (6 * o + c) (p (6 * o + c) + x)) eq 5) 5).1 (ds (weO (upd p (6 * o + c) (p (6 * o + c) + x)) eq 5) 5).2 nu 5) (ksD (ds (weO (upd p (6 * o + c) (p (6 * o + c) + x)) eq 5) 5).1 (ds (weO (upd p (6 * o + c) (p (6 * o + c) + x)) eq 5) 5).2 de 5) u am nx oA oD oE oP cR aR hR cl ad (upd gw c (gw c + (pz - fdI (x * (tr (oA c) (cR c) - tr (oD c) (cR c))) 100))) pr n ++ [(o0, eJ cJ 1 (vp_updL ou 0 (p (6 * o + c) + x).toInt64))]) hP hD hS (hA_ ss) (vx_runSW (As := [.ref (a 0), .int (nI o), .int (nI c), .int (x), .int (pz), .ref o0]) (rest := []) C.fix (c_L_acquire ll D a cI cJ _ p nu de eq am nx oA oD oE oP cR aR hR cl ad gw pr n o0 ou o c x pz ho hc hpr hqx hz htk) (vx_cwSW 6 C.hts gL_law_L_acquire rfl rfl rfl (by decide +kernel) ⟨Nat.le_of_ble_eq_true rfl, Nat.le_of_ble_eq_true rfl⟩) ⟨PY.blind, PY.go hP hK hD hE C.hV C.hDC hS (hA_ ss)⟩ rfl rfl hl.1 rfl (lv_room (Nat.le_of_ble_eq_true rfl)) dL_law_262 ⟨(by show cells + 0 ≤ 1070; omega), (by show slots + 0 ≤ 8714; omega)⟩) (fun r9 u H locs hr9 hP hD hS => ?_)
  obtain rfl : r9 = 0 := hr9
  refine lv_istore (lv' := [(5, .int 0), (0, .ref b), (1, .ref (a 0)), (2, .ref (bb 0)), (3, .ref o0), (4, .int (nI i))]) hx hb dL_law_265 hl (by decide) rfl (fun ls hl => ?_)
  refine lv_aload_n hx hb dL_law_267 rfl (lv_at hl 3 rfl) ?_
  refine ld_arg C hS (k := 1) (lv_at hl 1 rfl) (lv_at hl 5 rfl) (by omega) (by decide) v1 rfl dL_law_268 dL_law_269 dL_law_271 dL_law_272 dL_law_273 ?_
  refine ld_arg C hS (k := 2) (lv_at hl 1 rfl) (lv_at hl 5 rfl) (by omega) (by decide) v2 rfl dL_law_274 dL_law_275 dL_law_277 dL_law_278 dL_law_279 ?_
  refine ld_arg C hS (k := 3) (lv_at hl 1 rfl) (lv_at hl 5 rfl) (by omega) (by decide) v3 rfl dL_law_280 dL_law_281 dL_law_283 dL_law_284 dL_law_285 ?_
  refine ld_arg C hS (k := 4) (lv_at hl 1 rfl) (lv_at hl 5 rfl) (by omega) (by decide) v4 rfl dL_law_286 dL_law_287 dL_law_289 dL_law_290 dL_law_291 ?_
  have hP := toMG hP
  have hD := toMGd hD
  refine b_calliP (S := (Nat → Int64) × (Nat → Int64) × (Nat → Int64)) (wc := MW bb cI cJ p cl a2 gw oA oD oE oP cR aR hR pr sq ab be nw tn th n) (wr := GW a cI cJ (upd p (6 * o + c) (p (6 * o + c) + x)) (ksN (ds (weO (upd p (6 * o + c) (p (6 * o + c) + x)) eq 5) 5).1 (ds (weO (upd p (6 * o + c) (p (6 * o + c) + x)) eq 5) 5).2 nu 5) (ksD (ds (weO (upd p (6 * o + c) (p (6 * o + c) + x)) eq 5) 5).1 (ds (weO (upd p (6 * o + c) (p (6 * o + c) + x)) eq 5) 5).2 de 5) u am nx oA oD oE oP cR aR hR cl ad (upd gw c (gw c + (pz - fdI (x * (tr (oA c) (cR c) - tr (oD c) (cR c))) 100))) pr n ++ [(o0, eJ cJ 1 (vp_updL ou 0 (p (6 * o + c) + x).toInt64))]) (w' := fun u8 => MW bb cI cJ (upd p (6 * o + c) (p (6 * o + c) + x)) cl a2 (upd gw c (gw c + (pz - (flM (x.toInt64 * (ntM oA oD cR c).toInt64) 100).toInt32))) oA oD oE oP cR aR hR pr (u8.1) (u8.2.1) (u8.2.2) nw tn 0 n) hP hD hS (hA_ ss) (va_runV (As := [.int (nI o), .int (nI c), .int (x), .int (pz)]) (rest := []) C.fix (c_X4_acquire ll D bb cI cJ _ p cl a2 gw oA oD oE oP cR aR hR pr sq ab be nw tn th n o c x pz ho hc hpr hqx hz hs hB hW) (cwV 4 C.hts gL_law_X4_acquire rfl rfl rfl (by decide +kernel) ⟨Nat.le_of_ble_eq_true rfl, Nat.le_of_ble_eq_true rfl⟩) ⟨PW.blind, va_recv hK hP (ci := 4) (q0 := 0) rfl rfl, PW.goP hP hK hD hE⟩ rfl rfl hl.1 rfl (lv_room (Nat.le_of_ble_eq_true rfl)) dL_law_292 ⟨(by show cells + 0 + 0 ≤ 1070; omega), (by show slots + 0 + 0 ≤ 8714; omega)⟩) (fun r8 u8 H locs hr8 hP hD hS => ?_)
  obtain rfl : r8 = p (6 * o + c) + x := hr8
  refine lv_istore (lv' := [(6, .int (p (6 * o + c) + x)), (5, .int 0), (0, .ref b), (1, .ref (a 0)), (2, .ref (bb 0)), (3, .ref o0), (4, .int (nI i))]) hx hb dL_law_295 hl (by decide) rfl (fun ls hl => ?_)
  refine tl_i C hP rfl hS hl.1 (lv_at hl 4 rfl) (lv_at hl 5 rfl) (lv_at hl 1 rfl) (lv_at hl 0 rfl) (if_pos rfl) rfl rfl (by decide) (by decide) (by decide) (by decide) dL_law_297 dL_law_298 dL_law_301 dL_law_303 dL_law_308 dL_law_310 dL_law_313 dL_law_314 dL_law_315 dL_law_316 dL_law_318 dL_law_319 dL_law_320 dL_law_325 ?_ ⟨(by omega), (by omega)⟩
  refine W.widen (k := cells + 1) (n := slots + 6) (by omega) (by omega) ?_
  exact kk u u8 _ _ _ (toMG hP) (toMGd hD) hS (lv_sub hl [2, 3, 4, 5, 6] rfl)
set_option maxHeartbeats 4000000 in
set_option maxRecDepth 100000 in
theorem kv_acquire_hi (o c : Nat) (x pz : Int32) (ho : o < 6) (hc : c < 6) (hpr : prB (nI o) (nI c) = true) (hqx : inB x 1 100 = true) (hz : inB pz 0 1000000 = true) (htk : ¬ tkOK p eq o c (p (6 * o + c) + x)) (hs : ¬ smH p o c (p (6 * o + c) + x) ≤ 100)  (v1 : xs (i + 1) = nI o) (v2 : xs (i + 2) = nI c) (v3 : xs (i + 3) = x) (v4 : xs (i + 4) = pz) (C : lwC pp ll ss mm mth cde b L xs D cI cJ) (hi : i + 5 < L) (hcs : cells + 1 ≤ 1070 ∧ slots + 6 ≤ 8714) (hP : va_P D vwCl (LW a bb o0 cI cJ p nu de eq am nx oA oD oE oP cR aR hR cl ad gw pr n ou p cl a2 gw oA oD oE oP cR aR hR pr sq ab be nw tn th n) H) (hD : va_D (lwA ss) (LW a bb o0 cI cJ p nu de eq am nx oA oD oE oP cR aR hR cl ad gw pr n ou p cl a2 gw oA oD oE oP cR aR hR pr sq ab be nw tn th n)) (hS : va_S (lwA ss) ss.heap H locs) (hl : lv_has ls 8 (LOC b a bb o0 i))
    (kk : ∀ (u : Nat → Int64) (H : Heap) (locs : List Loc) (ls : Array Slot), va_P D vwCl (LW a bb o0 cI cJ p nu de u am nx oA oD oE oP cR aR hR cl ad gw pr n ou p cl a2 gw oA oD oE oP cR aR hR pr sq ab be nw tn 2 n) H → va_D (lwA ss) (LW a bb o0 cI cJ p nu de u am nx oA oD oE oP cR aR hR cl ad gw pr n ou p cl a2 gw oA oD oE oP cR aR hR pr sq ab be nw tn 2 n) → va_S (lwA ss) ss.heap H locs → lv_has ls 8 (LOC b a bb o0 i) → W pp ll ee room_1 ss mm #[Value.ref b] bel mth cde H locs (cells + 1) (slots + 6) Q (F0 mm 1472 ls [])) :
    W pp ll ee room_1 ss mm #[Value.ref b] bel mth cde H locs cells slots Q (F0 mm 236 ls []) := by
  have hx := C.hx
  have hb := C.hb
  have hK := C.hK
  have hE := C.hE
  refine lv_aload_n hx hb dL_law_236 rfl (lv_at hl 1 rfl) ?_
  refine ld_arg C hS (k := 1) (lv_at hl 0 rfl) (lv_at hl 4 rfl) (by omega) (by decide) v1 rfl dL_law_237 dL_law_238 dL_law_240 dL_law_241 dL_law_242 ?_
  refine ld_arg C hS (k := 2) (lv_at hl 0 rfl) (lv_at hl 4 rfl) (by omega) (by decide) v2 rfl dL_law_243 dL_law_244 dL_law_246 dL_law_247 dL_law_248 ?_
  refine ld_arg C hS (k := 3) (lv_at hl 0 rfl) (lv_at hl 4 rfl) (by omega) (by decide) v3 rfl dL_law_249 dL_law_250 dL_law_252 dL_law_253 dL_law_254 ?_
  refine ld_arg C hS (k := 4) (lv_at hl 0 rfl) (lv_at hl 4 rfl) (by omega) (by decide) v4 rfl dL_law_255 dL_law_256 dL_law_258 dL_law_259 dL_law_260 ?_
  refine lv_aload_n hx hb dL_law_261 rfl (lv_at hl 3 rfl) ?_
  refine b_calliP (S := Nat → Int64) (wc := GW a cI cJ p nu de eq am nx oA oD oE oP cR aR hR cl ad gw pr n ++ [(o0, eJ cJ 1 ou)]) (wr := MW bb cI cJ p cl a2 gw oA oD oE oP cR aR hR pr sq ab be nw tn th n) (w' := fun u => GW a cI cJ p nu de u am nx oA oD oE oP cR aR hR cl ad gw pr n ++ [(o0, eJ cJ 1 (ou))]) hP hD hS (hA_ ss) (vx_runSW (As := [.ref (a 0), .int (nI o), .int (nI c), .int (x), .int (pz), .ref o0]) (rest := []) C.fix (c_L_acquire_no ll C.hst D a cI cJ _ p nu de eq am nx oA oD oE oP cR aR hR cl ad gw pr n o0 ou o c x pz ho hc hpr hqx hz htk) (vx_cwSW 6 C.hts gL_law_L_acquire rfl rfl rfl (by decide +kernel) ⟨Nat.le_of_ble_eq_true rfl, Nat.le_of_ble_eq_true rfl⟩) ⟨PY.bl2, PY.go2 hP hK hD hE C.hV C.hDC C.hNc hS (hA_ ss)⟩ rfl rfl hl.1 rfl (lv_room (Nat.le_of_ble_eq_true rfl)) dL_law_262 ⟨(by show cells + 1 ≤ 1070; omega), (by show slots + 6 ≤ 8714; omega)⟩) (fun r9 u H locs hr9 hP hD hS => ?_)
  obtain rfl : r9 = 2 := hr9
  refine lv_istore (lv' := [(5, .int 2), (0, .ref b), (1, .ref (a 0)), (2, .ref (bb 0)), (3, .ref o0), (4, .int (nI i))]) hx hb dL_law_265 hl (by decide) rfl (fun ls hl => ?_)
  refine lv_aload_n hx hb dL_law_267 rfl (lv_at hl 3 rfl) ?_
  refine ld_arg C hS (k := 1) (lv_at hl 1 rfl) (lv_at hl 5 rfl) (by omega) (by decide) v1 rfl dL_law_268 dL_law_269 dL_law_271 dL_law_272 dL_law_273 ?_
  refine ld_arg C hS (k := 2) (lv_at hl 1 rfl) (lv_at hl 5 rfl) (by omega) (by decide) v2 rfl dL_law_274 dL_law_275 dL_law_277 dL_law_278 dL_law_279 ?_
  refine ld_arg C hS (k := 3) (lv_at hl 1 rfl) (lv_at hl 5 rfl) (by omega) (by decide) v3 rfl dL_law_280 dL_law_281 dL_law_283 dL_law_284 dL_law_285 ?_
  refine ld_arg C hS (k := 4) (lv_at hl 1 rfl) (lv_at hl 5 rfl) (by omega) (by decide) v4 rfl dL_law_286 dL_law_287 dL_law_289 dL_law_290 dL_law_291 ?_
  have hP := toMG hP
  have hD := toMGd hD
  refine b_calliP (S := Unit) (wc := MW bb cI cJ p cl a2 gw oA oD oE oP cR aR hR pr sq ab be nw tn th n) (wr := GW a cI cJ p nu de u am nx oA oD oE oP cR aR hR cl ad gw pr n ++ [(o0, eJ cJ 1 (ou))]) (w' := fun u8 => MW bb cI cJ p cl a2 gw oA oD oE oP cR aR hR pr sq ab be nw tn 2 n) hP hD hS (hA_ ss) (va_runV (As := [.int (nI o), .int (nI c), .int (x), .int (pz)]) (rest := []) C.fix (c_X4_acquire_hi ll D bb cI cJ _ p cl a2 gw oA oD oE oP cR aR hR pr sq ab be nw tn th n o c x pz ho hc hpr hqx hz hs) (cwV 4 C.hts gL_law_X4_acquire rfl rfl rfl (by decide +kernel) ⟨Nat.le_of_ble_eq_true rfl, Nat.le_of_ble_eq_true rfl⟩) ⟨PW.blind, va_recv hK hP (ci := 4) (q0 := 0) rfl rfl, PW.goP hP hK hD hE⟩ rfl rfl hl.1 rfl (lv_room (Nat.le_of_ble_eq_true rfl)) dL_law_292 ⟨(by show cells + 1 + 0 ≤ 1070; omega), (by show slots + 6 + 0 ≤ 8714; omega)⟩) (fun r8 u8 H locs hr8 hP hD hS => ?_)
  obtain rfl : r8 = 0 := hr8
  refine lv_istore (lv' := [(6, .int (0)), (5, .int 2), (0, .ref b), (1, .ref (a 0)), (2, .ref (bb 0)), (3, .ref o0), (4, .int (nI i))]) hx hb dL_law_295 hl (by decide) rfl (fun ls hl => ?_)
  refine tl_x C hP hl.1 (by decide) (lv_at hl 4 rfl) (lv_at hl 1 rfl) rfl (tg := 325) (by decide) (by decide) (by decide) dL_law_297 dL_law_298 dL_law_301 dL_law_303 dL_law_308 dL_law_310 dL_law_325 ?_ ⟨(by omega), (by omega)⟩
  refine W.widen (k := cells + 1) (n := slots + 6) (by omega) (by omega) ?_
  exact kk u _ _ _ (toMG hP) (toMGd hD) hS (lv_sub hl [2, 3, 4, 5, 6] rfl)
set_option maxHeartbeats 4000000 in
set_option maxRecDepth 100000 in
theorem kv_acquire_no (o c : Nat) (x pz : Int32) (ho : o < 6) (hc : c < 6) (hpr : prB (nI o) (nI c) = true) (hqx : inB x 1 100 = true) (hz : inB pz 0 1000000 = true) (htk : ¬ tkOK p eq o c (p (6 * o + c) + x)) (hs : smH p o c (p (6 * o + c) + x) ≤ 100) (hW : dW (upd p (6 * o + c) (p (6 * o + c) + x)) 0 = 0)  (v1 : xs (i + 1) = nI o) (v2 : xs (i + 2) = nI c) (v3 : xs (i + 3) = x) (v4 : xs (i + 4) = pz) (C : lwC pp ll ss mm mth cde b L xs D cI cJ) (hi : i + 5 < L) (hcs : cells + 1 ≤ 1070 ∧ slots + 6 ≤ 8714) (hP : va_P D vwCl (LW a bb o0 cI cJ p nu de eq am nx oA oD oE oP cR aR hR cl ad gw pr n ou p cl a2 gw oA oD oE oP cR aR hR pr sq ab be nw tn th n) H) (hD : va_D (lwA ss) (LW a bb o0 cI cJ p nu de eq am nx oA oD oE oP cR aR hR cl ad gw pr n ou p cl a2 gw oA oD oE oP cR aR hR pr sq ab be nw tn th n)) (hS : va_S (lwA ss) ss.heap H locs) (hl : lv_has ls 8 (LOC b a bb o0 i))
    (kk : ∀ (u : Nat → Int64) (u8 : (Nat → Int64) × (Nat → Int64) × (Nat → Int64)) (H : Heap) (locs : List Loc) (ls : Array Slot), va_P D vwCl (LW a bb o0 cI cJ p nu de u am nx oA oD oE oP cR aR hR cl ad gw pr n ou p cl a2 gw oA oD oE oP cR aR hR pr (u8.1) (u8.2.1) (u8.2.2) nw tn 2 n) H → va_D (lwA ss) (LW a bb o0 cI cJ p nu de u am nx oA oD oE oP cR aR hR cl ad gw pr n ou p cl a2 gw oA oD oE oP cR aR hR pr (u8.1) (u8.2.1) (u8.2.2) nw tn 2 n) → va_S (lwA ss) ss.heap H locs → lv_has ls 8 (LOC b a bb o0 i) → W pp ll ee room_1 ss mm #[Value.ref b] bel mth cde H locs (cells + 1) (slots + 6) Q (F0 mm 1472 ls [])) :
    W pp ll ee room_1 ss mm #[Value.ref b] bel mth cde H locs cells slots Q (F0 mm 236 ls []) := by
  have hx := C.hx
  have hb := C.hb
  have hK := C.hK
  have hE := C.hE
  refine lv_aload_n hx hb dL_law_236 rfl (lv_at hl 1 rfl) ?_
  refine ld_arg C hS (k := 1) (lv_at hl 0 rfl) (lv_at hl 4 rfl) (by omega) (by decide) v1 rfl dL_law_237 dL_law_238 dL_law_240 dL_law_241 dL_law_242 ?_
  refine ld_arg C hS (k := 2) (lv_at hl 0 rfl) (lv_at hl 4 rfl) (by omega) (by decide) v2 rfl dL_law_243 dL_law_244 dL_law_246 dL_law_247 dL_law_248 ?_
  refine ld_arg C hS (k := 3) (lv_at hl 0 rfl) (lv_at hl 4 rfl) (by omega) (by decide) v3 rfl dL_law_249 dL_law_250 dL_law_252 dL_law_253 dL_law_254 ?_
  refine ld_arg C hS (k := 4) (lv_at hl 0 rfl) (lv_at hl 4 rfl) (by omega) (by decide) v4 rfl dL_law_255 dL_law_256 dL_law_258 dL_law_259 dL_law_260 ?_
  refine lv_aload_n hx hb dL_law_261 rfl (lv_at hl 3 rfl) ?_
  refine b_calliP (S := Nat → Int64) (wc := GW a cI cJ p nu de eq am nx oA oD oE oP cR aR hR cl ad gw pr n ++ [(o0, eJ cJ 1 ou)]) (wr := MW bb cI cJ p cl a2 gw oA oD oE oP cR aR hR pr sq ab be nw tn th n) (w' := fun u => GW a cI cJ p nu de u am nx oA oD oE oP cR aR hR cl ad gw pr n ++ [(o0, eJ cJ 1 (ou))]) hP hD hS (hA_ ss) (vx_runSW (As := [.ref (a 0), .int (nI o), .int (nI c), .int (x), .int (pz), .ref o0]) (rest := []) C.fix (c_L_acquire_no ll C.hst D a cI cJ _ p nu de eq am nx oA oD oE oP cR aR hR cl ad gw pr n o0 ou o c x pz ho hc hpr hqx hz htk) (vx_cwSW 6 C.hts gL_law_L_acquire rfl rfl rfl (by decide +kernel) ⟨Nat.le_of_ble_eq_true rfl, Nat.le_of_ble_eq_true rfl⟩) ⟨PY.bl2, PY.go2 hP hK hD hE C.hV C.hDC C.hNc hS (hA_ ss)⟩ rfl rfl hl.1 rfl (lv_room (Nat.le_of_ble_eq_true rfl)) dL_law_262 ⟨(by show cells + 1 ≤ 1070; omega), (by show slots + 6 ≤ 8714; omega)⟩) (fun r9 u H locs hr9 hP hD hS => ?_)
  obtain rfl : r9 = 2 := hr9
  refine lv_istore (lv' := [(5, .int 2), (0, .ref b), (1, .ref (a 0)), (2, .ref (bb 0)), (3, .ref o0), (4, .int (nI i))]) hx hb dL_law_265 hl (by decide) rfl (fun ls hl => ?_)
  refine lv_aload_n hx hb dL_law_267 rfl (lv_at hl 3 rfl) ?_
  refine ld_arg C hS (k := 1) (lv_at hl 1 rfl) (lv_at hl 5 rfl) (by omega) (by decide) v1 rfl dL_law_268 dL_law_269 dL_law_271 dL_law_272 dL_law_273 ?_
  refine ld_arg C hS (k := 2) (lv_at hl 1 rfl) (lv_at hl 5 rfl) (by omega) (by decide) v2 rfl dL_law_274 dL_law_275 dL_law_277 dL_law_278 dL_law_279 ?_
  refine ld_arg C hS (k := 3) (lv_at hl 1 rfl) (lv_at hl 5 rfl) (by omega) (by decide) v3 rfl dL_law_280 dL_law_281 dL_law_283 dL_law_284 dL_law_285 ?_
  refine ld_arg C hS (k := 4) (lv_at hl 1 rfl) (lv_at hl 5 rfl) (by omega) (by decide) v4 rfl dL_law_286 dL_law_287 dL_law_289 dL_law_290 dL_law_291 ?_
  have hP := toMG hP
  have hD := toMGd hD
  refine b_calliP (S := (Nat → Int64) × (Nat → Int64) × (Nat → Int64)) (wc := MW bb cI cJ p cl a2 gw oA oD oE oP cR aR hR pr sq ab be nw tn th n) (wr := GW a cI cJ p nu de u am nx oA oD oE oP cR aR hR cl ad gw pr n ++ [(o0, eJ cJ 1 (ou))]) (w' := fun u8 => MW bb cI cJ p cl a2 gw oA oD oE oP cR aR hR pr (u8.1) (u8.2.1) (u8.2.2) nw tn 2 n) hP hD hS (hA_ ss) (va_runV (As := [.int (nI o), .int (nI c), .int (x), .int (pz)]) (rest := []) C.fix (c_X4_acquire_no ll D bb cI cJ _ p cl a2 gw oA oD oE oP cR aR hR pr sq ab be nw tn th n o c x pz ho hc hpr hqx hz hs hW) (cwV 4 C.hts gL_law_X4_acquire rfl rfl rfl (by decide +kernel) ⟨Nat.le_of_ble_eq_true rfl, Nat.le_of_ble_eq_true rfl⟩) ⟨PW.blind, va_recv hK hP (ci := 4) (q0 := 0) rfl rfl, PW.goP hP hK hD hE⟩ rfl rfl hl.1 rfl (lv_room (Nat.le_of_ble_eq_true rfl)) dL_law_292 ⟨(by show cells + 1 + 0 ≤ 1070; omega), (by show slots + 6 + 0 ≤ 8714; omega)⟩) (fun r8 u8 H locs hr8 hP hD hS => ?_)
  obtain rfl : r8 = 0 := hr8
  refine lv_istore (lv' := [(6, .int (0)), (5, .int 2), (0, .ref b), (1, .ref (a 0)), (2, .ref (bb 0)), (3, .ref o0), (4, .int (nI i))]) hx hb dL_law_295 hl (by decide) rfl (fun ls hl => ?_)
  refine tl_x C hP hl.1 (by decide) (lv_at hl 4 rfl) (lv_at hl 1 rfl) rfl (tg := 325) (by decide) (by decide) (by decide) dL_law_297 dL_law_298 dL_law_301 dL_law_303 dL_law_308 dL_law_310 dL_law_325 ?_ ⟨(by omega), (by omega)⟩
  refine W.widen (k := cells + 1) (n := slots + 6) (by omega) (by omega) ?_
  exact kk u u8 _ _ _ (toMG hP) (toMGd hD) hS (lv_sub hl [2, 3, 4, 5, 6] rfl)
set_option maxHeartbeats 4000000 in
set_option maxRecDepth 100000 in
theorem kv_acquire_bad (x0 x1 x pz : Int32) (hbad : ¬ (prB x0 x1 = true ∧ inB x 1 100 = true ∧ inB pz 0 1000000 = true))  (v1 : xs (i + 1) = x0) (v2 : xs (i + 2) = x1) (v3 : xs (i + 3) = x) (v4 : xs (i + 4) = pz) (C : lwC pp ll ss mm mth cde b L xs D cI cJ) (hi : i + 5 < L) (hcs : cells + 1 ≤ 1070 ∧ slots + 6 ≤ 8714) (hP : va_P D vwCl (LW a bb o0 cI cJ p nu de eq am nx oA oD oE oP cR aR hR cl ad gw pr n ou p cl a2 gw oA oD oE oP cR aR hR pr sq ab be nw tn th n) H) (hD : va_D (lwA ss) (LW a bb o0 cI cJ p nu de eq am nx oA oD oE oP cR aR hR cl ad gw pr n ou p cl a2 gw oA oD oE oP cR aR hR pr sq ab be nw tn th n)) (hS : va_S (lwA ss) ss.heap H locs) (hl : lv_has ls 8 (LOC b a bb o0 i))
    (kk : ∀  (H : Heap) (locs : List Loc) (ls : Array Slot), va_P D vwCl (LW a bb o0 cI cJ p nu de eq am nx oA oD oE oP cR aR hR cl ad gw pr n ou p cl a2 gw oA oD oE oP cR aR hR pr sq ab be nw tn 1 n) H → va_D (lwA ss) (LW a bb o0 cI cJ p nu de eq am nx oA oD oE oP cR aR hR cl ad gw pr n ou p cl a2 gw oA oD oE oP cR aR hR pr sq ab be nw tn 1 n) → va_S (lwA ss) ss.heap H locs → lv_has ls 8 (LOC b a bb o0 i) → W pp ll ee room_1 ss mm #[Value.ref b] bel mth cde H locs (cells + 1) (slots + 6) Q (F0 mm 1472 ls [])) :
    W pp ll ee room_1 ss mm #[Value.ref b] bel mth cde H locs cells slots Q (F0 mm 236 ls []) := by
  have hx := C.hx
  have hb := C.hb
  have hK := C.hK
  have hE := C.hE
  refine lv_aload_n hx hb dL_law_236 rfl (lv_at hl 1 rfl) ?_
  refine ld_arg C hS (k := 1) (lv_at hl 0 rfl) (lv_at hl 4 rfl) (by omega) (by decide) v1 rfl dL_law_237 dL_law_238 dL_law_240 dL_law_241 dL_law_242 ?_
  refine ld_arg C hS (k := 2) (lv_at hl 0 rfl) (lv_at hl 4 rfl) (by omega) (by decide) v2 rfl dL_law_243 dL_law_244 dL_law_246 dL_law_247 dL_law_248 ?_
  refine ld_arg C hS (k := 3) (lv_at hl 0 rfl) (lv_at hl 4 rfl) (by omega) (by decide) v3 rfl dL_law_249 dL_law_250 dL_law_252 dL_law_253 dL_law_254 ?_
  refine ld_arg C hS (k := 4) (lv_at hl 0 rfl) (lv_at hl 4 rfl) (by omega) (by decide) v4 rfl dL_law_255 dL_law_256 dL_law_258 dL_law_259 dL_law_260 ?_
  refine lv_aload_n hx hb dL_law_261 rfl (lv_at hl 3 rfl) ?_
  refine b_calliP (S := Unit) (wc := GW a cI cJ p nu de eq am nx oA oD oE oP cR aR hR cl ad gw pr n ++ [(o0, eJ cJ 1 ou)]) (wr := MW bb cI cJ p cl a2 gw oA oD oE oP cR aR hR pr sq ab be nw tn th n) (w' := fun u => GW a cI cJ p nu de eq am nx oA oD oE oP cR aR hR cl ad gw pr n ++ [(o0, eJ cJ 1 (ou))]) hP hD hS (hA_ ss) (vx_runSW (As := [.ref (a 0), .int (x0), .int (x1), .int (x), .int (pz), .ref o0]) (rest := []) C.fix (c_L_acquire_bad ll C.hst D a cI cJ _ p nu de eq am nx oA oD oE oP cR aR hR cl ad gw pr n o0 ou x0 x1 x pz hbad) (vx_cwSW 6 C.hts gL_law_L_acquire rfl rfl rfl (by decide +kernel) ⟨Nat.le_of_ble_eq_true rfl, Nat.le_of_ble_eq_true rfl⟩) ⟨PY.blind, PY.go hP hK hD hE C.hV C.hDC hS (hA_ ss)⟩ rfl rfl hl.1 rfl (lv_room (Nat.le_of_ble_eq_true rfl)) dL_law_262 ⟨(by show cells + 1 ≤ 1070; omega), (by show slots + 6 ≤ 8714; omega)⟩) (fun r9 u H locs hr9 hP hD hS => ?_)
  obtain rfl : r9 = 1 := hr9
  refine lv_istore (lv' := [(5, .int 1), (0, .ref b), (1, .ref (a 0)), (2, .ref (bb 0)), (3, .ref o0), (4, .int (nI i))]) hx hb dL_law_265 hl (by decide) rfl (fun ls hl => ?_)
  refine lv_aload_n hx hb dL_law_267 rfl (lv_at hl 3 rfl) ?_
  refine ld_arg C hS (k := 1) (lv_at hl 1 rfl) (lv_at hl 5 rfl) (by omega) (by decide) v1 rfl dL_law_268 dL_law_269 dL_law_271 dL_law_272 dL_law_273 ?_
  refine ld_arg C hS (k := 2) (lv_at hl 1 rfl) (lv_at hl 5 rfl) (by omega) (by decide) v2 rfl dL_law_274 dL_law_275 dL_law_277 dL_law_278 dL_law_279 ?_
  refine ld_arg C hS (k := 3) (lv_at hl 1 rfl) (lv_at hl 5 rfl) (by omega) (by decide) v3 rfl dL_law_280 dL_law_281 dL_law_283 dL_law_284 dL_law_285 ?_
  refine ld_arg C hS (k := 4) (lv_at hl 1 rfl) (lv_at hl 5 rfl) (by omega) (by decide) v4 rfl dL_law_286 dL_law_287 dL_law_289 dL_law_290 dL_law_291 ?_
  have hP := toMG hP
  have hD := toMGd hD
  refine b_calliP (S := Unit) (wc := MW bb cI cJ p cl a2 gw oA oD oE oP cR aR hR pr sq ab be nw tn th n) (wr := GW a cI cJ p nu de eq am nx oA oD oE oP cR aR hR cl ad gw pr n ++ [(o0, eJ cJ 1 (ou))]) (w' := fun u8 => MW bb cI cJ p cl a2 gw oA oD oE oP cR aR hR pr sq ab be nw tn 1 n) hP hD hS (hA_ ss) (va_runV (As := [.int (x0), .int (x1), .int (x), .int (pz)]) (rest := []) C.fix (c_X4_acquire_bad ll D bb cI cJ _ p cl a2 gw oA oD oE oP cR aR hR pr sq ab be nw tn th n x0 x1 x pz hbad) (cwV 4 C.hts gL_law_X4_acquire rfl rfl rfl (by decide +kernel) ⟨Nat.le_of_ble_eq_true rfl, Nat.le_of_ble_eq_true rfl⟩) ⟨PW.blind, va_recv hK hP (ci := 4) (q0 := 0) rfl rfl, PW.goP hP hK hD hE⟩ rfl rfl hl.1 rfl (lv_room (Nat.le_of_ble_eq_true rfl)) dL_law_292 ⟨(by show cells + 1 + 0 ≤ 1070; omega), (by show slots + 6 + 0 ≤ 8714; omega)⟩) (fun r8 u8 H locs hr8 hP hD hS => ?_)
  obtain rfl : r8 = 0 := hr8
  refine lv_istore (lv' := [(6, .int (0)), (5, .int 1), (0, .ref b), (1, .ref (a 0)), (2, .ref (bb 0)), (3, .ref o0), (4, .int (nI i))]) hx hb dL_law_295 hl (by decide) rfl (fun ls hl => ?_)
  refine tl_x C hP hl.1 (by decide) (lv_at hl 4 rfl) (lv_at hl 1 rfl) rfl (tg := 325) (by decide) (by decide) (by decide) dL_law_297 dL_law_298 dL_law_301 dL_law_303 dL_law_308 dL_law_310 dL_law_325 ?_ ⟨(by omega), (by omega)⟩
  refine W.widen (k := cells + 1) (n := slots + 6) (by omega) (by omega) ?_
  exact kk _ _ _ (toMG hP) (toMGd hD) hS (lv_sub hl [2, 3, 4, 5, 6] rfl)
set_option maxHeartbeats 4000000 in
set_option maxRecDepth 100000 in
theorem kv_held (o c : Nat) (ho : o < 6) (hc : c < 6)  (v1 : xs (i + 1) = nI o) (v2 : xs (i + 2) = nI c) (C : lwC pp ll ss mm mth cde b L xs D cI cJ) (hi : i + 5 < L) (hcs : cells + 1 ≤ 1070 ∧ slots + 6 ≤ 8714) (hP : va_P D vwCl (LW a bb o0 cI cJ p nu de eq am nx oA oD oE oP cR aR hR cl ad gw pr n ou p cl a2 gw oA oD oE oP cR aR hR pr sq ab be nw tn th n) H) (hD : va_D (lwA ss) (LW a bb o0 cI cJ p nu de eq am nx oA oD oE oP cR aR hR cl ad gw pr n ou p cl a2 gw oA oD oE oP cR aR hR pr sq ab be nw tn th n)) (hS : va_S (lwA ss) ss.heap H locs) (hl : lv_has ls 8 (LOC b a bb o0 i))
    (kk : ∀  (H : Heap) (locs : List Loc) (ls : Array Slot), va_P D vwCl (LW a bb o0 cI cJ p nu de eq am nx oA oD oE oP cR aR hR cl ad gw pr n (vp_updL ou 0 (p (6 * o + c)).toInt64) p cl a2 gw oA oD oE oP cR aR hR pr sq ab be nw tn 0 n) H → va_D (lwA ss) (LW a bb o0 cI cJ p nu de eq am nx oA oD oE oP cR aR hR cl ad gw pr n (vp_updL ou 0 (p (6 * o + c)).toInt64) p cl a2 gw oA oD oE oP cR aR hR pr sq ab be nw tn 0 n) → va_S (lwA ss) ss.heap H locs → lv_has ls 8 (LOC b a bb o0 i) → W pp ll ee room_1 ss mm #[Value.ref b] bel mth cde H locs (cells + 1) (slots + 6) Q (F0 mm 1472 ls [])) :
    W pp ll ee room_1 ss mm #[Value.ref b] bel mth cde H locs cells slots Q (F0 mm 328 ls []) := by
  have hx := C.hx
  have hb := C.hb
  have hK := C.hK
  have hE := C.hE
  refine lv_aload_n hx hb dL_law_328 rfl (lv_at hl 1 rfl) ?_
  refine ld_arg C hS (k := 1) (lv_at hl 0 rfl) (lv_at hl 4 rfl) (by omega) (by decide) v1 rfl dL_law_329 dL_law_330 dL_law_332 dL_law_333 dL_law_334 ?_
  refine ld_arg C hS (k := 2) (lv_at hl 0 rfl) (lv_at hl 4 rfl) (by omega) (by decide) v2 rfl dL_law_335 dL_law_336 dL_law_338 dL_law_339 dL_law_340 ?_
  refine lv_aload_n hx hb dL_law_341 rfl (lv_at hl 3 rfl) ?_
  refine b_calliP (S := Unit) (wc := GW a cI cJ p nu de eq am nx oA oD oE oP cR aR hR cl ad gw pr n ++ [(o0, eJ cJ 1 ou)]) (wr := MW bb cI cJ p cl a2 gw oA oD oE oP cR aR hR pr sq ab be nw tn th n) (w' := fun u => GW a cI cJ p nu de eq am nx oA oD oE oP cR aR hR cl ad gw pr n ++ [(o0, eJ cJ 1 (vp_updL ou 0 (p (6 * o + c)).toInt64))]) hP hD hS (hA_ ss) (vx_runSW (As := [.ref (a 0), .int (nI o), .int (nI c), .ref o0]) (rest := []) C.fix (c_L_held ll D a cI cJ _ p nu de eq am nx oA oD oE oP cR aR hR cl ad gw pr n o0 ou o c ho hc) (vx_cwSW 4 C.hts gL_law_L_held rfl rfl rfl (by decide +kernel) ⟨Nat.le_of_ble_eq_true rfl, Nat.le_of_ble_eq_true rfl⟩) ⟨PY.blind, PY.go hP hK hD hE C.hV C.hDC hS (hA_ ss)⟩ rfl rfl hl.1 rfl (lv_room (Nat.le_of_ble_eq_true rfl)) dL_law_342 ⟨(by show cells + 0 ≤ 1070; omega), (by show slots + 0 ≤ 8714; omega)⟩) (fun r9 u H locs hr9 hP hD hS => ?_)
  obtain rfl : r9 = 0 := hr9
  refine lv_istore (lv' := [(5, .int 0), (0, .ref b), (1, .ref (a 0)), (2, .ref (bb 0)), (3, .ref o0), (4, .int (nI i))]) hx hb dL_law_345 hl (by decide) rfl (fun ls hl => ?_)
  refine lv_aload_n hx hb dL_law_347 rfl (lv_at hl 3 rfl) ?_
  refine ld_arg C hS (k := 1) (lv_at hl 1 rfl) (lv_at hl 5 rfl) (by omega) (by decide) v1 rfl dL_law_348 dL_law_349 dL_law_351 dL_law_352 dL_law_353 ?_
  refine ld_arg C hS (k := 2) (lv_at hl 1 rfl) (lv_at hl 5 rfl) (by omega) (by decide) v2 rfl dL_law_354 dL_law_355 dL_law_357 dL_law_358 dL_law_359 ?_
  have hP := toMG hP
  have hD := toMGd hD
  refine b_calliP (S := Unit) (wc := MW bb cI cJ p cl a2 gw oA oD oE oP cR aR hR pr sq ab be nw tn th n) (wr := GW a cI cJ p nu de eq am nx oA oD oE oP cR aR hR cl ad gw pr n ++ [(o0, eJ cJ 1 (vp_updL ou 0 (p (6 * o + c)).toInt64))]) (w' := fun u8 => MW bb cI cJ p cl a2 gw oA oD oE oP cR aR hR pr sq ab be nw tn 0 n) hP hD hS (hA_ ss) (va_runV (As := [.int (nI o), .int (nI c)]) (rest := []) C.fix (c_X4_held ll D bb cI cJ _ p cl a2 gw oA oD oE oP cR aR hR pr sq ab be nw tn th n o c ho hc) (cwV 2 C.hts gL_law_X4_held rfl rfl rfl (by decide +kernel) ⟨Nat.le_of_ble_eq_true rfl, Nat.le_of_ble_eq_true rfl⟩) ⟨PW.blind, va_recv hK hP (ci := 4) (q0 := 0) rfl rfl, PW.goP hP hK hD hE⟩ rfl rfl hl.1 rfl (lv_room (Nat.le_of_ble_eq_true rfl)) dL_law_360 ⟨(by show cells + 0 + 0 ≤ 1070; omega), (by show slots + 0 + 0 ≤ 8714; omega)⟩) (fun r8 u8 H locs hr8 hP hD hS => ?_)
  obtain rfl : r8 = p (6 * o + c) := hr8
  refine lv_istore (lv' := [(6, .int (p (6 * o + c))), (5, .int 0), (0, .ref b), (1, .ref (a 0)), (2, .ref (bb 0)), (3, .ref o0), (4, .int (nI i))]) hx hb dL_law_363 hl (by decide) rfl (fun ls hl => ?_)
  refine tl_i C hP rfl hS hl.1 (lv_at hl 4 rfl) (lv_at hl 5 rfl) (lv_at hl 1 rfl) (lv_at hl 0 rfl) (if_pos rfl) rfl rfl (by decide) (by decide) (by decide) (by decide) dL_law_365 dL_law_366 dL_law_369 dL_law_371 dL_law_376 dL_law_378 dL_law_381 dL_law_382 dL_law_383 dL_law_384 dL_law_386 dL_law_387 dL_law_388 dL_law_393 ?_ ⟨(by omega), (by omega)⟩
  refine W.widen (k := cells + 1) (n := slots + 6) (by omega) (by omega) ?_
  exact kk _ _ _ (toMG hP) (toMGd hD) hS (lv_sub hl [2, 3, 4, 5, 6] rfl)
set_option maxHeartbeats 4000000 in
set_option maxRecDepth 100000 in
theorem kv_held_bad (x0 x1 : Int32) (hbad : ¬ (inB x0 0 5 = true ∧ inB x1 0 5 = true))  (v1 : xs (i + 1) = x0) (v2 : xs (i + 2) = x1) (C : lwC pp ll ss mm mth cde b L xs D cI cJ) (hi : i + 5 < L) (hcs : cells + 1 ≤ 1070 ∧ slots + 6 ≤ 8714) (hP : va_P D vwCl (LW a bb o0 cI cJ p nu de eq am nx oA oD oE oP cR aR hR cl ad gw pr n ou p cl a2 gw oA oD oE oP cR aR hR pr sq ab be nw tn th n) H) (hD : va_D (lwA ss) (LW a bb o0 cI cJ p nu de eq am nx oA oD oE oP cR aR hR cl ad gw pr n ou p cl a2 gw oA oD oE oP cR aR hR pr sq ab be nw tn th n)) (hS : va_S (lwA ss) ss.heap H locs) (hl : lv_has ls 8 (LOC b a bb o0 i))
    (kk : ∀  (H : Heap) (locs : List Loc) (ls : Array Slot), va_P D vwCl (LW a bb o0 cI cJ p nu de eq am nx oA oD oE oP cR aR hR cl ad gw pr n ou p cl a2 gw oA oD oE oP cR aR hR pr sq ab be nw tn 1 n) H → va_D (lwA ss) (LW a bb o0 cI cJ p nu de eq am nx oA oD oE oP cR aR hR cl ad gw pr n ou p cl a2 gw oA oD oE oP cR aR hR pr sq ab be nw tn 1 n) → va_S (lwA ss) ss.heap H locs → lv_has ls 8 (LOC b a bb o0 i) → W pp ll ee room_1 ss mm #[Value.ref b] bel mth cde H locs (cells + 1) (slots + 6) Q (F0 mm 1472 ls [])) :
    W pp ll ee room_1 ss mm #[Value.ref b] bel mth cde H locs cells slots Q (F0 mm 328 ls []) := by
  have hx := C.hx
  have hb := C.hb
  have hK := C.hK
  have hE := C.hE
  refine lv_aload_n hx hb dL_law_328 rfl (lv_at hl 1 rfl) ?_
  refine ld_arg C hS (k := 1) (lv_at hl 0 rfl) (lv_at hl 4 rfl) (by omega) (by decide) v1 rfl dL_law_329 dL_law_330 dL_law_332 dL_law_333 dL_law_334 ?_
  refine ld_arg C hS (k := 2) (lv_at hl 0 rfl) (lv_at hl 4 rfl) (by omega) (by decide) v2 rfl dL_law_335 dL_law_336 dL_law_338 dL_law_339 dL_law_340 ?_
  refine lv_aload_n hx hb dL_law_341 rfl (lv_at hl 3 rfl) ?_
  refine b_calliP (S := Unit) (wc := GW a cI cJ p nu de eq am nx oA oD oE oP cR aR hR cl ad gw pr n ++ [(o0, eJ cJ 1 ou)]) (wr := MW bb cI cJ p cl a2 gw oA oD oE oP cR aR hR pr sq ab be nw tn th n) (w' := fun u => GW a cI cJ p nu de eq am nx oA oD oE oP cR aR hR cl ad gw pr n ++ [(o0, eJ cJ 1 (ou))]) hP hD hS (hA_ ss) (vx_runSW (As := [.ref (a 0), .int (x0), .int (x1), .ref o0]) (rest := []) C.fix (c_L_held_bad ll C.hst D a cI cJ _ p nu de eq am nx oA oD oE oP cR aR hR cl ad gw pr n o0 ou x0 x1 hbad) (vx_cwSW 4 C.hts gL_law_L_held rfl rfl rfl (by decide +kernel) ⟨Nat.le_of_ble_eq_true rfl, Nat.le_of_ble_eq_true rfl⟩) ⟨PY.blind, PY.go hP hK hD hE C.hV C.hDC hS (hA_ ss)⟩ rfl rfl hl.1 rfl (lv_room (Nat.le_of_ble_eq_true rfl)) dL_law_342 ⟨(by show cells + 1 ≤ 1070; omega), (by show slots + 6 ≤ 8714; omega)⟩) (fun r9 u H locs hr9 hP hD hS => ?_)
  obtain rfl : r9 = 1 := hr9
  refine lv_istore (lv' := [(5, .int 1), (0, .ref b), (1, .ref (a 0)), (2, .ref (bb 0)), (3, .ref o0), (4, .int (nI i))]) hx hb dL_law_345 hl (by decide) rfl (fun ls hl => ?_)
  refine lv_aload_n hx hb dL_law_347 rfl (lv_at hl 3 rfl) ?_
  refine ld_arg C hS (k := 1) (lv_at hl 1 rfl) (lv_at hl 5 rfl) (by omega) (by decide) v1 rfl dL_law_348 dL_law_349 dL_law_351 dL_law_352 dL_law_353 ?_
  refine ld_arg C hS (k := 2) (lv_at hl 1 rfl) (lv_at hl 5 rfl) (by omega) (by decide) v2 rfl dL_law_354 dL_law_355 dL_law_357 dL_law_358 dL_law_359 ?_
  have hP := toMG hP
  have hD := toMGd hD
  refine b_calliP (S := Unit) (wc := MW bb cI cJ p cl a2 gw oA oD oE oP cR aR hR pr sq ab be nw tn th n) (wr := GW a cI cJ p nu de eq am nx oA oD oE oP cR aR hR cl ad gw pr n ++ [(o0, eJ cJ 1 (ou))]) (w' := fun u8 => MW bb cI cJ p cl a2 gw oA oD oE oP cR aR hR pr sq ab be nw tn 1 n) hP hD hS (hA_ ss) (va_runV (As := [.int (x0), .int (x1)]) (rest := []) C.fix (c_X4_held_bad ll D bb cI cJ _ p cl a2 gw oA oD oE oP cR aR hR pr sq ab be nw tn th n x0 x1 hbad) (cwV 2 C.hts gL_law_X4_held rfl rfl rfl (by decide +kernel) ⟨Nat.le_of_ble_eq_true rfl, Nat.le_of_ble_eq_true rfl⟩) ⟨PW.blind, va_recv hK hP (ci := 4) (q0 := 0) rfl rfl, PW.goP hP hK hD hE⟩ rfl rfl hl.1 rfl (lv_room (Nat.le_of_ble_eq_true rfl)) dL_law_360 ⟨(by show cells + 1 + 0 ≤ 1070; omega), (by show slots + 6 + 0 ≤ 8714; omega)⟩) (fun r8 u8 H locs hr8 hP hD hS => ?_)
  obtain rfl : r8 = 0 := hr8
  refine lv_istore (lv' := [(6, .int (0)), (5, .int 1), (0, .ref b), (1, .ref (a 0)), (2, .ref (bb 0)), (3, .ref o0), (4, .int (nI i))]) hx hb dL_law_363 hl (by decide) rfl (fun ls hl => ?_)
  refine tl_x C hP hl.1 (by decide) (lv_at hl 4 rfl) (lv_at hl 1 rfl) rfl (tg := 393) (by decide) (by decide) (by decide) dL_law_365 dL_law_366 dL_law_369 dL_law_371 dL_law_376 dL_law_378 dL_law_393 ?_ ⟨(by omega), (by omega)⟩
  refine W.widen (k := cells + 1) (n := slots + 6) (by omega) (by omega) ?_
  exact kk _ _ _ (toMG hP) (toMGd hD) hS (lv_sub hl [2, 3, 4, 5, 6] rfl)
set_option maxHeartbeats 4000000 in
set_option maxRecDepth 100000 in
theorem kv_shareNumerator (c : Nat) (hc : c < 6) (hB : okB p) (hW : ¬ dW p 0 = 0) (hq : nu c = aF p c) (v1 : xs (i + 1) = nI c) (C : lwC pp ll ss mm mth cde b L xs D cI cJ) (hi : i + 5 < L) (hcs : cells + 1 ≤ 1070 ∧ slots + 6 ≤ 8714) (hP : va_P D vwCl (LW a bb o0 cI cJ p nu de eq am nx oA oD oE oP cR aR hR cl ad gw pr n ou p cl a2 gw oA oD oE oP cR aR hR pr sq ab be nw tn th n) H) (hD : va_D (lwA ss) (LW a bb o0 cI cJ p nu de eq am nx oA oD oE oP cR aR hR cl ad gw pr n ou p cl a2 gw oA oD oE oP cR aR hR pr sq ab be nw tn th n)) (hS : va_S (lwA ss) ss.heap H locs) (hl : lv_has ls 8 (LOC b a bb o0 i))
    (kk : ∀ (u8 : (Nat → Int64) × (Nat → Int64) × (Nat → Int64)) (H : Heap) (locs : List Loc) (ls : Array Slot), va_P D vwCl (LW a bb o0 cI cJ p nu de eq am nx oA oD oE oP cR aR hR cl ad gw pr n (vp_updL ou 0 (nu c)) p cl a2 gw oA oD oE oP cR aR hR pr (u8.1) (u8.2.1) (u8.2.2) nw tn 0 n) H → va_D (lwA ss) (LW a bb o0 cI cJ p nu de eq am nx oA oD oE oP cR aR hR cl ad gw pr n (vp_updL ou 0 (nu c)) p cl a2 gw oA oD oE oP cR aR hR pr (u8.1) (u8.2.1) (u8.2.2) nw tn 0 n) → va_S (lwA ss) ss.heap H locs → lv_has ls 8 (LOC b a bb o0 i) → W pp ll ee room_1 ss mm #[Value.ref b] bel mth cde H locs (cells + 1) (slots + 6) Q (F0 mm 1472 ls [])) :
    W pp ll ee room_1 ss mm #[Value.ref b] bel mth cde H locs cells slots Q (F0 mm 396 ls []) := by
  have hx := C.hx
  have hb := C.hb
  have hK := C.hK
  have hE := C.hE
  refine lv_aload_n hx hb dL_law_396 rfl (lv_at hl 1 rfl) ?_
  refine ld_arg C hS (k := 1) (lv_at hl 0 rfl) (lv_at hl 4 rfl) (by omega) (by decide) v1 rfl dL_law_397 dL_law_398 dL_law_400 dL_law_401 dL_law_402 ?_
  refine lv_aload_n hx hb dL_law_403 rfl (lv_at hl 3 rfl) ?_
  refine b_calliP (S := Unit) (wc := GW a cI cJ p nu de eq am nx oA oD oE oP cR aR hR cl ad gw pr n ++ [(o0, eJ cJ 1 ou)]) (wr := MW bb cI cJ p cl a2 gw oA oD oE oP cR aR hR pr sq ab be nw tn th n) (w' := fun u => GW a cI cJ p nu de eq am nx oA oD oE oP cR aR hR cl ad gw pr n ++ [(o0, eJ cJ 1 (vp_updL ou 0 (nu c)))]) hP hD hS (hA_ ss) (vx_runSW (As := [.ref (a 0), .int (nI c), .ref o0]) (rest := []) C.fix (c_L_shareNumerator ll D a cI cJ _ p nu de eq am nx oA oD oE oP cR aR hR cl ad gw pr n o0 ou c hc) (vx_cwSW 3 C.hts gL_law_L_shareNumerator rfl rfl rfl (by decide +kernel) ⟨Nat.le_of_ble_eq_true rfl, Nat.le_of_ble_eq_true rfl⟩) ⟨PY.blind, PY.go hP hK hD hE C.hV C.hDC hS (hA_ ss)⟩ rfl rfl hl.1 rfl (lv_room (Nat.le_of_ble_eq_true rfl)) dL_law_404 ⟨(by show cells + 0 ≤ 1070; omega), (by show slots + 0 ≤ 8714; omega)⟩) (fun r9 u H locs hr9 hP hD hS => ?_)
  obtain rfl : r9 = 0 := hr9
  refine lv_istore (lv' := [(5, .int 0), (0, .ref b), (1, .ref (a 0)), (2, .ref (bb 0)), (3, .ref o0), (4, .int (nI i))]) hx hb dL_law_407 hl (by decide) rfl (fun ls hl => ?_)
  refine lv_aload_n hx hb dL_law_409 rfl (lv_at hl 3 rfl) ?_
  refine ld_arg C hS (k := 1) (lv_at hl 1 rfl) (lv_at hl 5 rfl) (by omega) (by decide) v1 rfl dL_law_410 dL_law_411 dL_law_413 dL_law_414 dL_law_415 ?_
  have hP := toMG hP
  have hD := toMGd hD
  refine b_calllP (S := (Nat → Int64) × (Nat → Int64) × (Nat → Int64)) (wc := MW bb cI cJ p cl a2 gw oA oD oE oP cR aR hR pr sq ab be nw tn th n) (wr := GW a cI cJ p nu de eq am nx oA oD oE oP cR aR hR cl ad gw pr n ++ [(o0, eJ cJ 1 (vp_updL ou 0 (nu c)))]) (w' := fun u8 => MW bb cI cJ p cl a2 gw oA oD oE oP cR aR hR pr (u8.1) (u8.2.1) (u8.2.2) nw tn 0 n) hP hD hS (hA_ ss) (va_runV (As := [.int (nI c)]) (rest := []) C.fix (c_X4_shareNumerator ll D bb cI cJ _ p cl a2 gw oA oD oE oP cR aR hR pr sq ab be nw tn th n c hc hB hW) (cwV 1 C.hts gL_law_X4_shareNumerator rfl rfl rfl (by decide +kernel) ⟨Nat.le_of_ble_eq_true rfl, Nat.le_of_ble_eq_true rfl⟩) ⟨PW.blind, va_recv hK hP (ci := 4) (q0 := 0) rfl rfl, PW.goP hP hK hD hE⟩ rfl rfl hl.1 rfl (lv_room (Nat.le_of_ble_eq_true rfl)) dL_law_416 ⟨(by show cells + 0 + 0 ≤ 1070; omega), (by show slots + 0 + 0 ≤ 8714; omega)⟩) (fun r8 u8 H locs hr8 hP hD hS => ?_)
  obtain rfl : r8 = aF p c := hr8
  refine lv_lstore (lv' := [(6, .long (aF p c)), (5, .int 0), (0, .ref b), (1, .ref (a 0)), (2, .ref (bb 0)), (3, .ref o0), (4, .int (nI i))]) hx hb dL_law_419 hl (by decide) rfl (fun ls hl => ?_)
  refine tl_l C hP rfl hS hl.1 (lv_at hl 4 rfl) (lv_at hl 5 rfl) (lv_at hl 1 rfl) (lv_at hl 0 rfl) ((if_pos rfl).trans hq) rfl rfl (by decide) (by decide) (by decide) (by decide) dL_law_421 dL_law_422 dL_law_425 dL_law_427 dL_law_432 dL_law_434 dL_law_437 dL_law_438 dL_law_439 dL_law_440 dL_law_442 dL_law_443 dL_law_448 ?_ ⟨(by omega), (by omega)⟩
  refine W.widen (k := cells + 1) (n := slots + 6) (by omega) (by omega) ?_
  exact kk u8 _ _ _ (toMG hP) (toMGd hD) hS (lv_sub hl [2, 3, 4, 5, 6] rfl)
set_option maxHeartbeats 4000000 in
set_option maxRecDepth 100000 in
theorem kv_shareNumerator_bad (x0 : Int32) (hbad : ¬ inB x0 0 5 = true)  (v1 : xs (i + 1) = x0) (C : lwC pp ll ss mm mth cde b L xs D cI cJ) (hi : i + 5 < L) (hcs : cells + 1 ≤ 1070 ∧ slots + 6 ≤ 8714) (hP : va_P D vwCl (LW a bb o0 cI cJ p nu de eq am nx oA oD oE oP cR aR hR cl ad gw pr n ou p cl a2 gw oA oD oE oP cR aR hR pr sq ab be nw tn th n) H) (hD : va_D (lwA ss) (LW a bb o0 cI cJ p nu de eq am nx oA oD oE oP cR aR hR cl ad gw pr n ou p cl a2 gw oA oD oE oP cR aR hR pr sq ab be nw tn th n)) (hS : va_S (lwA ss) ss.heap H locs) (hl : lv_has ls 8 (LOC b a bb o0 i))
    (kk : ∀  (H : Heap) (locs : List Loc) (ls : Array Slot), va_P D vwCl (LW a bb o0 cI cJ p nu de eq am nx oA oD oE oP cR aR hR cl ad gw pr n ou p cl a2 gw oA oD oE oP cR aR hR pr sq ab be nw tn 1 n) H → va_D (lwA ss) (LW a bb o0 cI cJ p nu de eq am nx oA oD oE oP cR aR hR cl ad gw pr n ou p cl a2 gw oA oD oE oP cR aR hR pr sq ab be nw tn 1 n) → va_S (lwA ss) ss.heap H locs → lv_has ls 8 (LOC b a bb o0 i) → W pp ll ee room_1 ss mm #[Value.ref b] bel mth cde H locs (cells + 1) (slots + 6) Q (F0 mm 1472 ls [])) :
    W pp ll ee room_1 ss mm #[Value.ref b] bel mth cde H locs cells slots Q (F0 mm 396 ls []) := by
  have hx := C.hx
  have hb := C.hb
  have hK := C.hK
  have hE := C.hE
  refine lv_aload_n hx hb dL_law_396 rfl (lv_at hl 1 rfl) ?_
  refine ld_arg C hS (k := 1) (lv_at hl 0 rfl) (lv_at hl 4 rfl) (by omega) (by decide) v1 rfl dL_law_397 dL_law_398 dL_law_400 dL_law_401 dL_law_402 ?_
  refine lv_aload_n hx hb dL_law_403 rfl (lv_at hl 3 rfl) ?_
  refine b_calliP (S := Unit) (wc := GW a cI cJ p nu de eq am nx oA oD oE oP cR aR hR cl ad gw pr n ++ [(o0, eJ cJ 1 ou)]) (wr := MW bb cI cJ p cl a2 gw oA oD oE oP cR aR hR pr sq ab be nw tn th n) (w' := fun u => GW a cI cJ p nu de eq am nx oA oD oE oP cR aR hR cl ad gw pr n ++ [(o0, eJ cJ 1 (ou))]) hP hD hS (hA_ ss) (vx_runSW (As := [.ref (a 0), .int (x0), .ref o0]) (rest := []) C.fix (c_L_shareNumerator_bad ll C.hst D a cI cJ _ p nu de eq am nx oA oD oE oP cR aR hR cl ad gw pr n o0 ou x0 hbad) (vx_cwSW 3 C.hts gL_law_L_shareNumerator rfl rfl rfl (by decide +kernel) ⟨Nat.le_of_ble_eq_true rfl, Nat.le_of_ble_eq_true rfl⟩) ⟨PY.blind, PY.go hP hK hD hE C.hV C.hDC hS (hA_ ss)⟩ rfl rfl hl.1 rfl (lv_room (Nat.le_of_ble_eq_true rfl)) dL_law_404 ⟨(by show cells + 1 ≤ 1070; omega), (by show slots + 6 ≤ 8714; omega)⟩) (fun r9 u H locs hr9 hP hD hS => ?_)
  obtain rfl : r9 = 1 := hr9
  refine lv_istore (lv' := [(5, .int 1), (0, .ref b), (1, .ref (a 0)), (2, .ref (bb 0)), (3, .ref o0), (4, .int (nI i))]) hx hb dL_law_407 hl (by decide) rfl (fun ls hl => ?_)
  refine lv_aload_n hx hb dL_law_409 rfl (lv_at hl 3 rfl) ?_
  refine ld_arg C hS (k := 1) (lv_at hl 1 rfl) (lv_at hl 5 rfl) (by omega) (by decide) v1 rfl dL_law_410 dL_law_411 dL_law_413 dL_law_414 dL_law_415 ?_
  have hP := toMG hP
  have hD := toMGd hD
  refine b_calllP (S := Unit) (wc := MW bb cI cJ p cl a2 gw oA oD oE oP cR aR hR pr sq ab be nw tn th n) (wr := GW a cI cJ p nu de eq am nx oA oD oE oP cR aR hR cl ad gw pr n ++ [(o0, eJ cJ 1 (ou))]) (w' := fun u8 => MW bb cI cJ p cl a2 gw oA oD oE oP cR aR hR pr sq ab be nw tn 1 n) hP hD hS (hA_ ss) (va_runV (As := [.int (x0)]) (rest := []) C.fix (c_X4_shareNumerator_bad ll D bb cI cJ _ p cl a2 gw oA oD oE oP cR aR hR pr sq ab be nw tn th n x0 hbad) (cwV 1 C.hts gL_law_X4_shareNumerator rfl rfl rfl (by decide +kernel) ⟨Nat.le_of_ble_eq_true rfl, Nat.le_of_ble_eq_true rfl⟩) ⟨PW.blind, va_recv hK hP (ci := 4) (q0 := 0) rfl rfl, PW.goP hP hK hD hE⟩ rfl rfl hl.1 rfl (lv_room (Nat.le_of_ble_eq_true rfl)) dL_law_416 ⟨(by show cells + 1 + 0 ≤ 1070; omega), (by show slots + 6 + 0 ≤ 8714; omega)⟩) (fun r8 u8 H locs hr8 hP hD hS => ?_)
  obtain rfl : r8 = (0 : Int32).toInt64 := hr8
  refine lv_lstore (lv' := [(6, .long ((0 : Int32).toInt64)), (5, .int 1), (0, .ref b), (1, .ref (a 0)), (2, .ref (bb 0)), (3, .ref o0), (4, .int (nI i))]) hx hb dL_law_419 hl (by decide) rfl (fun ls hl => ?_)
  refine tl_x C hP hl.1 (by decide) (lv_at hl 4 rfl) (lv_at hl 1 rfl) rfl (tg := 448) (by decide) (by decide) (by decide) dL_law_421 dL_law_422 dL_law_425 dL_law_427 dL_law_432 dL_law_434 dL_law_448 ?_ ⟨(by omega), (by omega)⟩
  refine W.widen (k := cells + 1) (n := slots + 6) (by omega) (by omega) ?_
  exact kk _ _ _ (toMG hP) (toMGd hD) hS (lv_sub hl [2, 3, 4, 5, 6] rfl)
set_option maxHeartbeats 4000000 in
set_option maxRecDepth 100000 in
theorem kv_shareDenominator (c : Nat) (hc : c < 6) (hB : okB p) (hW : ¬ dW p 0 = 0) (hq : de c = bF p c) (v1 : xs (i + 1) = nI c) (C : lwC pp ll ss mm mth cde b L xs D cI cJ) (hi : i + 5 < L) (hcs : cells + 1 ≤ 1070 ∧ slots + 6 ≤ 8714) (hP : va_P D vwCl (LW a bb o0 cI cJ p nu de eq am nx oA oD oE oP cR aR hR cl ad gw pr n ou p cl a2 gw oA oD oE oP cR aR hR pr sq ab be nw tn th n) H) (hD : va_D (lwA ss) (LW a bb o0 cI cJ p nu de eq am nx oA oD oE oP cR aR hR cl ad gw pr n ou p cl a2 gw oA oD oE oP cR aR hR pr sq ab be nw tn th n)) (hS : va_S (lwA ss) ss.heap H locs) (hl : lv_has ls 8 (LOC b a bb o0 i))
    (kk : ∀ (u8 : (Nat → Int64) × (Nat → Int64) × (Nat → Int64)) (H : Heap) (locs : List Loc) (ls : Array Slot), va_P D vwCl (LW a bb o0 cI cJ p nu de eq am nx oA oD oE oP cR aR hR cl ad gw pr n (vp_updL ou 0 (de c)) p cl a2 gw oA oD oE oP cR aR hR pr (u8.1) (u8.2.1) (u8.2.2) nw tn 0 n) H → va_D (lwA ss) (LW a bb o0 cI cJ p nu de eq am nx oA oD oE oP cR aR hR cl ad gw pr n (vp_updL ou 0 (de c)) p cl a2 gw oA oD oE oP cR aR hR pr (u8.1) (u8.2.1) (u8.2.2) nw tn 0 n) → va_S (lwA ss) ss.heap H locs → lv_has ls 8 (LOC b a bb o0 i) → W pp ll ee room_1 ss mm #[Value.ref b] bel mth cde H locs (cells + 1) (slots + 6) Q (F0 mm 1472 ls [])) :
    W pp ll ee room_1 ss mm #[Value.ref b] bel mth cde H locs cells slots Q (F0 mm 451 ls []) := by
  have hx := C.hx
  have hb := C.hb
  have hK := C.hK
  have hE := C.hE
  refine lv_aload_n hx hb dL_law_451 rfl (lv_at hl 1 rfl) ?_
  refine ld_arg C hS (k := 1) (lv_at hl 0 rfl) (lv_at hl 4 rfl) (by omega) (by decide) v1 rfl dL_law_452 dL_law_453 dL_law_455 dL_law_456 dL_law_457 ?_
  refine lv_aload_n hx hb dL_law_458 rfl (lv_at hl 3 rfl) ?_
  refine b_calliP (S := Unit) (wc := GW a cI cJ p nu de eq am nx oA oD oE oP cR aR hR cl ad gw pr n ++ [(o0, eJ cJ 1 ou)]) (wr := MW bb cI cJ p cl a2 gw oA oD oE oP cR aR hR pr sq ab be nw tn th n) (w' := fun u => GW a cI cJ p nu de eq am nx oA oD oE oP cR aR hR cl ad gw pr n ++ [(o0, eJ cJ 1 (vp_updL ou 0 (de c)))]) hP hD hS (hA_ ss) (vx_runSW (As := [.ref (a 0), .int (nI c), .ref o0]) (rest := []) C.fix (c_L_shareDenominator ll D a cI cJ _ p nu de eq am nx oA oD oE oP cR aR hR cl ad gw pr n o0 ou c hc) (vx_cwSW 3 C.hts gL_law_L_shareDenominator rfl rfl rfl (by decide +kernel) ⟨Nat.le_of_ble_eq_true rfl, Nat.le_of_ble_eq_true rfl⟩) ⟨PY.blind, PY.go hP hK hD hE C.hV C.hDC hS (hA_ ss)⟩ rfl rfl hl.1 rfl (lv_room (Nat.le_of_ble_eq_true rfl)) dL_law_459 ⟨(by show cells + 0 ≤ 1070; omega), (by show slots + 0 ≤ 8714; omega)⟩) (fun r9 u H locs hr9 hP hD hS => ?_)
  obtain rfl : r9 = 0 := hr9
  refine lv_istore (lv' := [(5, .int 0), (0, .ref b), (1, .ref (a 0)), (2, .ref (bb 0)), (3, .ref o0), (4, .int (nI i))]) hx hb dL_law_462 hl (by decide) rfl (fun ls hl => ?_)
  refine lv_aload_n hx hb dL_law_464 rfl (lv_at hl 3 rfl) ?_
  refine ld_arg C hS (k := 1) (lv_at hl 1 rfl) (lv_at hl 5 rfl) (by omega) (by decide) v1 rfl dL_law_465 dL_law_466 dL_law_468 dL_law_469 dL_law_470 ?_
  have hP := toMG hP
  have hD := toMGd hD
  refine b_calllP (S := (Nat → Int64) × (Nat → Int64) × (Nat → Int64)) (wc := MW bb cI cJ p cl a2 gw oA oD oE oP cR aR hR pr sq ab be nw tn th n) (wr := GW a cI cJ p nu de eq am nx oA oD oE oP cR aR hR cl ad gw pr n ++ [(o0, eJ cJ 1 (vp_updL ou 0 (de c)))]) (w' := fun u8 => MW bb cI cJ p cl a2 gw oA oD oE oP cR aR hR pr (u8.1) (u8.2.1) (u8.2.2) nw tn 0 n) hP hD hS (hA_ ss) (va_runV (As := [.int (nI c)]) (rest := []) C.fix (c_X4_shareDenominator ll D bb cI cJ _ p cl a2 gw oA oD oE oP cR aR hR pr sq ab be nw tn th n c hc hB hW) (cwV 1 C.hts gL_law_X4_shareDenominator rfl rfl rfl (by decide +kernel) ⟨Nat.le_of_ble_eq_true rfl, Nat.le_of_ble_eq_true rfl⟩) ⟨PW.blind, va_recv hK hP (ci := 4) (q0 := 0) rfl rfl, PW.goP hP hK hD hE⟩ rfl rfl hl.1 rfl (lv_room (Nat.le_of_ble_eq_true rfl)) dL_law_471 ⟨(by show cells + 0 + 0 ≤ 1070; omega), (by show slots + 0 + 0 ≤ 8714; omega)⟩) (fun r8 u8 H locs hr8 hP hD hS => ?_)
  obtain rfl : r8 = bF p c := hr8
  refine lv_lstore (lv' := [(6, .long (bF p c)), (5, .int 0), (0, .ref b), (1, .ref (a 0)), (2, .ref (bb 0)), (3, .ref o0), (4, .int (nI i))]) hx hb dL_law_474 hl (by decide) rfl (fun ls hl => ?_)
  refine tl_l C hP rfl hS hl.1 (lv_at hl 4 rfl) (lv_at hl 5 rfl) (lv_at hl 1 rfl) (lv_at hl 0 rfl) ((if_pos rfl).trans hq) rfl rfl (by decide) (by decide) (by decide) (by decide) dL_law_476 dL_law_477 dL_law_480 dL_law_482 dL_law_487 dL_law_489 dL_law_492 dL_law_493 dL_law_494 dL_law_495 dL_law_497 dL_law_498 dL_law_503 ?_ ⟨(by omega), (by omega)⟩
  refine W.widen (k := cells + 1) (n := slots + 6) (by omega) (by omega) ?_
  exact kk u8 _ _ _ (toMG hP) (toMGd hD) hS (lv_sub hl [2, 3, 4, 5, 6] rfl)
set_option maxHeartbeats 4000000 in
set_option maxRecDepth 100000 in
theorem kv_shareDenominator_bad (x0 : Int32) (hbad : ¬ inB x0 0 5 = true)  (v1 : xs (i + 1) = x0) (C : lwC pp ll ss mm mth cde b L xs D cI cJ) (hi : i + 5 < L) (hcs : cells + 1 ≤ 1070 ∧ slots + 6 ≤ 8714) (hP : va_P D vwCl (LW a bb o0 cI cJ p nu de eq am nx oA oD oE oP cR aR hR cl ad gw pr n ou p cl a2 gw oA oD oE oP cR aR hR pr sq ab be nw tn th n) H) (hD : va_D (lwA ss) (LW a bb o0 cI cJ p nu de eq am nx oA oD oE oP cR aR hR cl ad gw pr n ou p cl a2 gw oA oD oE oP cR aR hR pr sq ab be nw tn th n)) (hS : va_S (lwA ss) ss.heap H locs) (hl : lv_has ls 8 (LOC b a bb o0 i))
    (kk : ∀  (H : Heap) (locs : List Loc) (ls : Array Slot), va_P D vwCl (LW a bb o0 cI cJ p nu de eq am nx oA oD oE oP cR aR hR cl ad gw pr n ou p cl a2 gw oA oD oE oP cR aR hR pr sq ab be nw tn 1 n) H → va_D (lwA ss) (LW a bb o0 cI cJ p nu de eq am nx oA oD oE oP cR aR hR cl ad gw pr n ou p cl a2 gw oA oD oE oP cR aR hR pr sq ab be nw tn 1 n) → va_S (lwA ss) ss.heap H locs → lv_has ls 8 (LOC b a bb o0 i) → W pp ll ee room_1 ss mm #[Value.ref b] bel mth cde H locs (cells + 1) (slots + 6) Q (F0 mm 1472 ls [])) :
    W pp ll ee room_1 ss mm #[Value.ref b] bel mth cde H locs cells slots Q (F0 mm 451 ls []) := by
  have hx := C.hx
  have hb := C.hb
  have hK := C.hK
  have hE := C.hE
  refine lv_aload_n hx hb dL_law_451 rfl (lv_at hl 1 rfl) ?_
  refine ld_arg C hS (k := 1) (lv_at hl 0 rfl) (lv_at hl 4 rfl) (by omega) (by decide) v1 rfl dL_law_452 dL_law_453 dL_law_455 dL_law_456 dL_law_457 ?_
  refine lv_aload_n hx hb dL_law_458 rfl (lv_at hl 3 rfl) ?_
  refine b_calliP (S := Unit) (wc := GW a cI cJ p nu de eq am nx oA oD oE oP cR aR hR cl ad gw pr n ++ [(o0, eJ cJ 1 ou)]) (wr := MW bb cI cJ p cl a2 gw oA oD oE oP cR aR hR pr sq ab be nw tn th n) (w' := fun u => GW a cI cJ p nu de eq am nx oA oD oE oP cR aR hR cl ad gw pr n ++ [(o0, eJ cJ 1 (ou))]) hP hD hS (hA_ ss) (vx_runSW (As := [.ref (a 0), .int (x0), .ref o0]) (rest := []) C.fix (c_L_shareDenominator_bad ll C.hst D a cI cJ _ p nu de eq am nx oA oD oE oP cR aR hR cl ad gw pr n o0 ou x0 hbad) (vx_cwSW 3 C.hts gL_law_L_shareDenominator rfl rfl rfl (by decide +kernel) ⟨Nat.le_of_ble_eq_true rfl, Nat.le_of_ble_eq_true rfl⟩) ⟨PY.blind, PY.go hP hK hD hE C.hV C.hDC hS (hA_ ss)⟩ rfl rfl hl.1 rfl (lv_room (Nat.le_of_ble_eq_true rfl)) dL_law_459 ⟨(by show cells + 1 ≤ 1070; omega), (by show slots + 6 ≤ 8714; omega)⟩) (fun r9 u H locs hr9 hP hD hS => ?_)
  obtain rfl : r9 = 1 := hr9
  refine lv_istore (lv' := [(5, .int 1), (0, .ref b), (1, .ref (a 0)), (2, .ref (bb 0)), (3, .ref o0), (4, .int (nI i))]) hx hb dL_law_462 hl (by decide) rfl (fun ls hl => ?_)
  refine lv_aload_n hx hb dL_law_464 rfl (lv_at hl 3 rfl) ?_
  refine ld_arg C hS (k := 1) (lv_at hl 1 rfl) (lv_at hl 5 rfl) (by omega) (by decide) v1 rfl dL_law_465 dL_law_466 dL_law_468 dL_law_469 dL_law_470 ?_
  have hP := toMG hP
  have hD := toMGd hD
  refine b_calllP (S := Unit) (wc := MW bb cI cJ p cl a2 gw oA oD oE oP cR aR hR pr sq ab be nw tn th n) (wr := GW a cI cJ p nu de eq am nx oA oD oE oP cR aR hR cl ad gw pr n ++ [(o0, eJ cJ 1 (ou))]) (w' := fun u8 => MW bb cI cJ p cl a2 gw oA oD oE oP cR aR hR pr sq ab be nw tn 1 n) hP hD hS (hA_ ss) (va_runV (As := [.int (x0)]) (rest := []) C.fix (c_X4_shareDenominator_bad ll D bb cI cJ _ p cl a2 gw oA oD oE oP cR aR hR pr sq ab be nw tn th n x0 hbad) (cwV 1 C.hts gL_law_X4_shareDenominator rfl rfl rfl (by decide +kernel) ⟨Nat.le_of_ble_eq_true rfl, Nat.le_of_ble_eq_true rfl⟩) ⟨PW.blind, va_recv hK hP (ci := 4) (q0 := 0) rfl rfl, PW.goP hP hK hD hE⟩ rfl rfl hl.1 rfl (lv_room (Nat.le_of_ble_eq_true rfl)) dL_law_471 ⟨(by show cells + 1 + 0 ≤ 1070; omega), (by show slots + 6 + 0 ≤ 8714; omega)⟩) (fun r8 u8 H locs hr8 hP hD hS => ?_)
  obtain rfl : r8 = (0 : Int32).toInt64 := hr8
  refine lv_lstore (lv' := [(6, .long ((0 : Int32).toInt64)), (5, .int 1), (0, .ref b), (1, .ref (a 0)), (2, .ref (bb 0)), (3, .ref o0), (4, .int (nI i))]) hx hb dL_law_474 hl (by decide) rfl (fun ls hl => ?_)
  refine tl_x C hP hl.1 (by decide) (lv_at hl 4 rfl) (lv_at hl 1 rfl) rfl (tg := 503) (by decide) (by decide) (by decide) dL_law_476 dL_law_477 dL_law_480 dL_law_482 dL_law_487 dL_law_489 dL_law_503 ?_ ⟨(by omega), (by omega)⟩
  refine W.widen (k := cells + 1) (n := slots + 6) (by omega) (by omega) ?_
  exact kk _ _ _ (toMG hP) (toMGd hD) hS (lv_sub hl [2, 3, 4, 5, 6] rfl)
set_option maxHeartbeats 4000000 in
set_option maxRecDepth 100000 in
theorem kv_shareByRounds (c nr : Nat) (hc : c < 6) (hn : nr ≤ 200) (hqn : inB (nI nr) 0 200 = true) (hq : (mr p am nx nr).1 c = (mr p nw tn nr).1 c) (v1 : xs (i + 1) = nI c) (v2 : xs (i + 2) = nI nr) (C : lwC pp ll ss mm mth cde b L xs D cI cJ) (hi : i + 5 < L) (hcs : cells + 1 ≤ 1070 ∧ slots + 6 ≤ 8714) (hP : va_P D vwCl (LW a bb o0 cI cJ p nu de eq am nx oA oD oE oP cR aR hR cl ad gw pr n ou p cl a2 gw oA oD oE oP cR aR hR pr sq ab be nw tn th n) H) (hD : va_D (lwA ss) (LW a bb o0 cI cJ p nu de eq am nx oA oD oE oP cR aR hR cl ad gw pr n ou p cl a2 gw oA oD oE oP cR aR hR pr sq ab be nw tn th n)) (hS : va_S (lwA ss) ss.heap H locs) (hl : lv_has ls 8 (LOC b a bb o0 i))
    (kk : ∀  (H : Heap) (locs : List Loc) (ls : Array Slot), va_P D vwCl (LW a bb o0 cI cJ p nu de eq ((mr p am nx nr).1) ((mr p am nx nr).2) oA oD oE oP cR aR hR cl ad gw pr n (vp_updL ou 0 ((mr p am nx nr).1 c).toInt64) p cl a2 gw oA oD oE oP cR aR hR pr sq ab be ((mr p nw tn nr).1) ((mr p nw tn nr).2) 0 n) H → va_D (lwA ss) (LW a bb o0 cI cJ p nu de eq ((mr p am nx nr).1) ((mr p am nx nr).2) oA oD oE oP cR aR hR cl ad gw pr n (vp_updL ou 0 ((mr p am nx nr).1 c).toInt64) p cl a2 gw oA oD oE oP cR aR hR pr sq ab be ((mr p nw tn nr).1) ((mr p nw tn nr).2) 0 n) → va_S (lwA ss) ss.heap H locs → lv_has ls 8 (LOC b a bb o0 i) → W pp ll ee room_1 ss mm #[Value.ref b] bel mth cde H locs (cells + 1) (slots + 6) Q (F0 mm 1472 ls [])) :
    W pp ll ee room_1 ss mm #[Value.ref b] bel mth cde H locs cells slots Q (F0 mm 506 ls []) := by
  have hx := C.hx
  have hb := C.hb
  have hK := C.hK
  have hE := C.hE
  refine lv_aload_n hx hb dL_law_506 rfl (lv_at hl 1 rfl) ?_
  refine ld_arg C hS (k := 1) (lv_at hl 0 rfl) (lv_at hl 4 rfl) (by omega) (by decide) v1 rfl dL_law_507 dL_law_508 dL_law_510 dL_law_511 dL_law_512 ?_
  refine ld_arg C hS (k := 2) (lv_at hl 0 rfl) (lv_at hl 4 rfl) (by omega) (by decide) v2 rfl dL_law_513 dL_law_514 dL_law_516 dL_law_517 dL_law_518 ?_
  refine lv_aload_n hx hb dL_law_519 rfl (lv_at hl 3 rfl) ?_
  refine b_calliP (S := Unit) (wc := GW a cI cJ p nu de eq am nx oA oD oE oP cR aR hR cl ad gw pr n ++ [(o0, eJ cJ 1 ou)]) (wr := MW bb cI cJ p cl a2 gw oA oD oE oP cR aR hR pr sq ab be nw tn th n) (w' := fun u => GW a cI cJ p nu de eq ((mr p am nx nr).1) ((mr p am nx nr).2) oA oD oE oP cR aR hR cl ad gw pr n ++ [(o0, eJ cJ 1 (vp_updL ou 0 ((mr p am nx nr).1 c).toInt64))]) hP hD hS (hA_ ss) (vx_runSW (As := [.ref (a 0), .int (nI c), .int (nI nr), .ref o0]) (rest := []) C.fix (c_L_shareByRounds ll D a cI cJ _ p nu de eq am nx oA oD oE oP cR aR hR cl ad gw pr n o0 ou c nr hc hn hqn) (vx_cwSW 4 C.hts gL_law_L_shareByRounds rfl rfl rfl (by decide +kernel) ⟨Nat.le_of_ble_eq_true rfl, Nat.le_of_ble_eq_true rfl⟩) ⟨PY.blind, PY.go hP hK hD hE C.hV C.hDC hS (hA_ ss)⟩ rfl rfl hl.1 rfl (lv_room (Nat.le_of_ble_eq_true rfl)) dL_law_520 ⟨(by show cells + 0 ≤ 1070; omega), (by show slots + 0 ≤ 8714; omega)⟩) (fun r9 u H locs hr9 hP hD hS => ?_)
  obtain rfl : r9 = 0 := hr9
  refine lv_istore (lv' := [(5, .int 0), (0, .ref b), (1, .ref (a 0)), (2, .ref (bb 0)), (3, .ref o0), (4, .int (nI i))]) hx hb dL_law_523 hl (by decide) rfl (fun ls hl => ?_)
  refine lv_aload_n hx hb dL_law_525 rfl (lv_at hl 3 rfl) ?_
  refine ld_arg C hS (k := 1) (lv_at hl 1 rfl) (lv_at hl 5 rfl) (by omega) (by decide) v1 rfl dL_law_526 dL_law_527 dL_law_529 dL_law_530 dL_law_531 ?_
  refine ld_arg C hS (k := 2) (lv_at hl 1 rfl) (lv_at hl 5 rfl) (by omega) (by decide) v2 rfl dL_law_532 dL_law_533 dL_law_535 dL_law_536 dL_law_537 ?_
  have hP := toMG hP
  have hD := toMGd hD
  refine b_calliP (S := Unit) (wc := MW bb cI cJ p cl a2 gw oA oD oE oP cR aR hR pr sq ab be nw tn th n) (wr := GW a cI cJ p nu de eq ((mr p am nx nr).1) ((mr p am nx nr).2) oA oD oE oP cR aR hR cl ad gw pr n ++ [(o0, eJ cJ 1 (vp_updL ou 0 ((mr p am nx nr).1 c).toInt64))]) (w' := fun u8 => MW bb cI cJ p cl a2 gw oA oD oE oP cR aR hR pr sq ab be ((mr p nw tn nr).1) ((mr p nw tn nr).2) 0 n) hP hD hS (hA_ ss) (va_runV (As := [.int (nI c), .int (nI nr)]) (rest := []) C.fix (c_X4_shareByRounds ll D bb cI cJ _ p cl a2 gw oA oD oE oP cR aR hR pr sq ab be nw tn th n c nr hc hn hqn) (cwV 2 C.hts gL_law_X4_shareByRounds rfl rfl rfl (by decide +kernel) ⟨Nat.le_of_ble_eq_true rfl, Nat.le_of_ble_eq_true rfl⟩) ⟨PW.blind, va_recv hK hP (ci := 4) (q0 := 0) rfl rfl, PW.goP hP hK hD hE⟩ rfl rfl hl.1 rfl (lv_room (Nat.le_of_ble_eq_true rfl)) dL_law_538 ⟨(by show cells + 0 + 0 ≤ 1070; omega), (by show slots + 0 + 0 ≤ 8714; omega)⟩) (fun r8 u8 H locs hr8 hP hD hS => ?_)
  obtain rfl : r8 = (mr p nw tn nr).1 c := hr8
  refine lv_istore (lv' := [(6, .int ((mr p nw tn nr).1 c)), (5, .int 0), (0, .ref b), (1, .ref (a 0)), (2, .ref (bb 0)), (3, .ref o0), (4, .int (nI i))]) hx hb dL_law_541 hl (by decide) rfl (fun ls hl => ?_)
  refine tl_i C hP rfl hS hl.1 (lv_at hl 4 rfl) (lv_at hl 5 rfl) (lv_at hl 1 rfl) (lv_at hl 0 rfl) ((if_pos rfl).trans (congrArg Int32.toInt64 hq)) rfl rfl (by decide) (by decide) (by decide) (by decide) dL_law_543 dL_law_544 dL_law_547 dL_law_549 dL_law_554 dL_law_556 dL_law_559 dL_law_560 dL_law_561 dL_law_562 dL_law_564 dL_law_565 dL_law_566 dL_law_571 ?_ ⟨(by omega), (by omega)⟩
  refine W.widen (k := cells + 1) (n := slots + 6) (by omega) (by omega) ?_
  exact kk _ _ _ (toMG hP) (toMGd hD) hS (lv_sub hl [2, 3, 4, 5, 6] rfl)
set_option maxHeartbeats 4000000 in
set_option maxRecDepth 100000 in
theorem kv_shareByRounds_bad (x0 x1 : Int32) (hbad : ¬ (inB x0 0 5 = true ∧ inB x1 0 200 = true))  (v1 : xs (i + 1) = x0) (v2 : xs (i + 2) = x1) (C : lwC pp ll ss mm mth cde b L xs D cI cJ) (hi : i + 5 < L) (hcs : cells + 1 ≤ 1070 ∧ slots + 6 ≤ 8714) (hP : va_P D vwCl (LW a bb o0 cI cJ p nu de eq am nx oA oD oE oP cR aR hR cl ad gw pr n ou p cl a2 gw oA oD oE oP cR aR hR pr sq ab be nw tn th n) H) (hD : va_D (lwA ss) (LW a bb o0 cI cJ p nu de eq am nx oA oD oE oP cR aR hR cl ad gw pr n ou p cl a2 gw oA oD oE oP cR aR hR pr sq ab be nw tn th n)) (hS : va_S (lwA ss) ss.heap H locs) (hl : lv_has ls 8 (LOC b a bb o0 i))
    (kk : ∀  (H : Heap) (locs : List Loc) (ls : Array Slot), va_P D vwCl (LW a bb o0 cI cJ p nu de eq am nx oA oD oE oP cR aR hR cl ad gw pr n ou p cl a2 gw oA oD oE oP cR aR hR pr sq ab be nw tn 1 n) H → va_D (lwA ss) (LW a bb o0 cI cJ p nu de eq am nx oA oD oE oP cR aR hR cl ad gw pr n ou p cl a2 gw oA oD oE oP cR aR hR pr sq ab be nw tn 1 n) → va_S (lwA ss) ss.heap H locs → lv_has ls 8 (LOC b a bb o0 i) → W pp ll ee room_1 ss mm #[Value.ref b] bel mth cde H locs (cells + 1) (slots + 6) Q (F0 mm 1472 ls [])) :
    W pp ll ee room_1 ss mm #[Value.ref b] bel mth cde H locs cells slots Q (F0 mm 506 ls []) := by
  have hx := C.hx
  have hb := C.hb
  have hK := C.hK
  have hE := C.hE
  refine lv_aload_n hx hb dL_law_506 rfl (lv_at hl 1 rfl) ?_
  refine ld_arg C hS (k := 1) (lv_at hl 0 rfl) (lv_at hl 4 rfl) (by omega) (by decide) v1 rfl dL_law_507 dL_law_508 dL_law_510 dL_law_511 dL_law_512 ?_
  refine ld_arg C hS (k := 2) (lv_at hl 0 rfl) (lv_at hl 4 rfl) (by omega) (by decide) v2 rfl dL_law_513 dL_law_514 dL_law_516 dL_law_517 dL_law_518 ?_
  refine lv_aload_n hx hb dL_law_519 rfl (lv_at hl 3 rfl) ?_
  refine b_calliP (S := Unit) (wc := GW a cI cJ p nu de eq am nx oA oD oE oP cR aR hR cl ad gw pr n ++ [(o0, eJ cJ 1 ou)]) (wr := MW bb cI cJ p cl a2 gw oA oD oE oP cR aR hR pr sq ab be nw tn th n) (w' := fun u => GW a cI cJ p nu de eq am nx oA oD oE oP cR aR hR cl ad gw pr n ++ [(o0, eJ cJ 1 (ou))]) hP hD hS (hA_ ss) (vx_runSW (As := [.ref (a 0), .int (x0), .int (x1), .ref o0]) (rest := []) C.fix (c_L_shareByRounds_bad ll C.hst D a cI cJ _ p nu de eq am nx oA oD oE oP cR aR hR cl ad gw pr n o0 ou x0 x1 hbad) (vx_cwSW 4 C.hts gL_law_L_shareByRounds rfl rfl rfl (by decide +kernel) ⟨Nat.le_of_ble_eq_true rfl, Nat.le_of_ble_eq_true rfl⟩) ⟨PY.blind, PY.go hP hK hD hE C.hV C.hDC hS (hA_ ss)⟩ rfl rfl hl.1 rfl (lv_room (Nat.le_of_ble_eq_true rfl)) dL_law_520 ⟨(by show cells + 1 ≤ 1070; omega), (by show slots + 6 ≤ 8714; omega)⟩) (fun r9 u H locs hr9 hP hD hS => ?_)
  obtain rfl : r9 = 1 := hr9
  refine lv_istore (lv' := [(5, .int 1), (0, .ref b), (1, .ref (a 0)), (2, .ref (bb 0)), (3, .ref o0), (4, .int (nI i))]) hx hb dL_law_523 hl (by decide) rfl (fun ls hl => ?_)
  refine lv_aload_n hx hb dL_law_525 rfl (lv_at hl 3 rfl) ?_
  refine ld_arg C hS (k := 1) (lv_at hl 1 rfl) (lv_at hl 5 rfl) (by omega) (by decide) v1 rfl dL_law_526 dL_law_527 dL_law_529 dL_law_530 dL_law_531 ?_
  refine ld_arg C hS (k := 2) (lv_at hl 1 rfl) (lv_at hl 5 rfl) (by omega) (by decide) v2 rfl dL_law_532 dL_law_533 dL_law_535 dL_law_536 dL_law_537 ?_
  have hP := toMG hP
  have hD := toMGd hD
  refine b_calliP (S := Unit) (wc := MW bb cI cJ p cl a2 gw oA oD oE oP cR aR hR pr sq ab be nw tn th n) (wr := GW a cI cJ p nu de eq am nx oA oD oE oP cR aR hR cl ad gw pr n ++ [(o0, eJ cJ 1 (ou))]) (w' := fun u8 => MW bb cI cJ p cl a2 gw oA oD oE oP cR aR hR pr sq ab be nw tn 1 n) hP hD hS (hA_ ss) (va_runV (As := [.int (x0), .int (x1)]) (rest := []) C.fix (c_X4_shareByRounds_bad ll D bb cI cJ _ p cl a2 gw oA oD oE oP cR aR hR pr sq ab be nw tn th n x0 x1 hbad) (cwV 2 C.hts gL_law_X4_shareByRounds rfl rfl rfl (by decide +kernel) ⟨Nat.le_of_ble_eq_true rfl, Nat.le_of_ble_eq_true rfl⟩) ⟨PW.blind, va_recv hK hP (ci := 4) (q0 := 0) rfl rfl, PW.goP hP hK hD hE⟩ rfl rfl hl.1 rfl (lv_room (Nat.le_of_ble_eq_true rfl)) dL_law_538 ⟨(by show cells + 1 + 0 ≤ 1070; omega), (by show slots + 6 + 0 ≤ 8714; omega)⟩) (fun r8 u8 H locs hr8 hP hD hS => ?_)
  obtain rfl : r8 = 0 := hr8
  refine lv_istore (lv' := [(6, .int (0)), (5, .int 1), (0, .ref b), (1, .ref (a 0)), (2, .ref (bb 0)), (3, .ref o0), (4, .int (nI i))]) hx hb dL_law_541 hl (by decide) rfl (fun ls hl => ?_)
  refine tl_x C hP hl.1 (by decide) (lv_at hl 4 rfl) (lv_at hl 1 rfl) rfl (tg := 571) (by decide) (by decide) (by decide) dL_law_543 dL_law_544 dL_law_547 dL_law_549 dL_law_554 dL_law_556 dL_law_571 ?_ ⟨(by omega), (by omega)⟩
  refine W.widen (k := cells + 1) (n := slots + 6) (by omega) (by omega) ?_
  exact kk _ _ _ (toMG hP) (toMGd hD) hS (lv_sub hl [2, 3, 4, 5, 6] rfl)
end KV
