abbrev rmX3_held : Room := ({ frames := 2, cells := 0, slots := 0, locals := 43 } : Room)
set_option maxHeartbeats 4000000 in
set_option maxRecDepth 100000 in
theorem c_X3_held (ll : Launch) (D : va_G) (a : Nat → Nat) (cI cJ : ClassId) (p : Nat → Int32) (nu de eq : Nat → Int64) (am nx oA oD oE oP cR aR hR cl ad gw pr : Nat → Int32) (n : Int32) (o c : Nat) (ho : o < 6) (hc : c < 6) : Met ll yX3_held wsX3_held rmX3_held (va_Pc [.ref (a 0), .int (nI (o)), .int (nI (c))] (PR D (tyG cI cJ) (GW a cI cJ p nu de eq am nx oA oD oE oP cR aR hR cl ad gw pr n))) (vp_Si (fun rr => rr = p (6 * o + c))) 0 0 (fun _ => False) := by
  refine Met.ofW (cc := cX3_held) (maxL := 3) (ret := (some .int)) (by decide) rfl ?_
  intro pp ee ss mm ar bel mth cde s₁ B hml hv
  obtain ⟨rfl, hP, hK, hE⟩ := hv
  have hx := B.exec
  have hb := B.bytes
  have hr := B.returns
  have hts := atoms_spec (ws := wsX3_held) B.pre
  have hown : ss.vm.findClass RX3 = some mm.cls := findClass_of_methodNamed B.named
  have hlocks := B.notSynchronized
  have hin : ∀ w ∈ wsX30, w.before ([.ref (a 0), .int (nI (o)), .int (nI (c))] : List Value).toArray ss = true := fun w h => hts w ((by decide +kernel : ∀ w ∈ wsX30, w ∈ wsX3_held) w h)
  have hl := lv_entry [.ref (a 0), .int (nI (o)), .int (nI (c))] (n := 3) (Nat.le_of_ble_eq_true rfl)
  rw [lg_entry_eq]
  generalize (lg_sl [.ref (a 0), .int (nI (o)), .int (nI (c))] ++ List.replicate (3 - (lg_sl [.ref (a 0), .int (nI (o)), .int (nI (c))]).length) Slot.unset).toArray = ls at hl ⊢
  have hl : lv_has ls 3 [(0, .ref (a 0)), (1, .int (nI (o))), (2, .int (nI (c)))] := hl
  refine lv_iload_n hx hb dX3_held_0 rfl (lv_at hl 1 rfl) ?_
  refine va_csv (W.runS (As := [.int (nI (o))]) (rest := []) ⟨hx, hb, hml, hown, hts⟩ (c_X3_requireCompany_ok ll (nI (o)) (inB_c o ho)) (va_cwS 1 hts gX3_held_X3_requireCompany rfl rfl rfl (by decide +kernel) ⟨Nat.le_of_ble_eq_true rfl, Nat.le_of_ble_eq_true rfl⟩) ⟨PT.blind, PT.to⟩ rfl rfl hl.1 rfl (lv_room (Nat.le_of_ble_eq_true rfl)) dX3_held_1 ⟨Nat.le_of_ble_eq_true rfl, Nat.le_of_ble_eq_true rfl⟩) (fun _ => ?_)
  refine lv_iload_n hx hb dX3_held_4 rfl (lv_at hl 2 rfl) ?_
  refine va_csv (W.runS (As := [.int (nI (c))]) (rest := []) ⟨hx, hb, hml, hown, hts⟩ (c_X3_requireCompany_ok ll (nI (c)) (inB_c c hc)) (va_cwS 1 hts gX3_held_X3_requireCompany rfl rfl rfl (by decide +kernel) ⟨Nat.le_of_ble_eq_true rfl, Nat.le_of_ble_eq_true rfl⟩) ⟨PT.blind, PT.to⟩ rfl rfl hl.1 rfl (lv_room (Nat.le_of_ble_eq_true rfl)) dX3_held_5 ⟨Nat.le_of_ble_eq_true rfl, Nat.le_of_ble_eq_true rfl⟩) (fun _ => ?_)
  refine lv_aload_n hx hb dX3_held_8 rfl (lv_at hl 0 rfl) ?_
  refine va_get (D := D) (ci := 3) (v := .ref (a 1)) (C := RX3) (T := TX3) (N := 6) (Ts := wsX30) hx hb hin (fun _ h9 => h9) hown hK hP 0 rfl rfl 0 (by decide) (hts (.fieldLink RX3 10 "Groupbooks" "holdings" "LGroupbooks$Holdings;") (by decide +kernel)) (fun _ h9 => h9) rfl dX3_held_9 ?_
  refine lv_iload_n hx hb dX3_held_12 rfl (lv_at hl 1 rfl) ?_
  refine lv_iload_n hx hb dX3_held_13 rfl (lv_at hl 2 rfl) ?_
  refine b_csi (v := p (6 * o + c)) ((va_runVN (As := [.int (nI (o)), .int (nI (c))]) (rest := []) ⟨hx, hb, hml, hown, hts⟩ (c_X2_percentOf ll D a cI cJ p nu de eq am nx oA oD oE oP cR aR hR cl ad gw pr n o c (by omega) (by omega)) ⟨va_cnB 2 hts gX3_held_X2_percentOf_n49 rfl rfl rfl (hE.nest 15 rfl) (hts (.initialized RX2) (by decide +kernel)) (by decide +kernel) ⟨Nat.le_of_ble_eq_true rfl, Nat.le_of_ble_eq_true rfl⟩, hts (.instanceMethod yX2_percentOf) (by decide +kernel), hts (.selects RX2 yX2_percentOf yX2_percentOf) (by decide +kernel)⟩ ⟨PR.blind, va_recv hK hP (ci := 2) (q0 := 1) rfl rfl, PR.go hP hK hE⟩ rfl rfl hl.1 rfl (lv_room (Nat.le_of_ble_eq_true rfl)) dX3_held_14 ⟨Nat.le_of_ble_eq_true rfl, Nat.le_of_ble_eq_true rfl⟩).run) ?_
  exact W.iret hx hb hr (fun t ht _ => ⟨_, rfl, rfl, ht⟩) (fun _ h => nomatch h) dX3_held_17

abbrev rmX3_shareNumerator : Room := ({ frames := 2, cells := 0, slots := 0, locals := 42 } : Room)
set_option maxHeartbeats 4000000 in
set_option maxRecDepth 100000 in
theorem c_X3_shareNumerator (ll : Launch) (D : va_G) (a : Nat → Nat) (cI cJ : ClassId) (p : Nat → Int32) (nu de eq : Nat → Int64) (am nx oA oD oE oP cR aR hR cl ad gw pr : Nat → Int32) (n : Int32) (c : Nat) (hc : c < 6) : Met ll yX3_shareNumerator wsX3_shareNumerator rmX3_shareNumerator (va_Pc [.ref (a 0), .int (nI (c))] (PR D (tyG cI cJ) (GW a cI cJ p nu de eq am nx oA oD oE oP cR aR hR cl ad gw pr n))) (vp_Sl (fun rr => rr = nu c)) 0 0 (fun _ => False) := by
  refine Met.ofW (cc := cX3_shareNumerator) (maxL := 2) (ret := (some .long)) (by decide) rfl ?_
  intro pp ee ss mm ar bel mth cde s₁ B hml hv
  obtain ⟨rfl, hP, hK, hE⟩ := hv
  have hx := B.exec
  have hb := B.bytes
  have hr := B.returns
  have hts := atoms_spec (ws := wsX3_shareNumerator) B.pre
  have hown : ss.vm.findClass RX3 = some mm.cls := findClass_of_methodNamed B.named
  have hlocks := B.notSynchronized
  have hin : ∀ w ∈ wsX30, w.before ([.ref (a 0), .int (nI (c))] : List Value).toArray ss = true := fun w h => hts w ((by decide +kernel : ∀ w ∈ wsX30, w ∈ wsX3_shareNumerator) w h)
  have hl := lv_entry [.ref (a 0), .int (nI (c))] (n := 2) (Nat.le_of_ble_eq_true rfl)
  rw [lg_entry_eq]
  generalize (lg_sl [.ref (a 0), .int (nI (c))] ++ List.replicate (2 - (lg_sl [.ref (a 0), .int (nI (c))]).length) Slot.unset).toArray = ls at hl ⊢
  have hl : lv_has ls 2 [(0, .ref (a 0)), (1, .int (nI (c)))] := hl
  refine lv_iload_n hx hb dX3_shareNumerator_0 rfl (lv_at hl 1 rfl) ?_
  refine va_csv (W.runS (As := [.int (nI (c))]) (rest := []) ⟨hx, hb, hml, hown, hts⟩ (c_X3_requireCompany_ok ll (nI (c)) (inB_c c hc)) (va_cwS 1 hts gX3_shareNumerator_X3_requireCompany rfl rfl rfl (by decide +kernel) ⟨Nat.le_of_ble_eq_true rfl, Nat.le_of_ble_eq_true rfl⟩) ⟨PT.blind, PT.to⟩ rfl rfl hl.1 rfl (lv_room (Nat.le_of_ble_eq_true rfl)) dX3_shareNumerator_1 ⟨Nat.le_of_ble_eq_true rfl, Nat.le_of_ble_eq_true rfl⟩) (fun _ => ?_)
  refine lv_aload_n hx hb dX3_shareNumerator_4 rfl (lv_at hl 0 rfl) ?_
  refine va_get (D := D) (ci := 3) (v := .ref (a 1)) (C := RX3) (T := TX3) (N := 6) (Ts := wsX30) hx hb hin (fun _ h9 => h9) hown hK hP 0 rfl rfl 0 (by decide) (hts (.fieldLink RX3 10 "Groupbooks" "holdings" "LGroupbooks$Holdings;") (by decide +kernel)) (fun _ h9 => h9) rfl dX3_shareNumerator_5 ?_
  refine lv_iload_n hx hb dX3_shareNumerator_8 rfl (lv_at hl 1 rfl) ?_
  refine b_csl (v := nu (c)) ((va_runVN (As := [.int (nI (c))]) (rest := []) ⟨hx, hb, hml, hown, hts⟩ (c_X2_numeratorOf ll D a cI cJ p nu de eq am nx oA oD oE oP cR aR hR cl ad gw pr n c (by omega)) ⟨va_cnB 1 hts gX3_shareNumerator_X2_numeratorOf_n75 rfl rfl rfl (hE.nest 17 rfl) (hts (.initialized RX2) (by decide +kernel)) (by decide +kernel) ⟨Nat.le_of_ble_eq_true rfl, Nat.le_of_ble_eq_true rfl⟩, hts (.instanceMethod yX2_numeratorOf) (by decide +kernel), hts (.selects RX2 yX2_numeratorOf yX2_numeratorOf) (by decide +kernel)⟩ ⟨PR.blind, va_recv hK hP (ci := 2) (q0 := 1) rfl rfl, PR.go hP hK hE⟩ rfl rfl hl.1 rfl (lv_room (Nat.le_of_ble_eq_true rfl)) dX3_shareNumerator_9 ⟨Nat.le_of_ble_eq_true rfl, Nat.le_of_ble_eq_true rfl⟩).run) ?_
  exact W.lret hx hb hr (fun t ht _ => ⟨_, rfl, rfl, ht⟩) (fun _ h => nomatch h) dX3_shareNumerator_12

abbrev rmX3_shareDenominator : Room := ({ frames := 2, cells := 0, slots := 0, locals := 42 } : Room)
set_option maxHeartbeats 4000000 in
set_option maxRecDepth 100000 in
theorem c_X3_shareDenominator (ll : Launch) (D : va_G) (a : Nat → Nat) (cI cJ : ClassId) (p : Nat → Int32) (nu de eq : Nat → Int64) (am nx oA oD oE oP cR aR hR cl ad gw pr : Nat → Int32) (n : Int32) (c : Nat) (hc : c < 6) : Met ll yX3_shareDenominator wsX3_shareDenominator rmX3_shareDenominator (va_Pc [.ref (a 0), .int (nI (c))] (PR D (tyG cI cJ) (GW a cI cJ p nu de eq am nx oA oD oE oP cR aR hR cl ad gw pr n))) (vp_Sl (fun rr => rr = de c)) 0 0 (fun _ => False) := by
  refine Met.ofW (cc := cX3_shareDenominator) (maxL := 2) (ret := (some .long)) (by decide) rfl ?_
  intro pp ee ss mm ar bel mth cde s₁ B hml hv
  obtain ⟨rfl, hP, hK, hE⟩ := hv
  have hx := B.exec
  have hb := B.bytes
  have hr := B.returns
  have hts := atoms_spec (ws := wsX3_shareDenominator) B.pre
  have hown : ss.vm.findClass RX3 = some mm.cls := findClass_of_methodNamed B.named
  have hlocks := B.notSynchronized
  have hin : ∀ w ∈ wsX30, w.before ([.ref (a 0), .int (nI (c))] : List Value).toArray ss = true := fun w h => hts w ((by decide +kernel : ∀ w ∈ wsX30, w ∈ wsX3_shareDenominator) w h)
  have hl := lv_entry [.ref (a 0), .int (nI (c))] (n := 2) (Nat.le_of_ble_eq_true rfl)
  rw [lg_entry_eq]
  generalize (lg_sl [.ref (a 0), .int (nI (c))] ++ List.replicate (2 - (lg_sl [.ref (a 0), .int (nI (c))]).length) Slot.unset).toArray = ls at hl ⊢
  have hl : lv_has ls 2 [(0, .ref (a 0)), (1, .int (nI (c)))] := hl
  refine lv_iload_n hx hb dX3_shareDenominator_0 rfl (lv_at hl 1 rfl) ?_
  refine va_csv (W.runS (As := [.int (nI (c))]) (rest := []) ⟨hx, hb, hml, hown, hts⟩ (c_X3_requireCompany_ok ll (nI (c)) (inB_c c hc)) (va_cwS 1 hts gX3_shareDenominator_X3_requireCompany rfl rfl rfl (by decide +kernel) ⟨Nat.le_of_ble_eq_true rfl, Nat.le_of_ble_eq_true rfl⟩) ⟨PT.blind, PT.to⟩ rfl rfl hl.1 rfl (lv_room (Nat.le_of_ble_eq_true rfl)) dX3_shareDenominator_1 ⟨Nat.le_of_ble_eq_true rfl, Nat.le_of_ble_eq_true rfl⟩) (fun _ => ?_)
  refine lv_aload_n hx hb dX3_shareDenominator_4 rfl (lv_at hl 0 rfl) ?_
  refine va_get (D := D) (ci := 3) (v := .ref (a 1)) (C := RX3) (T := TX3) (N := 6) (Ts := wsX30) hx hb hin (fun _ h9 => h9) hown hK hP 0 rfl rfl 0 (by decide) (hts (.fieldLink RX3 10 "Groupbooks" "holdings" "LGroupbooks$Holdings;") (by decide +kernel)) (fun _ h9 => h9) rfl dX3_shareDenominator_5 ?_
  refine lv_iload_n hx hb dX3_shareDenominator_8 rfl (lv_at hl 1 rfl) ?_
  refine b_csl (v := de (c)) ((va_runVN (As := [.int (nI (c))]) (rest := []) ⟨hx, hb, hml, hown, hts⟩ (c_X2_denominatorOf ll D a cI cJ p nu de eq am nx oA oD oE oP cR aR hR cl ad gw pr n c (by omega)) ⟨va_cnB 1 hts gX3_shareDenominator_X2_denominatorOf_n79 rfl rfl rfl (hE.nest 18 rfl) (hts (.initialized RX2) (by decide +kernel)) (by decide +kernel) ⟨Nat.le_of_ble_eq_true rfl, Nat.le_of_ble_eq_true rfl⟩, hts (.instanceMethod yX2_denominatorOf) (by decide +kernel), hts (.selects RX2 yX2_denominatorOf yX2_denominatorOf) (by decide +kernel)⟩ ⟨PR.blind, va_recv hK hP (ci := 2) (q0 := 1) rfl rfl, PR.go hP hK hE⟩ rfl rfl hl.1 rfl (lv_room (Nat.le_of_ble_eq_true rfl)) dX3_shareDenominator_9 ⟨Nat.le_of_ble_eq_true rfl, Nat.le_of_ble_eq_true rfl⟩).run) ?_
  exact W.lret hx hb hr (fun t ht _ => ⟨_, rfl, rfl, ht⟩) (fun _ h => nomatch h) dX3_shareDenominator_12

abbrev rmX3_goodwill : Room := ({ frames := 2, cells := 0, slots := 0, locals := 42 } : Room)
set_option maxHeartbeats 4000000 in
set_option maxRecDepth 100000 in
theorem c_X3_goodwill (ll : Launch) (D : va_G) (a : Nat → Nat) (cI cJ : ClassId) (p : Nat → Int32) (nu de eq : Nat → Int64) (am nx oA oD oE oP cR aR hR cl ad gw pr : Nat → Int32) (n : Int32) (c : Nat) (hc : c < 6) : Met ll yX3_goodwill wsX3_goodwill rmX3_goodwill (va_Pc [.ref (a 0), .int (nI (c))] (PR D (tyG cI cJ) (GW a cI cJ p nu de eq am nx oA oD oE oP cR aR hR cl ad gw pr n))) (vp_Si (fun rr => rr = gw c)) 0 0 (fun _ => False) := by
  refine Met.ofW (cc := cX3_goodwill) (maxL := 2) (ret := (some .int)) (by decide) rfl ?_
  intro pp ee ss mm ar bel mth cde s₁ B hml hv
  obtain ⟨rfl, hP, hK, hE⟩ := hv
  have hx := B.exec
  have hb := B.bytes
  have hr := B.returns
  have hts := atoms_spec (ws := wsX3_goodwill) B.pre
  have hown : ss.vm.findClass RX3 = some mm.cls := findClass_of_methodNamed B.named
  have hlocks := B.notSynchronized
  have hin : ∀ w ∈ wsX30, w.before ([.ref (a 0), .int (nI (c))] : List Value).toArray ss = true := fun w h => hts w ((by decide +kernel : ∀ w ∈ wsX30, w ∈ wsX3_goodwill) w h)
  have hl := lv_entry [.ref (a 0), .int (nI (c))] (n := 2) (Nat.le_of_ble_eq_true rfl)
  rw [lg_entry_eq]
  generalize (lg_sl [.ref (a 0), .int (nI (c))] ++ List.replicate (2 - (lg_sl [.ref (a 0), .int (nI (c))]).length) Slot.unset).toArray = ls at hl ⊢
  have hl : lv_has ls 2 [(0, .ref (a 0)), (1, .int (nI (c)))] := hl
  refine lv_iload_n hx hb dX3_goodwill_0 rfl (lv_at hl 1 rfl) ?_
  refine va_csv (W.runS (As := [.int (nI (c))]) (rest := []) ⟨hx, hb, hml, hown, hts⟩ (c_X3_requireCompany_ok ll (nI (c)) (inB_c c hc)) (va_cwS 1 hts gX3_goodwill_X3_requireCompany rfl rfl rfl (by decide +kernel) ⟨Nat.le_of_ble_eq_true rfl, Nat.le_of_ble_eq_true rfl⟩) ⟨PT.blind, PT.to⟩ rfl rfl hl.1 rfl (lv_room (Nat.le_of_ble_eq_true rfl)) dX3_goodwill_1 ⟨Nat.le_of_ble_eq_true rfl, Nat.le_of_ble_eq_true rfl⟩) (fun _ => ?_)
  refine lv_aload_n hx hb dX3_goodwill_4 rfl (lv_at hl 0 rfl) ?_
  refine va_get (D := D) (ci := 3) (v := .ref (a 4)) (C := RX3) (T := TX3) (N := 6) (Ts := wsX30) hx hb hin (fun _ h9 => h9) hown hK hP 0 rfl rfl 3 (by decide) (hts (.fieldLink RX3 30 "Groupbooks" "goodwills" "[I") (by decide +kernel)) (fun _ h9 => h9) rfl dX3_goodwill_5 ?_
  refine lv_iload_n hx hb dX3_goodwill_8 rfl (lv_at hl 1 rfl) ?_
  refine b_iald hx hb hK hP 4 0 (f := gw) rfl rfl (j := c) (by omega) (by decide) dX3_goodwill_9 ?_
  exact W.iret hx hb hr (fun t ht _ => ⟨_, rfl, rfl, ht⟩) (fun _ h => nomatch h) dX3_goodwill_10

abbrev rmX3_netValue : Room := ({ frames := 4, cells := 0, slots := 0, locals := 85 } : Room)
set_option maxHeartbeats 4000000 in
set_option maxRecDepth 100000 in
theorem c_X3_netValue (ll : Launch) (D : va_G) (a : Nat → Nat) (cI cJ : ClassId) (p : Nat → Int32) (nu de eq : Nat → Int64) (am nx oA oD oE oP cR aR hR cl ad gw pr : Nat → Int32) (n : Int32) (c : Nat) (hc : c < 6) : Met ll yX3_netValue wsX3_netValue rmX3_netValue (va_Pc [.ref (a 0), .int (nI (c))] (PR D (tyG cI cJ) (GW a cI cJ p nu de eq am nx oA oD oE oP cR aR hR cl ad gw pr n))) (vp_Si (fun rr => rr = tr (oA c) (cR c) - tr (oD c) (cR c))) 0 0 (fun _ => False) := by
  refine Met.ofW (cc := cX3_netValue) (maxL := 2) (ret := (some .int)) (by decide) rfl ?_
  intro pp ee ss mm ar bel mth cde s₁ B hml hv
  obtain ⟨rfl, hP, hK, hE⟩ := hv
  have hx := B.exec
  have hb := B.bytes
  have hr := B.returns
  have hts := atoms_spec (ws := wsX3_netValue) B.pre
  have hown : ss.vm.findClass RX3 = some mm.cls := findClass_of_methodNamed B.named
  have hlocks := B.notSynchronized
  have hin : ∀ w ∈ wsX30, w.before ([.ref (a 0), .int (nI (c))] : List Value).toArray ss = true := fun w h => hts w ((by decide +kernel : ∀ w ∈ wsX30, w ∈ wsX3_netValue) w h)
  have hl := lv_entry [.ref (a 0), .int (nI (c))] (n := 2) (Nat.le_of_ble_eq_true rfl)
  rw [lg_entry_eq]
  generalize (lg_sl [.ref (a 0), .int (nI (c))] ++ List.replicate (2 - (lg_sl [.ref (a 0), .int (nI (c))]).length) Slot.unset).toArray = ls at hl ⊢
  have hl : lv_has ls 2 [(0, .ref (a 0)), (1, .int (nI (c)))] := hl
  refine lv_iload_n hx hb dX3_netValue_0 rfl (lv_at hl 1 rfl) ?_
  refine va_csv (W.runS (As := [.int (nI (c))]) (rest := []) ⟨hx, hb, hml, hown, hts⟩ (c_X3_requireCompany_ok ll (nI (c)) (inB_c c hc)) (va_cwS 1 hts gX3_netValue_X3_requireCompany rfl rfl rfl (by decide +kernel) ⟨Nat.le_of_ble_eq_true rfl, Nat.le_of_ble_eq_true rfl⟩) ⟨PT.blind, PT.to⟩ rfl rfl hl.1 rfl (lv_room (Nat.le_of_ble_eq_true rfl)) dX3_netValue_1 ⟨Nat.le_of_ble_eq_true rfl, Nat.le_of_ble_eq_true rfl⟩) (fun _ => ?_)
  refine lv_aload_n hx hb dX3_netValue_4 rfl (lv_at hl 0 rfl) ?_
  refine va_get (D := D) (ci := 3) (v := .ref (a 2)) (C := RX3) (T := TX3) (N := 6) (Ts := wsX30) hx hb hin (fun _ h9 => h9) hown hK hP 0 rfl rfl 1 (by decide) (hts (.fieldLink RX3 19 "Groupbooks" "books" "LGroupbooks$Books;") (by decide +kernel)) (fun _ h9 => h9) rfl dX3_netValue_5 ?_
  refine lv_iload_n hx hb dX3_netValue_8 rfl (lv_at hl 1 rfl) ?_
  refine b_csi (v := tr (oA c) (cR c) - tr (oD c) (cR c)) ((va_runVN (As := [.int (nI (c))]) (rest := []) ⟨hx, hb, hml, hown, hts⟩ (c_X1_netOf ll D a cI cJ p nu de eq am nx oA oD oE oP cR aR hR cl ad gw pr n c (by omega)) ⟨va_cnB 1 hts gX3_netValue_X1_netOf_n62 rfl rfl rfl (hE.nest 11 rfl) (hts (.initialized RX1) (by decide +kernel)) (by decide +kernel) ⟨Nat.le_of_ble_eq_true rfl, Nat.le_of_ble_eq_true rfl⟩, hts (.instanceMethod yX1_netOf) (by decide +kernel), hts (.selects RX1 yX1_netOf yX1_netOf) (by decide +kernel)⟩ ⟨PR.blind, va_recv hK hP (ci := 1) (q0 := 2) rfl rfl, PR.go hP hK hE⟩ rfl rfl hl.1 rfl (lv_room (Nat.le_of_ble_eq_true rfl)) dX3_netValue_9 ⟨Nat.le_of_ble_eq_true rfl, Nat.le_of_ble_eq_true rfl⟩).run) ?_
  exact W.iret hx hb hr (fun t ht _ => ⟨_, rfl, rfl, ht⟩) (fun _ h => nomatch h) dX3_netValue_12

abbrev rmX3_translatedEquity : Room := ({ frames := 3, cells := 0, slots := 0, locals := 64 } : Room)
set_option maxHeartbeats 4000000 in
set_option maxRecDepth 100000 in
theorem c_X3_translatedEquity (ll : Launch) (D : va_G) (a : Nat → Nat) (cI cJ : ClassId) (p : Nat → Int32) (nu de eq : Nat → Int64) (am nx oA oD oE oP cR aR hR cl ad gw pr : Nat → Int32) (n : Int32) (c : Nat) (hc : c < 6) : Met ll yX3_translatedEquity wsX3_translatedEquity rmX3_translatedEquity (va_Pc [.ref (a 0), .int (nI (c))] (PR D (tyG cI cJ) (GW a cI cJ p nu de eq am nx oA oD oE oP cR aR hR cl ad gw pr n))) (vp_Si (fun rr => rr = tr (oE c) (hR c))) 0 0 (fun _ => False) := by
  refine Met.ofW (cc := cX3_translatedEquity) (maxL := 2) (ret := (some .int)) (by decide) rfl ?_
  intro pp ee ss mm ar bel mth cde s₁ B hml hv
  obtain ⟨rfl, hP, hK, hE⟩ := hv
  have hx := B.exec
  have hb := B.bytes
  have hr := B.returns
  have hts := atoms_spec (ws := wsX3_translatedEquity) B.pre
  have hown : ss.vm.findClass RX3 = some mm.cls := findClass_of_methodNamed B.named
  have hlocks := B.notSynchronized
  have hin : ∀ w ∈ wsX30, w.before ([.ref (a 0), .int (nI (c))] : List Value).toArray ss = true := fun w h => hts w ((by decide +kernel : ∀ w ∈ wsX30, w ∈ wsX3_translatedEquity) w h)
  have hl := lv_entry [.ref (a 0), .int (nI (c))] (n := 2) (Nat.le_of_ble_eq_true rfl)
  rw [lg_entry_eq]
  generalize (lg_sl [.ref (a 0), .int (nI (c))] ++ List.replicate (2 - (lg_sl [.ref (a 0), .int (nI (c))]).length) Slot.unset).toArray = ls at hl ⊢
  have hl : lv_has ls 2 [(0, .ref (a 0)), (1, .int (nI (c)))] := hl
  refine lv_iload_n hx hb dX3_translatedEquity_0 rfl (lv_at hl 1 rfl) ?_
  refine va_csv (W.runS (As := [.int (nI (c))]) (rest := []) ⟨hx, hb, hml, hown, hts⟩ (c_X3_requireCompany_ok ll (nI (c)) (inB_c c hc)) (va_cwS 1 hts gX3_translatedEquity_X3_requireCompany rfl rfl rfl (by decide +kernel) ⟨Nat.le_of_ble_eq_true rfl, Nat.le_of_ble_eq_true rfl⟩) ⟨PT.blind, PT.to⟩ rfl rfl hl.1 rfl (lv_room (Nat.le_of_ble_eq_true rfl)) dX3_translatedEquity_1 ⟨Nat.le_of_ble_eq_true rfl, Nat.le_of_ble_eq_true rfl⟩) (fun _ => ?_)
  refine lv_aload_n hx hb dX3_translatedEquity_4 rfl (lv_at hl 0 rfl) ?_
  refine va_get (D := D) (ci := 3) (v := .ref (a 2)) (C := RX3) (T := TX3) (N := 6) (Ts := wsX30) hx hb hin (fun _ h9 => h9) hown hK hP 0 rfl rfl 1 (by decide) (hts (.fieldLink RX3 19 "Groupbooks" "books" "LGroupbooks$Books;") (by decide +kernel)) (fun _ h9 => h9) rfl dX3_translatedEquity_5 ?_
  refine lv_iload_n hx hb dX3_translatedEquity_8 rfl (lv_at hl 1 rfl) ?_
  refine b_csi (v := tr (oE c) (hR c)) ((va_runVN (As := [.int (nI (c))]) (rest := []) ⟨hx, hb, hml, hown, hts⟩ (c_X1_equityOf ll D a cI cJ p nu de eq am nx oA oD oE oP cR aR hR cl ad gw pr n c (by omega)) ⟨va_cnB 1 hts gX3_translatedEquity_X1_equityOf_n101 rfl rfl rfl (hE.nest 22 rfl) (hts (.initialized RX1) (by decide +kernel)) (by decide +kernel) ⟨Nat.le_of_ble_eq_true rfl, Nat.le_of_ble_eq_true rfl⟩, hts (.instanceMethod yX1_equityOf) (by decide +kernel), hts (.selects RX1 yX1_equityOf yX1_equityOf) (by decide +kernel)⟩ ⟨PR.blind, va_recv hK hP (ci := 1) (q0 := 2) rfl rfl, PR.go hP hK hE⟩ rfl rfl hl.1 rfl (lv_room (Nat.le_of_ble_eq_true rfl)) dX3_translatedEquity_9 ⟨Nat.le_of_ble_eq_true rfl, Nat.le_of_ble_eq_true rfl⟩).run) ?_
  exact W.iret hx hb hr (fun t ht _ => ⟨_, rfl, rfl, ht⟩) (fun _ h => nomatch h) dX3_translatedEquity_12

abbrev rmX3_translatedResult : Room := ({ frames := 3, cells := 0, slots := 0, locals := 64 } : Room)
set_option maxHeartbeats 4000000 in
set_option maxRecDepth 100000 in
theorem c_X3_translatedResult (ll : Launch) (D : va_G) (a : Nat → Nat) (cI cJ : ClassId) (p : Nat → Int32) (nu de eq : Nat → Int64) (am nx oA oD oE oP cR aR hR cl ad gw pr : Nat → Int32) (n : Int32) (c : Nat) (hc : c < 6) : Met ll yX3_translatedResult wsX3_translatedResult rmX3_translatedResult (va_Pc [.ref (a 0), .int (nI (c))] (PR D (tyG cI cJ) (GW a cI cJ p nu de eq am nx oA oD oE oP cR aR hR cl ad gw pr n))) (vp_Si (fun rr => rr = tr (oP c) (aR c))) 0 0 (fun _ => False) := by
  refine Met.ofW (cc := cX3_translatedResult) (maxL := 2) (ret := (some .int)) (by decide) rfl ?_
  intro pp ee ss mm ar bel mth cde s₁ B hml hv
  obtain ⟨rfl, hP, hK, hE⟩ := hv
  have hx := B.exec
  have hb := B.bytes
  have hr := B.returns
  have hts := atoms_spec (ws := wsX3_translatedResult) B.pre
  have hown : ss.vm.findClass RX3 = some mm.cls := findClass_of_methodNamed B.named
  have hlocks := B.notSynchronized
  have hin : ∀ w ∈ wsX30, w.before ([.ref (a 0), .int (nI (c))] : List Value).toArray ss = true := fun w h => hts w ((by decide +kernel : ∀ w ∈ wsX30, w ∈ wsX3_translatedResult) w h)
  have hl := lv_entry [.ref (a 0), .int (nI (c))] (n := 2) (Nat.le_of_ble_eq_true rfl)
  rw [lg_entry_eq]
  generalize (lg_sl [.ref (a 0), .int (nI (c))] ++ List.replicate (2 - (lg_sl [.ref (a 0), .int (nI (c))]).length) Slot.unset).toArray = ls at hl ⊢
  have hl : lv_has ls 2 [(0, .ref (a 0)), (1, .int (nI (c)))] := hl
  refine lv_iload_n hx hb dX3_translatedResult_0 rfl (lv_at hl 1 rfl) ?_
  refine va_csv (W.runS (As := [.int (nI (c))]) (rest := []) ⟨hx, hb, hml, hown, hts⟩ (c_X3_requireCompany_ok ll (nI (c)) (inB_c c hc)) (va_cwS 1 hts gX3_translatedResult_X3_requireCompany rfl rfl rfl (by decide +kernel) ⟨Nat.le_of_ble_eq_true rfl, Nat.le_of_ble_eq_true rfl⟩) ⟨PT.blind, PT.to⟩ rfl rfl hl.1 rfl (lv_room (Nat.le_of_ble_eq_true rfl)) dX3_translatedResult_1 ⟨Nat.le_of_ble_eq_true rfl, Nat.le_of_ble_eq_true rfl⟩) (fun _ => ?_)
  refine lv_aload_n hx hb dX3_translatedResult_4 rfl (lv_at hl 0 rfl) ?_
  refine va_get (D := D) (ci := 3) (v := .ref (a 2)) (C := RX3) (T := TX3) (N := 6) (Ts := wsX30) hx hb hin (fun _ h9 => h9) hown hK hP 0 rfl rfl 1 (by decide) (hts (.fieldLink RX3 19 "Groupbooks" "books" "LGroupbooks$Books;") (by decide +kernel)) (fun _ h9 => h9) rfl dX3_translatedResult_5 ?_
  refine lv_iload_n hx hb dX3_translatedResult_8 rfl (lv_at hl 1 rfl) ?_
  refine b_csi (v := tr (oP c) (aR c)) ((va_runVN (As := [.int (nI (c))]) (rest := []) ⟨hx, hb, hml, hown, hts⟩ (c_X1_profitOf ll D a cI cJ p nu de eq am nx oA oD oE oP cR aR hR cl ad gw pr n c (by omega)) ⟨va_cnB 1 hts gX3_translatedResult_X1_profitOf_n104 rfl rfl rfl (hE.nest 13 rfl) (hts (.initialized RX1) (by decide +kernel)) (by decide +kernel) ⟨Nat.le_of_ble_eq_true rfl, Nat.le_of_ble_eq_true rfl⟩, hts (.instanceMethod yX1_profitOf) (by decide +kernel), hts (.selects RX1 yX1_profitOf yX1_profitOf) (by decide +kernel)⟩ ⟨PR.blind, va_recv hK hP (ci := 1) (q0 := 2) rfl rfl, PR.go hP hK hE⟩ rfl rfl hl.1 rfl (lv_room (Nat.le_of_ble_eq_true rfl)) dX3_translatedResult_9 ⟨Nat.le_of_ble_eq_true rfl, Nat.le_of_ble_eq_true rfl⟩).run) ?_
  exact W.iret hx hb hr (fun t ht _ => ⟨_, rfl, rfl, ht⟩) (fun _ h => nomatch h) dX3_translatedResult_12

abbrev rmX3_reserve : Room := ({ frames := 4, cells := 0, slots := 0, locals := 85 } : Room)
set_option maxHeartbeats 4000000 in
set_option maxRecDepth 100000 in
theorem c_X3_reserve (ll : Launch) (D : va_G) (a : Nat → Nat) (cI cJ : ClassId) (p : Nat → Int32) (nu de eq : Nat → Int64) (am nx oA oD oE oP cR aR hR cl ad gw pr : Nat → Int32) (n : Int32) (c : Nat) (hc : c < 6) : Met ll yX3_reserve wsX3_reserve rmX3_reserve (va_Pc [.ref (a 0), .int (nI (c))] (PR D (tyG cI cJ) (GW a cI cJ p nu de eq am nx oA oD oE oP cR aR hR cl ad gw pr n))) (vp_Si (fun rr => rr = tr (oA c) (cR c) - tr (oD c) (cR c) - tr (oE c) (hR c) - tr (oP c) (aR c))) 0 0 (fun _ => False) := by
  refine Met.ofW (cc := cX3_reserve) (maxL := 2) (ret := (some .int)) (by decide) rfl ?_
  intro pp ee ss mm ar bel mth cde s₁ B hml hv
  obtain ⟨rfl, hP, hK, hE⟩ := hv
  have hx := B.exec
  have hb := B.bytes
  have hr := B.returns
  have hts := atoms_spec (ws := wsX3_reserve) B.pre
  have hown : ss.vm.findClass RX3 = some mm.cls := findClass_of_methodNamed B.named
  have hlocks := B.notSynchronized
  have hin : ∀ w ∈ wsX30, w.before ([.ref (a 0), .int (nI (c))] : List Value).toArray ss = true := fun w h => hts w ((by decide +kernel : ∀ w ∈ wsX30, w ∈ wsX3_reserve) w h)
  have hl := lv_entry [.ref (a 0), .int (nI (c))] (n := 2) (Nat.le_of_ble_eq_true rfl)
  rw [lg_entry_eq]
  generalize (lg_sl [.ref (a 0), .int (nI (c))] ++ List.replicate (2 - (lg_sl [.ref (a 0), .int (nI (c))]).length) Slot.unset).toArray = ls at hl ⊢
  have hl : lv_has ls 2 [(0, .ref (a 0)), (1, .int (nI (c)))] := hl
  refine lv_iload_n hx hb dX3_reserve_0 rfl (lv_at hl 1 rfl) ?_
  refine va_csv (W.runS (As := [.int (nI (c))]) (rest := []) ⟨hx, hb, hml, hown, hts⟩ (c_X3_requireCompany_ok ll (nI (c)) (inB_c c hc)) (va_cwS 1 hts gX3_reserve_X3_requireCompany rfl rfl rfl (by decide +kernel) ⟨Nat.le_of_ble_eq_true rfl, Nat.le_of_ble_eq_true rfl⟩) ⟨PT.blind, PT.to⟩ rfl rfl hl.1 rfl (lv_room (Nat.le_of_ble_eq_true rfl)) dX3_reserve_1 ⟨Nat.le_of_ble_eq_true rfl, Nat.le_of_ble_eq_true rfl⟩) (fun _ => ?_)
  refine lv_aload_n hx hb dX3_reserve_4 rfl (lv_at hl 0 rfl) ?_
  refine va_get (D := D) (ci := 3) (v := .ref (a 2)) (C := RX3) (T := TX3) (N := 6) (Ts := wsX30) hx hb hin (fun _ h9 => h9) hown hK hP 0 rfl rfl 1 (by decide) (hts (.fieldLink RX3 19 "Groupbooks" "books" "LGroupbooks$Books;") (by decide +kernel)) (fun _ h9 => h9) rfl dX3_reserve_5 ?_
  refine lv_iload_n hx hb dX3_reserve_8 rfl (lv_at hl 1 rfl) ?_
  refine b_csi (v := tr (oA c) (cR c) - tr (oD c) (cR c)) ((va_runVN (As := [.int (nI (c))]) (rest := []) ⟨hx, hb, hml, hown, hts⟩ (c_X1_netOf ll D a cI cJ p nu de eq am nx oA oD oE oP cR aR hR cl ad gw pr n c (by omega)) ⟨va_cnB 1 hts gX3_reserve_X1_netOf_n62 rfl rfl rfl (hE.nest 11 rfl) (hts (.initialized RX1) (by decide +kernel)) (by decide +kernel) ⟨Nat.le_of_ble_eq_true rfl, Nat.le_of_ble_eq_true rfl⟩, hts (.instanceMethod yX1_netOf) (by decide +kernel), hts (.selects RX1 yX1_netOf yX1_netOf) (by decide +kernel)⟩ ⟨PR.blind, va_recv hK hP (ci := 1) (q0 := 2) rfl rfl, PR.go hP hK hE⟩ rfl rfl hl.1 rfl (lv_room (Nat.le_of_ble_eq_true rfl)) dX3_reserve_9 ⟨Nat.le_of_ble_eq_true rfl, Nat.le_of_ble_eq_true rfl⟩).run) ?_
  refine lv_aload_n hx hb dX3_reserve_12 rfl (lv_at hl 0 rfl) ?_
  refine va_get (D := D) (ci := 3) (v := .ref (a 2)) (C := RX3) (T := TX3) (N := 6) (Ts := wsX30) hx hb hin (fun _ h9 => h9) hown hK hP 0 rfl rfl 1 (by decide) (hts (.fieldLink RX3 19 "Groupbooks" "books" "LGroupbooks$Books;") (by decide +kernel)) (fun _ h9 => h9) rfl dX3_reserve_13 ?_
  refine lv_iload_n hx hb dX3_reserve_16 rfl (lv_at hl 1 rfl) ?_
  refine b_csi (v := tr (oE c) (hR c)) ((va_runVN (As := [.int (nI (c))]) (rest := [.int (tr (oA c) (cR c) - tr (oD c) (cR c))]) ⟨hx, hb, hml, hown, hts⟩ (c_X1_equityOf ll D a cI cJ p nu de eq am nx oA oD oE oP cR aR hR cl ad gw pr n c (by omega)) ⟨va_cnB 1 hts gX3_reserve_X1_equityOf_n101 rfl rfl rfl (hE.nest 22 rfl) (hts (.initialized RX1) (by decide +kernel)) (by decide +kernel) ⟨Nat.le_of_ble_eq_true rfl, Nat.le_of_ble_eq_true rfl⟩, hts (.instanceMethod yX1_equityOf) (by decide +kernel), hts (.selects RX1 yX1_equityOf yX1_equityOf) (by decide +kernel)⟩ ⟨PR.blind, va_recv hK hP (ci := 1) (q0 := 2) rfl rfl, PR.go hP hK hE⟩ rfl rfl hl.1 rfl (lv_room (Nat.le_of_ble_eq_true rfl)) dX3_reserve_17 ⟨Nat.le_of_ble_eq_true rfl, Nat.le_of_ble_eq_true rfl⟩).run) ?_
  refine lv_isub hx hb dX3_reserve_20 ?_
  refine lv_aload_n hx hb dX3_reserve_21 rfl (lv_at hl 0 rfl) ?_
  refine va_get (D := D) (ci := 3) (v := .ref (a 2)) (C := RX3) (T := TX3) (N := 6) (Ts := wsX30) hx hb hin (fun _ h9 => h9) hown hK hP 0 rfl rfl 1 (by decide) (hts (.fieldLink RX3 19 "Groupbooks" "books" "LGroupbooks$Books;") (by decide +kernel)) (fun _ h9 => h9) rfl dX3_reserve_22 ?_
  refine lv_iload_n hx hb dX3_reserve_25 rfl (lv_at hl 1 rfl) ?_
  refine b_csi (v := tr (oP c) (aR c)) ((va_runVN (As := [.int (nI (c))]) (rest := [.int ((tr (oA c) (cR c) - tr (oD c) (cR c)) - (tr (oE c) (hR c)))]) ⟨hx, hb, hml, hown, hts⟩ (c_X1_profitOf ll D a cI cJ p nu de eq am nx oA oD oE oP cR aR hR cl ad gw pr n c (by omega)) ⟨va_cnB 1 hts gX3_reserve_X1_profitOf_n104 rfl rfl rfl (hE.nest 13 rfl) (hts (.initialized RX1) (by decide +kernel)) (by decide +kernel) ⟨Nat.le_of_ble_eq_true rfl, Nat.le_of_ble_eq_true rfl⟩, hts (.instanceMethod yX1_profitOf) (by decide +kernel), hts (.selects RX1 yX1_profitOf yX1_profitOf) (by decide +kernel)⟩ ⟨PR.blind, va_recv hK hP (ci := 1) (q0 := 2) rfl rfl, PR.go hP hK hE⟩ rfl rfl hl.1 rfl (lv_room (Nat.le_of_ble_eq_true rfl)) dX3_reserve_26 ⟨Nat.le_of_ble_eq_true rfl, Nat.le_of_ble_eq_true rfl⟩).run) ?_
  refine lv_isub hx hb dX3_reserve_29 ?_
  exact W.iret hx hb hr (fun t ht _ => ⟨_, rfl, rfl, ht⟩) (fun _ h => nomatch h) dX3_reserve_30
