abbrev rmX2_percentOf : Room := ({ frames := 1, cells := 0, slots := 0, locals := 21 } : Room)
set_option maxHeartbeats 4000000 in
set_option maxRecDepth 100000 in
theorem c_X2_percentOf (ll : Launch) (D : va_G) (a : Nat → Nat) (cI cJ : ClassId) (p : Nat → Int32) (nu de eq : Nat → Int64) (am nx oA oD oE oP cR aR hR cl ad gw pr : Nat → Int32) (n : Int32) (o c : Nat) (ho : o < 6) (hc : c < 6) : Met ll yX2_percentOf wsX2_percentOf rmX2_percentOf (va_Pc [.ref (a 1), .int (nI (o)), .int (nI (c))] (PR D (tyG cI cJ) (GW a cI cJ p nu de eq am nx oA oD oE oP cR aR hR cl ad gw pr n))) (vp_Si (fun rr => rr = p (6 * o + c))) 0 0 (fun _ => False) := by
  refine Met.ofW (cc := cX2_percentOf) (maxL := 3) (ret := (some .int)) (by decide) rfl ?_
  intro pp ee ss mm ar bel mth cd s₁ B hml hv
  obtain ⟨rfl, hP, hK, hE⟩ := hv
  have hx := B.exec
  have hb := B.bytes
  have hr := B.returns
  have hts := atoms_spec (ws := wsX2_percentOf) B.pre
  have hown : ss.vm.findClass RX2 = some mm.cls := findClass_of_methodNamed B.named
  have hlocks := B.notSynchronized
  have hin : ∀ w ∈ wsX20, w.before ([.ref (a 1), .int (nI (o)), .int (nI (c))] : List Value).toArray ss = true := fun w h => hts w ((by decide +kernel : ∀ w ∈ wsX20, w ∈ wsX2_percentOf) w h)
  have hl := lv_entry [.ref (a 1), .int (nI (o)), .int (nI (c))] (n := 3) (Nat.le_of_ble_eq_true rfl)
  rw [lg_entry_eq]
  generalize (lg_sl [.ref (a 1), .int (nI (o)), .int (nI (c))] ++ List.replicate (3 - (lg_sl [.ref (a 1), .int (nI (o)), .int (nI (c))]).length) Slot.unset).toArray = ls at hl ⊢
  have hl : lv_has ls 3 [(0, .ref (a 1)), (1, .int (nI (o))), (2, .int (nI (c)))] := hl
  refine lv_aload_n hx hb dX2_percentOf_0 rfl (lv_at hl 0 rfl) ?_
  refine va_get (D := D) (ci := 2) (v := .ref (a 6)) (C := RX2) (T := TX2) (N := 6) (Ts := wsX20) hx hb hin (fun _ h9 => h9) hown hK hP 1 rfl rfl 0 (by decide) (hts (.fieldLink RX2 9 "Groupbooks$Holdings" "percents" "[I") (by decide +kernel)) (fun _ h9 => h9) rfl dX2_percentOf_1 ?_
  refine lv_iload_n hx hb dX2_percentOf_4 rfl (lv_at hl 1 rfl) ?_
  refine lv_iload_n hx hb dX2_percentOf_5 rfl (lv_at hl 2 rfl) ?_
  refine b_csi (v := nI (6 * o + c)) ((va_runSN (As := [.int (nI (o)), .int (nI (c))]) (rest := [.ref (a 6)]) ⟨hx, hb, hml, hown, hts⟩ (c_X3_pair ll o c ) ⟨va_cnB 2 hts gX2_percentOf_X3_pair_n31 rfl rfl rfl (hE.nest 5 rfl) (hts (.initialized RX3) (by decide +kernel)) (by decide +kernel) ⟨Nat.le_of_ble_eq_true rfl, Nat.le_of_ble_eq_true rfl⟩, hts (.static yX3_pair) (by decide +kernel), trivial⟩ ⟨PT.blind, PT.to⟩ rfl rfl hl.1 rfl (lv_room (Nat.le_of_ble_eq_true rfl)) dX2_percentOf_6 ⟨Nat.le_of_ble_eq_true rfl, Nat.le_of_ble_eq_true rfl⟩).run) ?_
  refine b_iald hx hb hK hP 6 0 (f := p) rfl rfl (j := 6 * o + c) (by omega) (by decide) dX2_percentOf_9 ?_
  exact W.iret hx hb hr (fun t ht _ => ⟨_, rfl, rfl, ht⟩) (fun _ h => nomatch h) dX2_percentOf_10

abbrev rmX2_numeratorOf : Room := ({ frames := 0, cells := 0, slots := 0, locals := 0 } : Room)
set_option maxHeartbeats 4000000 in
set_option maxRecDepth 100000 in
theorem c_X2_numeratorOf (ll : Launch) (D : va_G) (a : Nat → Nat) (cI cJ : ClassId) (p : Nat → Int32) (nu de eq : Nat → Int64) (am nx oA oD oE oP cR aR hR cl ad gw pr : Nat → Int32) (n : Int32) (c : Nat) (hc : c < 6) : Met ll yX2_numeratorOf wsX2_numeratorOf rmX2_numeratorOf (va_Pc [.ref (a 1), .int (nI (c))] (PR D (tyG cI cJ) (GW a cI cJ p nu de eq am nx oA oD oE oP cR aR hR cl ad gw pr n))) (vp_Sl (fun rr => rr = nu (c))) 0 0 (fun _ => False) := by
  refine Met.ofW (cc := cX2_numeratorOf) (maxL := 2) (ret := (some .long)) (by decide) rfl ?_
  intro pp ee ss mm ar bel mth cd s₁ B hml hv
  obtain ⟨rfl, hP, hK, hE⟩ := hv
  have hx := B.exec
  have hb := B.bytes
  have hr := B.returns
  have hts := atoms_spec (ws := wsX2_numeratorOf) B.pre
  have hown : ss.vm.findClass RX2 = some mm.cls := findClass_of_methodNamed B.named
  have hlocks := B.notSynchronized
  have hin : ∀ w ∈ wsX20, w.before ([.ref (a 1), .int (nI (c))] : List Value).toArray ss = true := fun w h => hts w ((by decide +kernel : ∀ w ∈ wsX20, w ∈ wsX2_numeratorOf) w h)
  have hl := lv_entry [.ref (a 1), .int (nI (c))] (n := 2) (Nat.le_of_ble_eq_true rfl)
  rw [lg_entry_eq]
  generalize (lg_sl [.ref (a 1), .int (nI (c))] ++ List.replicate (2 - (lg_sl [.ref (a 1), .int (nI (c))]).length) Slot.unset).toArray = ls at hl ⊢
  have hl : lv_has ls 2 [(0, .ref (a 1)), (1, .int (nI (c)))] := hl
  refine lv_aload_n hx hb dX2_numeratorOf_0 rfl (lv_at hl 0 rfl) ?_
  refine va_get (D := D) (ci := 2) (v := .ref (a 7)) (C := RX2) (T := TX2) (N := 6) (Ts := wsX20) hx hb hin (fun _ h9 => h9) hown hK hP 1 rfl rfl 1 (by decide) (hts (.fieldLink RX2 15 "Groupbooks$Holdings" "numerators" "[J") (by decide +kernel)) (fun _ h9 => h9) rfl dX2_numeratorOf_1 ?_
  refine lv_iload_n hx hb dX2_numeratorOf_4 rfl (lv_at hl 1 rfl) ?_
  refine b_lald hx hb hK hP 7 1 (f := nu) rfl rfl (j := c) (by omega) (by decide) dX2_numeratorOf_5 ?_
  exact W.lret hx hb hr (fun t ht _ => ⟨_, rfl, rfl, ht⟩) (fun _ h => nomatch h) dX2_numeratorOf_6

abbrev rmX2_denominatorOf : Room := ({ frames := 0, cells := 0, slots := 0, locals := 0 } : Room)
set_option maxHeartbeats 4000000 in
set_option maxRecDepth 100000 in
theorem c_X2_denominatorOf (ll : Launch) (D : va_G) (a : Nat → Nat) (cI cJ : ClassId) (p : Nat → Int32) (nu de eq : Nat → Int64) (am nx oA oD oE oP cR aR hR cl ad gw pr : Nat → Int32) (n : Int32) (c : Nat) (hc : c < 6) : Met ll yX2_denominatorOf wsX2_denominatorOf rmX2_denominatorOf (va_Pc [.ref (a 1), .int (nI (c))] (PR D (tyG cI cJ) (GW a cI cJ p nu de eq am nx oA oD oE oP cR aR hR cl ad gw pr n))) (vp_Sl (fun rr => rr = de (c))) 0 0 (fun _ => False) := by
  refine Met.ofW (cc := cX2_denominatorOf) (maxL := 2) (ret := (some .long)) (by decide) rfl ?_
  intro pp ee ss mm ar bel mth cd s₁ B hml hv
  obtain ⟨rfl, hP, hK, hE⟩ := hv
  have hx := B.exec
  have hb := B.bytes
  have hr := B.returns
  have hts := atoms_spec (ws := wsX2_denominatorOf) B.pre
  have hown : ss.vm.findClass RX2 = some mm.cls := findClass_of_methodNamed B.named
  have hlocks := B.notSynchronized
  have hin : ∀ w ∈ wsX20, w.before ([.ref (a 1), .int (nI (c))] : List Value).toArray ss = true := fun w h => hts w ((by decide +kernel : ∀ w ∈ wsX20, w ∈ wsX2_denominatorOf) w h)
  have hl := lv_entry [.ref (a 1), .int (nI (c))] (n := 2) (Nat.le_of_ble_eq_true rfl)
  rw [lg_entry_eq]
  generalize (lg_sl [.ref (a 1), .int (nI (c))] ++ List.replicate (2 - (lg_sl [.ref (a 1), .int (nI (c))]).length) Slot.unset).toArray = ls at hl ⊢
  have hl : lv_has ls 2 [(0, .ref (a 1)), (1, .int (nI (c)))] := hl
  refine lv_aload_n hx hb dX2_denominatorOf_0 rfl (lv_at hl 0 rfl) ?_
  refine va_get (D := D) (ci := 2) (v := .ref (a 8)) (C := RX2) (T := TX2) (N := 6) (Ts := wsX20) hx hb hin (fun _ h9 => h9) hown hK hP 1 rfl rfl 2 (by decide) (hts (.fieldLink RX2 19 "Groupbooks$Holdings" "denominators" "[J") (by decide +kernel)) (fun _ h9 => h9) rfl dX2_denominatorOf_1 ?_
  refine lv_iload_n hx hb dX2_denominatorOf_4 rfl (lv_at hl 1 rfl) ?_
  refine b_lald hx hb hK hP 8 1 (f := de) rfl rfl (j := c) (by omega) (by decide) dX2_denominatorOf_5 ?_
  exact W.lret hx hb hr (fun t ht _ => ⟨_, rfl, rfl, ht⟩) (fun _ h => nomatch h) dX2_denominatorOf_6

abbrev rmX2_partOfParent : Room := ({ frames := 2, cells := 0, slots := 0, locals := 49 } : Room)
set_option maxHeartbeats 4000000 in
set_option maxRecDepth 100000 in
theorem c_X2_partOfParent (ll : Launch) (D : va_G) (a : Nat → Nat) (cI cJ : ClassId) (p : Nat → Int32) (nu de eq : Nat → Int64) (am nx oA oD oE oP cR aR hR cl ad gw pr : Nat → Int32) (n : Int32) (c : Nat) (x : Int32) (hc : c < 6) : Met ll yX2_partOfParent wsX2_partOfParent rmX2_partOfParent (va_Pc [.ref (a 1), .int (nI (c)), .int (x)] (PR D (tyG cI cJ) (GW a cI cJ p nu de eq am nx oA oD oE oP cR aR hR cl ad gw pr n))) (vp_Si (fun rr => rr = scl x (nu c) (de c))) 0 0 (fun _ => False) := by
  refine Met.ofW (cc := cX2_partOfParent) (maxL := 3) (ret := (some .int)) (by decide) rfl ?_
  intro pp ee ss mm ar bel mth cd s₁ B hml hv
  obtain ⟨rfl, hP, hK, hE⟩ := hv
  have hx := B.exec
  have hb := B.bytes
  have hr := B.returns
  have hts := atoms_spec (ws := wsX2_partOfParent) B.pre
  have hown : ss.vm.findClass RX2 = some mm.cls := findClass_of_methodNamed B.named
  have hlocks := B.notSynchronized
  have hin : ∀ w ∈ wsX20, w.before ([.ref (a 1), .int (nI (c)), .int (x)] : List Value).toArray ss = true := fun w h => hts w ((by decide +kernel : ∀ w ∈ wsX20, w ∈ wsX2_partOfParent) w h)
  have hl := lv_entry [.ref (a 1), .int (nI (c)), .int (x)] (n := 3) (Nat.le_of_ble_eq_true rfl)
  rw [lg_entry_eq]
  generalize (lg_sl [.ref (a 1), .int (nI (c)), .int (x)] ++ List.replicate (3 - (lg_sl [.ref (a 1), .int (nI (c)), .int (x)]).length) Slot.unset).toArray = ls at hl ⊢
  have hl : lv_has ls 3 [(0, .ref (a 1)), (1, .int (nI (c))), (2, .int (x))] := hl
  refine lv_iload_n hx hb dX2_partOfParent_0 rfl (lv_at hl 2 rfl) ?_
  refine lv_aload_n hx hb dX2_partOfParent_1 rfl (lv_at hl 0 rfl) ?_
  refine va_get (D := D) (ci := 2) (v := .ref (a 7)) (C := RX2) (T := TX2) (N := 6) (Ts := wsX20) hx hb hin (fun _ h9 => h9) hown hK hP 1 rfl rfl 1 (by decide) (hts (.fieldLink RX2 15 "Groupbooks$Holdings" "numerators" "[J") (by decide +kernel)) (fun _ h9 => h9) rfl dX2_partOfParent_2 ?_
  refine lv_iload_n hx hb dX2_partOfParent_5 rfl (lv_at hl 1 rfl) ?_
  refine b_lald hx hb hK hP 7 1 (f := nu) rfl rfl (j := c) (by omega) (by decide) dX2_partOfParent_6 ?_
  refine lv_aload_n hx hb dX2_partOfParent_7 rfl (lv_at hl 0 rfl) ?_
  refine va_get (D := D) (ci := 2) (v := .ref (a 8)) (C := RX2) (T := TX2) (N := 6) (Ts := wsX20) hx hb hin (fun _ h9 => h9) hown hK hP 1 rfl rfl 2 (by decide) (hts (.fieldLink RX2 19 "Groupbooks$Holdings" "denominators" "[J") (by decide +kernel)) (fun _ h9 => h9) rfl dX2_partOfParent_8 ?_
  refine lv_iload_n hx hb dX2_partOfParent_11 rfl (lv_at hl 1 rfl) ?_
  refine b_lald hx hb hK hP 8 1 (f := de) rfl rfl (j := c) (by omega) (by decide) dX2_partOfParent_12 ?_
  refine b_csi (v := scl x (nu (c)) (de (c))) (W.runS (As := [.int (x), .long (nu (c)), .long (de (c))]) (rest := []) ⟨hx, hb, hml, hown, hts⟩ (c_X2_scale ll x (nu (c)) (de (c)) ) (va_cwS 3 hts gX2_partOfParent_X2_scale rfl rfl rfl (by decide +kernel) ⟨Nat.le_of_ble_eq_true rfl, Nat.le_of_ble_eq_true rfl⟩) ⟨PT.blind, PT.to⟩ rfl rfl hl.1 rfl (lv_room (Nat.le_of_ble_eq_true rfl)) dX2_partOfParent_13 ⟨Nat.le_of_ble_eq_true rfl, Nat.le_of_ble_eq_true rfl⟩) ?_
  exact W.iret hx hb hr (fun t ht _ => ⟨_, rfl, rfl, ht⟩) (fun _ h => nomatch h) dX2_partOfParent_16

abbrev rmX2_partOfOthers : Room := ({ frames := 2, cells := 0, slots := 0, locals := 49 } : Room)
set_option maxHeartbeats 4000000 in
set_option maxRecDepth 100000 in
theorem c_X2_partOfOthers (ll : Launch) (D : va_G) (a : Nat → Nat) (cI cJ : ClassId) (p : Nat → Int32) (nu de eq : Nat → Int64) (am nx oA oD oE oP cR aR hR cl ad gw pr : Nat → Int32) (n : Int32) (c : Nat) (x : Int32) (hc : c < 6) : Met ll yX2_partOfOthers wsX2_partOfOthers rmX2_partOfOthers (va_Pc [.ref (a 1), .int (nI (c)), .int (x)] (PR D (tyG cI cJ) (GW a cI cJ p nu de eq am nx oA oD oE oP cR aR hR cl ad gw pr n))) (vp_Si (fun rr => rr = scl x (de c - nu c) (de c))) 0 0 (fun _ => False) := by
  refine Met.ofW (cc := cX2_partOfOthers) (maxL := 5) (ret := (some .int)) (by decide) rfl ?_
  intro pp ee ss mm ar bel mth cd s₁ B hml hv
  obtain ⟨rfl, hP, hK, hE⟩ := hv
  have hx := B.exec
  have hb := B.bytes
  have hr := B.returns
  have hts := atoms_spec (ws := wsX2_partOfOthers) B.pre
  have hown : ss.vm.findClass RX2 = some mm.cls := findClass_of_methodNamed B.named
  have hlocks := B.notSynchronized
  have hin : ∀ w ∈ wsX20, w.before ([.ref (a 1), .int (nI (c)), .int (x)] : List Value).toArray ss = true := fun w h => hts w ((by decide +kernel : ∀ w ∈ wsX20, w ∈ wsX2_partOfOthers) w h)
  have hl := lv_entry [.ref (a 1), .int (nI (c)), .int (x)] (n := 5) (Nat.le_of_ble_eq_true rfl)
  rw [lg_entry_eq]
  generalize (lg_sl [.ref (a 1), .int (nI (c)), .int (x)] ++ List.replicate (5 - (lg_sl [.ref (a 1), .int (nI (c)), .int (x)]).length) Slot.unset).toArray = ls at hl ⊢
  have hl : lv_has ls 5 [(0, .ref (a 1)), (1, .int (nI (c))), (2, .int (x))] := hl
  refine lv_aload_n hx hb dX2_partOfOthers_0 rfl (lv_at hl 0 rfl) ?_
  refine va_get (D := D) (ci := 2) (v := .ref (a 8)) (C := RX2) (T := TX2) (N := 6) (Ts := wsX20) hx hb hin (fun _ h9 => h9) hown hK hP 1 rfl rfl 2 (by decide) (hts (.fieldLink RX2 19 "Groupbooks$Holdings" "denominators" "[J") (by decide +kernel)) (fun _ h9 => h9) rfl dX2_partOfOthers_1 ?_
  refine lv_iload_n hx hb dX2_partOfOthers_4 rfl (lv_at hl 1 rfl) ?_
  refine b_lald hx hb hK hP 8 1 (f := de) rfl rfl (j := c) (by omega) (by decide) dX2_partOfOthers_5 ?_
  refine lv_aload_n hx hb dX2_partOfOthers_6 rfl (lv_at hl 0 rfl) ?_
  refine va_get (D := D) (ci := 2) (v := .ref (a 7)) (C := RX2) (T := TX2) (N := 6) (Ts := wsX20) hx hb hin (fun _ h9 => h9) hown hK hP 1 rfl rfl 1 (by decide) (hts (.fieldLink RX2 15 "Groupbooks$Holdings" "numerators" "[J") (by decide +kernel)) (fun _ h9 => h9) rfl dX2_partOfOthers_7 ?_
  refine lv_iload_n hx hb dX2_partOfOthers_10 rfl (lv_at hl 1 rfl) ?_
  refine b_lald hx hb hK hP 7 1 (f := nu) rfl rfl (j := c) (by omega) (by decide) dX2_partOfOthers_11 ?_
  refine lv_lsub hx hb dX2_partOfOthers_12 ?_
  refine lv_lstore_n (lv' := [(3, .long ((de (c)) - (nu (c)))), (0, .ref (a 1)), (1, .int (nI (c))), (2, .int (x))]) hx hb dX2_partOfOthers_13 rfl hl (by decide) rfl (fun ls hl => ?_)
  refine lv_iload_n hx hb dX2_partOfOthers_14 rfl (lv_at hl 3 rfl) ?_
  refine lv_lload_n hx hb dX2_partOfOthers_15 rfl (lv_at hl 0 rfl) ?_
  refine lv_aload_n hx hb dX2_partOfOthers_16 rfl (lv_at hl 1 rfl) ?_
  refine va_get (D := D) (ci := 2) (v := .ref (a 8)) (C := RX2) (T := TX2) (N := 6) (Ts := wsX20) hx hb hin (fun _ h9 => h9) hown hK hP 1 rfl rfl 2 (by decide) (hts (.fieldLink RX2 19 "Groupbooks$Holdings" "denominators" "[J") (by decide +kernel)) (fun _ h9 => h9) rfl dX2_partOfOthers_17 ?_
  refine lv_iload_n hx hb dX2_partOfOthers_20 rfl (lv_at hl 2 rfl) ?_
  refine b_lald hx hb hK hP 8 1 (f := de) rfl rfl (j := c) (by omega) (by decide) dX2_partOfOthers_21 ?_
  refine b_csi (v := scl x ((de (c)) - (nu (c))) (de (c))) (W.runS (As := [.int (x), .long ((de (c)) - (nu (c))), .long (de (c))]) (rest := []) ⟨hx, hb, hml, hown, hts⟩ (c_X2_scale ll x ((de (c)) - (nu (c))) (de (c)) ) (va_cwS 3 hts gX2_partOfOthers_X2_scale rfl rfl rfl (by decide +kernel) ⟨Nat.le_of_ble_eq_true rfl, Nat.le_of_ble_eq_true rfl⟩) ⟨PT.blind, PT.to⟩ rfl rfl hl.1 rfl (lv_room (Nat.le_of_ble_eq_true rfl)) dX2_partOfOthers_22 ⟨Nat.le_of_ble_eq_true rfl, Nat.le_of_ble_eq_true rfl⟩) ?_
  exact W.iret hx hb hr (fun t ht _ => ⟨_, rfl, rfl, ht⟩) (fun _ h => nomatch h) dX2_partOfOthers_25

abbrev rmX2_heldAmong : Room := ({ frames := 1, cells := 0, slots := 0, locals := 21 } : Room)
set_option maxHeartbeats 4000000 in
set_option maxRecDepth 100000 in
theorem c_X2_heldAmong (ll : Launch) (D : va_G) (a : Nat → Nat) (cI cJ : ClassId) (p : Nat → Int32) (nu de eq : Nat → Int64) (am nx oA oD oE oP cR aR hR cl ad gw pr : Nat → Int32) (n : Int32) (M c : Nat) (hM : M < 2 ^ 31) (hc : c < 6) : Met ll yX2_heldAmong wsX2_heldAmong rmX2_heldAmong (va_Pc [.ref (a 1), .int (nI (M)), .int (nI (c))] (PR D (tyG cI cJ) (GW a cI cJ p nu de eq am nx oA oD oE oP cR aR hR cl ad gw pr n))) (vp_Si (fun rr => rr = hA p M c 6)) 0 0 (fun _ => False) := by
  refine Met.ofW (cc := cX2_heldAmong) (maxL := 5) (ret := (some .int)) (by decide) rfl ?_
  intro pp ee ss mm ar bel mth cd s₁ B hml hv
  obtain ⟨rfl, hP, hK, hE⟩ := hv
  have hx := B.exec
  have hb := B.bytes
  have hr := B.returns
  have hts := atoms_spec (ws := wsX2_heldAmong) B.pre
  have hown : ss.vm.findClass RX2 = some mm.cls := findClass_of_methodNamed B.named
  have hlocks := B.notSynchronized
  have hin : ∀ w ∈ wsX20, w.before ([.ref (a 1), .int (nI (M)), .int (nI (c))] : List Value).toArray ss = true := fun w h => hts w ((by decide +kernel : ∀ w ∈ wsX20, w ∈ wsX2_heldAmong) w h)
  have hl := lv_entry [.ref (a 1), .int (nI (M)), .int (nI (c))] (n := 5) (Nat.le_of_ble_eq_true rfl)
  rw [lg_entry_eq]
  generalize (lg_sl [.ref (a 1), .int (nI (M)), .int (nI (c))] ++ List.replicate (5 - (lg_sl [.ref (a 1), .int (nI (M)), .int (nI (c))]).length) Slot.unset).toArray = ls at hl ⊢
  have hl : lv_has ls 5 [(0, .ref (a 1)), (1, .int (nI (M))), (2, .int (nI (c)))] := hl
  generalize hZ : MQ bel _ _ ss _ _ _ = Z
  refine lv_iconst (v := 0) hx hb dX2_heldAmong_0 (by decide) ?_
  refine lv_istore_n (lv' := [(3, .int (0)), (0, .ref (a 1)), (1, .int (nI (M))), (2, .int (nI (c)))]) hx hb dX2_heldAmong_1 rfl hl (by decide) rfl (fun ls hl => ?_)
  refine lv_iconst (v := 0) hx hb dX2_heldAmong_2 (by decide) ?_
  refine lv_istore (lv' := [(4, .int (0)), (3, .int (0)), (0, .ref (a 1)), (1, .int (nI (M))), (2, .int (nI (c)))]) hx hb dX2_heldAmong_3 hl (by decide) rfl (fun ls hl => ?_)
  have L1 : ∀ (n1 k1 : Nat), k1 + n1 = 6 → ∀ (ls : Array Slot), lv_has ls 5 [(4, .int (nI (k1))), (3, .int (hA p M c (k1))), (0, .ref (a 1)), (1, .int (nI (M))), (2, .int (nI (c)))] → W pp ll ee rmX2_heldAmong ss mm (([.ref (a 1), .int (nI (M)), .int (nI (c))] : List Value).toArray) bel mth cd ss.heap [] 0 0 Z (F0 mm 5 ls []) := by
    intro n1
    induction n1 with
    | zero =>
      intro k1 hk1  ls hl
      have hk1b : k1 = 6 := by omega
      obtain rfl := hk1b
      refine lv_iload hx hb dX2_heldAmong_5 (lv_at hl 0 rfl) ?_
      refine lv_bipush (v := 6) hx hb dX2_heldAmong_7 (by decide) ?_
      refine lv_icmp_ge (tgt := 41) hx hb dX2_heldAmong_9 (by decide) (fun c_2 => ?_) (fun c_2 => ?_)
      · have n_2 : (6) ≤ (6) := (nI_leI (a := 6) (b := 6) (by omega) (by omega)).mp c_2
        refine lv_iload_n hx hb dX2_heldAmong_41 rfl (lv_at hl 1 rfl) ?_
        subst hZ; exact W.iret hx hb hr (fun t ht _ => ⟨_, rfl, (by first | rfl | assumption), ht⟩) (fun _ h => nomatch h) dX2_heldAmong_42
      · have n_2 : ¬ ((6) ≤ (6)) := fun h => c_2 ((nI_leI (a := 6) (b := 6) (by omega) (by omega)).mpr h)
        exfalso; omega
    | succ n1 ih1 =>
      intro k1 hk1  ls hl
      have hk1b : k1 < 6 := by omega
      refine lv_iload hx hb dX2_heldAmong_5 (lv_at hl 0 rfl) ?_
      refine lv_bipush (v := 6) hx hb dX2_heldAmong_7 (by decide) ?_
      refine lv_icmp_ge (tgt := 41) hx hb dX2_heldAmong_9 (by decide) (fun c_3 => ?_) (fun c_3 => ?_)
      · have n_3 : (6) ≤ (k1) := (nI_leI (a := 6) (b := k1) (by omega) (by omega)).mp c_3
        exfalso; omega
      · have n_3 : ¬ ((6) ≤ (k1)) := fun h => c_3 ((nI_leI (a := 6) (b := k1) (by omega) (by omega)).mpr h)
        refine lv_iload_n hx hb dX2_heldAmong_12 rfl (lv_at hl 3 rfl) ?_
        refine lv_iload hx hb dX2_heldAmong_13 (lv_at hl 0 rfl) ?_
        refine b_csi (v := bI (mB M k1)) ((va_runSN (As := [.int (nI (M)), .int (nI (k1))]) (rest := []) ⟨hx, hb, hml, hown, hts⟩ (c_X3_isMember ll M k1 (by omega) (by omega)) ⟨va_cnB 2 hts gX2_heldAmong_X3_isMember_n83 rfl rfl rfl (hE.nest 4 rfl) (hts (.initialized RX3) (by decide +kernel)) (by decide +kernel) ⟨Nat.le_of_ble_eq_true rfl, Nat.le_of_ble_eq_true rfl⟩, hts (.static yX3_isMember) (by decide +kernel), trivial⟩ ⟨PT.blind, PT.to⟩ rfl rfl hl.1 rfl (lv_room (Nat.le_of_ble_eq_true rfl)) dX2_heldAmong_15 ⟨Nat.le_of_ble_eq_true rfl, Nat.le_of_ble_eq_true rfl⟩).run) ?_
        refine lv_if_eq (tgt := 35) hx hb dX2_heldAmong_18 (by decide) (fun c_4 => ?_) (fun c_4 => ?_)
        · have n_4 : ¬ (mB M k1) = true := bI0 c_4
          refine lv_iinc (v := nI (k1 + 1)) (lv' := [(4, .int (nI (k1 + 1))), (3, .int (hA p M c (k1))), (0, .ref (a 1)), (1, .int (nI (M))), (2, .int (nI (c)))]) hx hb dX2_heldAmong_35 hl (k := 0) rfl (nI_1 (k1)) (by decide) rfl (fun ls hl => ?_)
          refine lv_goto (tgt := 5) hx hb dX2_heldAmong_38 (by decide) ?_
          have e_5 : hA p M c (k1 + 1) = hA p M c (k1) := by first | rfl | exact if_pos (by assumption) | exact if_neg (by assumption) | (simp only [n_3, n_4, Bool.false_eq_true, ↓reduceIte])
          exact ih1 (k1 + 1) (by omega) ls (by rw [e_5]; exact lv_sub hl [0, 1, 2, 3, 4] rfl)
        · have n_4 : (mB M k1) = true := bI1 c_4
          refine lv_iload_n hx hb dX2_heldAmong_21 rfl (lv_at hl 1 rfl) ?_
          refine lv_aload_n hx hb dX2_heldAmong_22 rfl (lv_at hl 2 rfl) ?_
          refine va_get (D := D) (ci := 2) (v := .ref (a 6)) (C := RX2) (T := TX2) (N := 6) (Ts := wsX20) hx hb hin (fun _ h9 => h9) hown hK hP 1 rfl rfl 0 (by decide) (hts (.fieldLink RX2 9 "Groupbooks$Holdings" "percents" "[I") (by decide +kernel)) (fun _ h9 => h9) rfl dX2_heldAmong_23 ?_
          refine lv_iload hx hb dX2_heldAmong_26 (lv_at hl 0 rfl) ?_
          refine lv_iload_n hx hb dX2_heldAmong_28 rfl (lv_at hl 4 rfl) ?_
          refine b_csi (v := nI (6 * k1 + c)) ((va_runSN (As := [.int (nI (k1)), .int (nI (c))]) (rest := [.ref (a 6), .int (hA p M c (k1))]) ⟨hx, hb, hml, hown, hts⟩ (c_X3_pair ll k1 c ) ⟨va_cnB 2 hts gX2_heldAmong_X3_pair_n31 rfl rfl rfl (hE.nest 5 rfl) (hts (.initialized RX3) (by decide +kernel)) (by decide +kernel) ⟨Nat.le_of_ble_eq_true rfl, Nat.le_of_ble_eq_true rfl⟩, hts (.static yX3_pair) (by decide +kernel), trivial⟩ ⟨PT.blind, PT.to⟩ rfl rfl hl.1 rfl (lv_room (Nat.le_of_ble_eq_true rfl)) dX2_heldAmong_29 ⟨Nat.le_of_ble_eq_true rfl, Nat.le_of_ble_eq_true rfl⟩).run) ?_
          refine b_iald hx hb hK hP 6 0 (f := p) rfl rfl (j := 6 * k1 + c) (by omega) (by decide) dX2_heldAmong_32 ?_
          refine lv_iadd hx hb dX2_heldAmong_33 ?_
          refine lv_istore_n (lv' := [(3, .int ((hA p M c (k1)) + (p (6 * k1 + c)))), (4, .int (nI (k1))), (0, .ref (a 1)), (1, .int (nI (M))), (2, .int (nI (c)))]) hx hb dX2_heldAmong_34 rfl hl (by decide) rfl (fun ls hl => ?_)
          refine lv_iinc (v := nI (k1 + 1)) (lv' := [(4, .int (nI (k1 + 1))), (3, .int ((hA p M c (k1)) + (p (6 * k1 + c)))), (0, .ref (a 1)), (1, .int (nI (M))), (2, .int (nI (c)))]) hx hb dX2_heldAmong_35 hl (k := 1) rfl (nI_1 (k1)) (by decide) rfl (fun ls hl => ?_)
          refine lv_goto (tgt := 5) hx hb dX2_heldAmong_38 (by decide) ?_
          have e_6 : hA p M c (k1 + 1) = (hA p M c (k1)) + (p (6 * k1 + c)) := by first | rfl | exact if_pos (by assumption) | exact if_neg (by assumption) | (simp only [n_3, n_4, Bool.false_eq_true, ↓reduceIte])
          exact ih1 (k1 + 1) (by omega) ls (by rw [e_6]; exact lv_sub hl [0, 1, 2, 3, 4] rfl)
  exact L1 (6) 0 (by omega) ls (lv_sub hl [0, 1, 2, 3, 4] rfl)

abbrev rmX2_withControlled : Room := ({ frames := 2, cells := 0, slots := 0, locals := 45 } : Room)
set_option maxHeartbeats 4000000 in
set_option maxRecDepth 100000 in
theorem c_X2_withControlled (ll : Launch) (D : va_G) (a : Nat → Nat) (cI cJ : ClassId) (p : Nat → Int32) (nu de eq : Nat → Int64) (am nx oA oD oE oP cR aR hR cl ad gw pr : Nat → Int32) (n : Int32) (M : Nat) (hM : M < 2 ^ 31) : Met ll yX2_withControlled wsX2_withControlled rmX2_withControlled (va_Pc [.ref (a 1), .int (nI (M))] (PR D (tyG cI cJ) (GW a cI cJ p nu de eq am nx oA oD oE oP cR aR hR cl ad gw pr n))) (vp_Si (fun rr => rr = nI (wc p M 5))) 0 0 (fun _ => False) := by
  refine Met.ofW (cc := cX2_withControlled) (maxL := 4) (ret := (some .int)) (by decide) rfl ?_
  intro pp ee ss mm ar bel mth cd s₁ B hml hv
  obtain ⟨rfl, hP, hK, hE⟩ := hv
  have hx := B.exec
  have hb := B.bytes
  have hr := B.returns
  have hts := atoms_spec (ws := wsX2_withControlled) B.pre
  have hown : ss.vm.findClass RX2 = some mm.cls := findClass_of_methodNamed B.named
  have hlocks := B.notSynchronized
  have hin : ∀ w ∈ wsX20, w.before ([.ref (a 1), .int (nI (M))] : List Value).toArray ss = true := fun w h => hts w ((by decide +kernel : ∀ w ∈ wsX20, w ∈ wsX2_withControlled) w h)
  have hl := lv_entry [.ref (a 1), .int (nI (M))] (n := 4) (Nat.le_of_ble_eq_true rfl)
  rw [lg_entry_eq]
  generalize (lg_sl [.ref (a 1), .int (nI (M))] ++ List.replicate (4 - (lg_sl [.ref (a 1), .int (nI (M))]).length) Slot.unset).toArray = ls at hl ⊢
  have hl : lv_has ls 4 [(0, .ref (a 1)), (1, .int (nI (M)))] := hl
  generalize hZ : MQ bel _ _ ss _ _ _ = Z
  refine lv_iload_n hx hb dX2_withControlled_0 rfl (lv_at hl 1 rfl) ?_
  refine lv_istore_n (lv' := [(2, .int (nI (M))), (0, .ref (a 1)), (1, .int (nI (M)))]) hx hb dX2_withControlled_1 rfl hl (by decide) rfl (fun ls hl => ?_)
  refine lv_iconst (v := 1) hx hb dX2_withControlled_2 (by decide) ?_
  refine lv_istore_n (lv' := [(3, .int (1)), (2, .int (nI (M))), (0, .ref (a 1)), (1, .int (nI (M)))]) hx hb dX2_withControlled_3 rfl hl (by decide) rfl (fun ls hl => ?_)
  have L1 : ∀ (n1 k1 : Nat), k1 + n1 = 5 → ∀ (ls : Array Slot), lv_has ls 4 [(3, .int (nI (k1 + 1))), (2, .int (nI (wc p M (k1)))), (0, .ref (a 1)), (1, .int (nI (M)))] → W pp ll ee rmX2_withControlled ss mm (([.ref (a 1), .int (nI (M))] : List Value).toArray) bel mth cd ss.heap [] 0 0 Z (F0 mm 4 ls []) := by
    intro n1
    induction n1 with
    | zero =>
      intro k1 hk1  ls hl
      have hk1b : k1 = 5 := by omega
      obtain rfl := hk1b
      refine lv_iload_n hx hb dX2_withControlled_4 rfl (lv_at hl 0 rfl) ?_
      refine lv_bipush (v := 6) hx hb dX2_withControlled_5 (by decide) ?_
      refine lv_icmp_ge (tgt := 33) hx hb dX2_withControlled_7 (by decide) (fun c_2 => ?_) (fun c_2 => ?_)
      · have n_2 : (6) ≤ (5 + 1) := (nI_leI (a := 6) (b := 5 + 1) (by omega) (by omega)).mp c_2
        refine lv_iload_n hx hb dX2_withControlled_33 rfl (lv_at hl 1 rfl) ?_
        subst hZ; exact W.iret hx hb hr (fun t ht _ => ⟨_, rfl, (by first | rfl | assumption), ht⟩) (fun _ h => nomatch h) dX2_withControlled_34
      · have n_2 : ¬ ((6) ≤ (5 + 1)) := fun h => c_2 ((nI_leI (a := 6) (b := 5 + 1) (by omega) (by omega)).mpr h)
        exfalso; omega
    | succ n1 ih1 =>
      intro k1 hk1  ls hl
      have hk1b : k1 < 5 := by omega
      refine lv_iload_n hx hb dX2_withControlled_4 rfl (lv_at hl 0 rfl) ?_
      refine lv_bipush (v := 6) hx hb dX2_withControlled_5 (by decide) ?_
      refine lv_icmp_ge (tgt := 33) hx hb dX2_withControlled_7 (by decide) (fun c_3 => ?_) (fun c_3 => ?_)
      · have n_3 : (6) ≤ (k1 + 1) := (nI_leI (a := 6) (b := k1 + 1) (by omega) (by omega)).mp c_3
        exfalso; omega
      · have n_3 : ¬ ((6) ≤ (k1 + 1)) := fun h => c_3 ((nI_leI (a := 6) (b := k1 + 1) (by omega) (by omega)).mpr h)
        refine lv_aload_n hx hb dX2_withControlled_10 rfl (lv_at hl 2 rfl) ?_
        refine lv_iload_n hx hb dX2_withControlled_11 rfl (lv_at hl 3 rfl) ?_
        refine lv_iload_n hx hb dX2_withControlled_12 rfl (lv_at hl 0 rfl) ?_
        refine b_csi (v := hA p M (k1 + 1) 6) (W.runV (As := [.int (nI (M)), .int (nI (k1 + 1))]) (rest := []) ⟨hx, hb, hml, hown, hts⟩ (c_X2_heldAmong ll D a cI cJ p nu de eq am nx oA oD oE oP cR aR hR cl ad gw pr n M (k1 + 1) (by omega) (by omega)) (cwV 2 hts gX2_withControlled_X2_heldAmong rfl rfl rfl (by decide +kernel) ⟨Nat.le_of_ble_eq_true rfl, Nat.le_of_ble_eq_true rfl⟩) ⟨PR.blind, va_recv hK hP (ci := 2) (q0 := 1) rfl rfl, PR.go hP hK hE⟩ rfl rfl hl.1 rfl (lv_room (Nat.le_of_ble_eq_true rfl)) dX2_withControlled_13 ⟨Nat.le_of_ble_eq_true rfl, Nat.le_of_ble_eq_true rfl⟩) ?_
        refine lv_bipush (v := 50) hx hb dX2_withControlled_16 (by decide) ?_
        refine lv_icmp_le (tgt := 27) hx hb dX2_withControlled_18 (by decide) (fun c_4 => ?_) (fun c_4 => ?_)
        · have n_4 := c_4
          refine lv_iinc (v := nI (k1 + 1 + 1)) (lv' := [(3, .int (nI (k1 + 1 + 1))), (2, .int (nI (wc p M (k1)))), (0, .ref (a 1)), (1, .int (nI (M)))]) hx hb dX2_withControlled_27 hl (k := 0) rfl (nI_1 (k1 + 1)) (by decide) rfl (fun ls hl => ?_)
          refine lv_goto (tgt := 4) hx hb dX2_withControlled_30 (by decide) ?_
          have e_5 : wc p M (k1 + 1) = wc p M (k1) := by first | rfl | exact if_pos (by assumption) | exact if_neg (by assumption) | (simp only [n_3, n_4, Bool.false_eq_true, ↓reduceIte])
          exact ih1 (k1 + 1) (by omega) ls (by rw [e_5]; exact lv_sub hl [0, 1, 2, 3] rfl)
        · have n_4 := c_4
          refine lv_iload_n hx hb dX2_withControlled_21 rfl (lv_at hl 1 rfl) ?_
          refine lv_iconst (v := 1) hx hb dX2_withControlled_22 (by decide) ?_
          refine lv_iload_n hx hb dX2_withControlled_23 rfl (lv_at hl 0 rfl) ?_
          refine lv_ishl hx hb dX2_withControlled_24 ?_
          refine b_ti (y := nI (2 ^ (k1 + 1))) (sh_1 (k1 + 1) (by omega)) ?_
          refine lv_ior hx hb dX2_withControlled_25 ?_
          refine b_ti (y := nI ((wc p M (k1)) ||| (2 ^ (k1 + 1)))) (or_n (wc p M (k1)) (2 ^ (k1 + 1))) ?_
          refine lv_istore_n (lv' := [(2, .int (nI ((wc p M (k1)) ||| (2 ^ (k1 + 1))))), (3, .int (nI (k1 + 1))), (0, .ref (a 1)), (1, .int (nI (M)))]) hx hb dX2_withControlled_26 rfl hl (by decide) rfl (fun ls hl => ?_)
          refine lv_iinc (v := nI (k1 + 1 + 1)) (lv' := [(3, .int (nI (k1 + 1 + 1))), (2, .int (nI ((wc p M (k1)) ||| (2 ^ (k1 + 1))))), (0, .ref (a 1)), (1, .int (nI (M)))]) hx hb dX2_withControlled_27 hl (k := 1) rfl (nI_1 (k1 + 1)) (by decide) rfl (fun ls hl => ?_)
          refine lv_goto (tgt := 4) hx hb dX2_withControlled_30 (by decide) ?_
          have e_6 : wc p M (k1 + 1) = (wc p M (k1)) ||| (2 ^ (k1 + 1)) := by first | rfl | exact if_pos (by assumption) | exact if_neg (by assumption) | (simp only [n_3, n_4, Bool.false_eq_true, ↓reduceIte])
          exact ih1 (k1 + 1) (by omega) ls (by rw [e_6]; exact lv_sub hl [0, 1, 2, 3] rfl)
  exact L1 (5) 0 (by omega) ls (lv_sub hl [0, 1, 2, 3] rfl)

abbrev rmX2_members : Room := ({ frames := 3, cells := 0, slots := 0, locals := 68 } : Room)
set_option maxHeartbeats 4000000 in
set_option maxRecDepth 100000 in
theorem c_X2_members (ll : Launch) (D : va_G) (a : Nat → Nat) (cI cJ : ClassId) (p : Nat → Int32) (nu de eq : Nat → Int64) (am nx oA oD oE oP cR aR hR cl ad gw pr : Nat → Int32) (n : Int32)   : Met ll yX2_members wsX2_members rmX2_members (va_Pc [.ref (a 1)] (PR D (tyG cI cJ) (GW a cI cJ p nu de eq am nx oA oD oE oP cR aR hR cl ad gw pr n))) (vp_Si (fun rr => rr = nI (mem p 5))) 0 0 (fun _ => False) := by
  refine Met.ofW (cc := cX2_members) (maxL := 3) (ret := (some .int)) (by decide) rfl ?_
  intro pp ee ss mm ar bel mth cd s₁ B hml hv
  obtain ⟨rfl, hP, hK, hE⟩ := hv
  have hx := B.exec
  have hb := B.bytes
  have hr := B.returns
  have hts := atoms_spec (ws := wsX2_members) B.pre
  have hown : ss.vm.findClass RX2 = some mm.cls := findClass_of_methodNamed B.named
  have hlocks := B.notSynchronized
  have hin : ∀ w ∈ wsX20, w.before ([.ref (a 1)] : List Value).toArray ss = true := fun w h => hts w ((by decide +kernel : ∀ w ∈ wsX20, w ∈ wsX2_members) w h)
  have hl := lv_entry [.ref (a 1)] (n := 3) (Nat.le_of_ble_eq_true rfl)
  rw [lg_entry_eq]
  generalize (lg_sl [.ref (a 1)] ++ List.replicate (3 - (lg_sl [.ref (a 1)]).length) Slot.unset).toArray = ls at hl ⊢
  have hl : lv_has ls 3 [(0, .ref (a 1))] := hl
  generalize hZ : MQ bel _ _ ss _ _ _ = Z
  refine lv_iconst (v := 1) hx hb dX2_members_0 (by decide) ?_
  refine lv_istore_n (lv' := [(1, .int (1)), (0, .ref (a 1))]) hx hb dX2_members_1 rfl hl (by decide) rfl (fun ls hl => ?_)
  refine lv_iconst (v := 1) hx hb dX2_members_2 (by decide) ?_
  refine lv_istore_n (lv' := [(2, .int (1)), (1, .int (1)), (0, .ref (a 1))]) hx hb dX2_members_3 rfl hl (by decide) rfl (fun ls hl => ?_)
  have L1 : ∀ (n1 k1 : Nat), k1 + n1 = 5 → ∀ (ls : Array Slot), lv_has ls 3 [(2, .int (nI (k1 + 1))), (1, .int (nI (mem p (k1)))), (0, .ref (a 1))] → W pp ll ee rmX2_members ss mm (([.ref (a 1)] : List Value).toArray) bel mth cd ss.heap [] 0 0 Z (F0 mm 4 ls []) := by
    intro n1
    induction n1 with
    | zero =>
      intro k1 hk1  ls hl
      have hk1b : k1 = 5 := by omega
      obtain rfl := hk1b
      refine lv_iload_n hx hb dX2_members_4 rfl (lv_at hl 0 rfl) ?_
      refine lv_bipush (v := 6) hx hb dX2_members_5 (by decide) ?_
      refine lv_icmp_ge (tgt := 22) hx hb dX2_members_7 (by decide) (fun c_2 => ?_) (fun c_2 => ?_)
      · have n_2 : (6) ≤ (5 + 1) := (nI_leI (a := 6) (b := 5 + 1) (by omega) (by omega)).mp c_2
        refine lv_iload_n hx hb dX2_members_22 rfl (lv_at hl 1 rfl) ?_
        subst hZ; exact W.iret hx hb hr (fun t ht _ => ⟨_, rfl, (by first | rfl | assumption), ht⟩) (fun _ h => nomatch h) dX2_members_23
      · have n_2 : ¬ ((6) ≤ (5 + 1)) := fun h => c_2 ((nI_leI (a := 6) (b := 5 + 1) (by omega) (by omega)).mpr h)
        exfalso; omega
    | succ n1 ih1 =>
      intro k1 hk1  ls hl
      have hk1b : k1 < 5 := by omega
      refine lv_iload_n hx hb dX2_members_4 rfl (lv_at hl 0 rfl) ?_
      refine lv_bipush (v := 6) hx hb dX2_members_5 (by decide) ?_
      refine lv_icmp_ge (tgt := 22) hx hb dX2_members_7 (by decide) (fun c_3 => ?_) (fun c_3 => ?_)
      · have n_3 : (6) ≤ (k1 + 1) := (nI_leI (a := 6) (b := k1 + 1) (by omega) (by omega)).mp c_3
        exfalso; omega
      · have n_3 : ¬ ((6) ≤ (k1 + 1)) := fun h => c_3 ((nI_leI (a := 6) (b := k1 + 1) (by omega) (by omega)).mpr h)
        refine lv_aload_n hx hb dX2_members_10 rfl (lv_at hl 2 rfl) ?_
        refine lv_iload_n hx hb dX2_members_11 rfl (lv_at hl 1 rfl) ?_
        refine b_csi (v := nI (wc p (mem p (k1)) 5)) (W.runV (As := [.int (nI (mem p (k1)))]) (rest := []) ⟨hx, hb, hml, hown, hts⟩ (c_X2_withControlled ll D a cI cJ p nu de eq am nx oA oD oE oP cR aR hR cl ad gw pr n (mem p (k1)) (lt31 (mem_lt _ _))) (cwV 1 hts gX2_members_X2_withControlled rfl rfl rfl (by decide +kernel) ⟨Nat.le_of_ble_eq_true rfl, Nat.le_of_ble_eq_true rfl⟩) ⟨PR.blind, va_recv hK hP (ci := 2) (q0 := 1) rfl rfl, PR.go hP hK hE⟩ rfl rfl hl.1 rfl (lv_room (Nat.le_of_ble_eq_true rfl)) dX2_members_12 ⟨Nat.le_of_ble_eq_true rfl, Nat.le_of_ble_eq_true rfl⟩) ?_
        refine lv_istore_n (lv' := [(1, .int (nI (wc p (mem p (k1)) 5))), (2, .int (nI (k1 + 1))), (0, .ref (a 1))]) hx hb dX2_members_15 rfl hl (by decide) rfl (fun ls hl => ?_)
        refine lv_iinc (v := nI (k1 + 1 + 1)) (lv' := [(2, .int (nI (k1 + 1 + 1))), (1, .int (nI (wc p (mem p (k1)) 5))), (0, .ref (a 1))]) hx hb dX2_members_16 hl (k := 1) rfl (nI_1 (k1 + 1)) (by decide) rfl (fun ls hl => ?_)
        refine lv_goto (tgt := 4) hx hb dX2_members_19 (by decide) ?_
        have e_4 : mem p (k1 + 1) = wc p (mem p (k1)) 5 := by first | rfl | exact if_pos (by assumption) | exact if_neg (by assumption) | (simp only [n_3, Bool.false_eq_true, ↓reduceIte])
        exact ih1 (k1 + 1) (by omega) ls (by rw [e_4]; exact lv_sub hl [0, 1, 2] rfl)
  exact L1 (5) 0 (by omega) ls (lv_sub hl [0, 1, 2] rfl)

abbrev rmX0_disputed : Room := ({ frames := 1, cells := 0, slots := 0, locals := 21 } : Room)
set_option maxHeartbeats 4000000 in
set_option maxRecDepth 100000 in
theorem c_X0_disputed (ll : Launch) (D : va_G) (a : Nat → Nat) (cI cJ : ClassId) (p : Nat → Int32) (nu de eq : Nat → Int64) (am nx oA oD oE oP cR aR hR cl ad gw pr : Nat → Int32) (n : Int32) (c d : Nat) (hc : c < 6) (hd : d < 6) : Met ll yX0_disputed wsX0_disputed rmX0_disputed (va_Pc [.ref (a 3), .int (nI (c)), .int (nI (d))] (PR D (tyG cI cJ) (GW a cI cJ p nu de eq am nx oA oD oE oP cR aR hR cl ad gw pr n))) (vp_Si (fun rr => rr = cl (6 * c + d) - ad (6 * c + d))) 0 0 (fun _ => False) := by
  refine Met.ofW (cc := cX0_disputed) (maxL := 4) (ret := (some .int)) (by decide) rfl ?_
  intro pp ee ss mm ar bel mth cd s₁ B hml hv
  obtain ⟨rfl, hP, hK, hE⟩ := hv
  have hx := B.exec
  have hb := B.bytes
  have hr := B.returns
  have hts := atoms_spec (ws := wsX0_disputed) B.pre
  have hown : ss.vm.findClass RX0 = some mm.cls := findClass_of_methodNamed B.named
  have hlocks := B.notSynchronized
  have hin : ∀ w ∈ wsX00, w.before ([.ref (a 3), .int (nI (c)), .int (nI (d))] : List Value).toArray ss = true := fun w h => hts w ((by decide +kernel : ∀ w ∈ wsX00, w ∈ wsX0_disputed) w h)
  have hl := lv_entry [.ref (a 3), .int (nI (c)), .int (nI (d))] (n := 4) (Nat.le_of_ble_eq_true rfl)
  rw [lg_entry_eq]
  generalize (lg_sl [.ref (a 3), .int (nI (c)), .int (nI (d))] ++ List.replicate (4 - (lg_sl [.ref (a 3), .int (nI (c)), .int (nI (d))]).length) Slot.unset).toArray = ls at hl ⊢
  have hl : lv_has ls 4 [(0, .ref (a 3)), (1, .int (nI (c))), (2, .int (nI (d)))] := hl
  refine lv_iload_n hx hb dX0_disputed_0 rfl (lv_at hl 1 rfl) ?_
  refine lv_iload_n hx hb dX0_disputed_1 rfl (lv_at hl 2 rfl) ?_
  refine b_csi (v := nI (6 * c + d)) ((va_runSN (As := [.int (nI (c)), .int (nI (d))]) (rest := []) ⟨hx, hb, hml, hown, hts⟩ (c_X3_pair ll c d ) ⟨va_cnB 2 hts gX0_disputed_X3_pair_n18 rfl rfl rfl (hE.nest 8 rfl) (hts (.initialized RX3) (by decide +kernel)) (by decide +kernel) ⟨Nat.le_of_ble_eq_true rfl, Nat.le_of_ble_eq_true rfl⟩, hts (.static yX3_pair) (by decide +kernel), trivial⟩ ⟨PT.blind, PT.to⟩ rfl rfl hl.1 rfl (lv_room (Nat.le_of_ble_eq_true rfl)) dX0_disputed_2 ⟨Nat.le_of_ble_eq_true rfl, Nat.le_of_ble_eq_true rfl⟩).run) ?_
  refine lv_istore_n (lv' := [(3, .int (nI (6 * c + d))), (0, .ref (a 3)), (1, .int (nI (c))), (2, .int (nI (d)))]) hx hb dX0_disputed_5 rfl hl (by decide) rfl (fun ls hl => ?_)
  refine lv_aload_n hx hb dX0_disputed_6 rfl (lv_at hl 1 rfl) ?_
  refine va_get (D := D) (ci := 0) (v := .ref (a 19)) (C := RX0) (T := TX0) (N := 2) (Ts := wsX00) hx hb hin (fun _ h9 => h9) hown hK hP 3 rfl rfl 0 (by decide) (hts (.fieldLink RX0 9 "Groupbooks$Balances" "claims" "[I") (by decide +kernel)) (fun _ h9 => h9) rfl dX0_disputed_7 ?_
  refine lv_iload_n hx hb dX0_disputed_10 rfl (lv_at hl 0 rfl) ?_
  refine b_iald hx hb hK hP 19 0 (f := cl) rfl rfl (j := 6 * c + d) (by omega) (by decide) dX0_disputed_11 ?_
  refine lv_aload_n hx hb dX0_disputed_12 rfl (lv_at hl 1 rfl) ?_
  refine va_get (D := D) (ci := 0) (v := .ref (a 20)) (C := RX0) (T := TX0) (N := 2) (Ts := wsX00) hx hb hin (fun _ h9 => h9) hown hK hP 3 rfl rfl 1 (by decide) (hts (.fieldLink RX0 15 "Groupbooks$Balances" "admissions" "[I") (by decide +kernel)) (fun _ h9 => h9) rfl dX0_disputed_13 ?_
  refine lv_iload_n hx hb dX0_disputed_16 rfl (lv_at hl 0 rfl) ?_
  refine b_iald hx hb hK hP 20 0 (f := ad) rfl rfl (j := 6 * c + d) (by omega) (by decide) dX0_disputed_17 ?_
  refine lv_isub hx hb dX0_disputed_18 ?_
  exact W.iret hx hb hr (fun t ht _ => ⟨_, rfl, rfl, ht⟩) (fun _ h => nomatch h) dX0_disputed_19

abbrev rmX0_agreedAmong : Room := ({ frames := 1, cells := 0, slots := 0, locals := 40 } : Room)
set_option maxHeartbeats 4000000 in
set_option maxRecDepth 100000 in
theorem c_X0_agreedAmong (ll : Launch) (D : va_G) (a : Nat → Nat) (cI cJ : ClassId) (p : Nat → Int32) (nu de eq : Nat → Int64) (am nx oA oD oE oP cR aR hR cl ad gw pr : Nat → Int32) (n : Int32) (M : Nat) (hM : M < 2 ^ 31) : Met ll yX0_agreedAmong wsX0_agreedAmong rmX0_agreedAmong (va_Pc [.ref (a 3), .int (nI (M))] (PR D (tyG cI cJ) (GW a cI cJ p nu de eq am nx oA oD oE oP cR aR hR cl ad gw pr n))) (vp_Si (fun rr => rr = agO cl ad M 6)) 0 0 (fun _ => False) := by
  refine Met.ofW (cc := cX0_agreedAmong) (maxL := 6) (ret := (some .int)) (by decide) rfl ?_
  intro pp ee ss mm ar bel mth cd s₁ B hml hv
  obtain ⟨rfl, hP, hK, hE⟩ := hv
  have hx := B.exec
  have hb := B.bytes
  have hr := B.returns
  have hts := atoms_spec (ws := wsX0_agreedAmong) B.pre
  have hown : ss.vm.findClass RX0 = some mm.cls := findClass_of_methodNamed B.named
  have hlocks := B.notSynchronized
  have hin : ∀ w ∈ wsX00, w.before ([.ref (a 3), .int (nI (M))] : List Value).toArray ss = true := fun w h => hts w ((by decide +kernel : ∀ w ∈ wsX00, w ∈ wsX0_agreedAmong) w h)
  have hl := lv_entry [.ref (a 3), .int (nI (M))] (n := 6) (Nat.le_of_ble_eq_true rfl)
  rw [lg_entry_eq]
  generalize (lg_sl [.ref (a 3), .int (nI (M))] ++ List.replicate (6 - (lg_sl [.ref (a 3), .int (nI (M))]).length) Slot.unset).toArray = ls at hl ⊢
  have hl : lv_has ls 6 [(0, .ref (a 3)), (1, .int (nI (M)))] := hl
  generalize hZ : MQ bel _ _ ss _ _ _ = Z
  refine lv_iconst (v := 0) hx hb dX0_agreedAmong_0 (by decide) ?_
  refine lv_istore_n (lv' := [(2, .int (0)), (0, .ref (a 3)), (1, .int (nI (M)))]) hx hb dX0_agreedAmong_1 rfl hl (by decide) rfl (fun ls hl => ?_)
  refine lv_iconst (v := 0) hx hb dX0_agreedAmong_2 (by decide) ?_
  refine lv_istore_n (lv' := [(3, .int (0)), (2, .int (0)), (0, .ref (a 3)), (1, .int (nI (M)))]) hx hb dX0_agreedAmong_3 rfl hl (by decide) rfl (fun ls hl => ?_)
  have L1 : ∀ (n1 i1 : Nat), i1 + n1 = 6 → ∀ (ls : Array Slot), lv_has ls 6 [(3, .int (nI (i1))), (2, .int (agO cl ad M (i1))), (0, .ref (a 3)), (1, .int (nI (M)))] → W pp ll ee rmX0_agreedAmong ss mm (([.ref (a 3), .int (nI (M))] : List Value).toArray) bel mth cd ss.heap [] 0 0 Z (F0 mm 4 ls []) := by
    intro n1
    induction n1 with
    | zero =>
      intro i1 hk1  ls hl
      have hk1b : i1 = 6 := by omega
      obtain rfl := hk1b
      refine lv_iload_n hx hb dX0_agreedAmong_4 rfl (lv_at hl 0 rfl) ?_
      refine lv_bipush (v := 6) hx hb dX0_agreedAmong_5 (by decide) ?_
      refine lv_icmp_ge (tgt := 77) hx hb dX0_agreedAmong_7 (by decide) (fun c_2 => ?_) (fun c_2 => ?_)
      · have n_2 : (6) ≤ (6) := (nI_leI (a := 6) (b := 6) (by omega) (by omega)).mp c_2
        refine lv_iload_n hx hb dX0_agreedAmong_77 rfl (lv_at hl 1 rfl) ?_
        subst hZ; exact W.iret hx hb hr (fun t ht _ => ⟨_, rfl, (by first | rfl | assumption), ht⟩) (fun _ h => nomatch h) dX0_agreedAmong_78
      · have n_2 : ¬ ((6) ≤ (6)) := fun h => c_2 ((nI_leI (a := 6) (b := 6) (by omega) (by omega)).mpr h)
        exfalso; omega
    | succ n1 ih1 =>
      intro i1 hk1  ls hl
      have hk1b : i1 < 6 := by omega
      refine lv_iload_n hx hb dX0_agreedAmong_4 rfl (lv_at hl 0 rfl) ?_
      refine lv_bipush (v := 6) hx hb dX0_agreedAmong_5 (by decide) ?_
      refine lv_icmp_ge (tgt := 77) hx hb dX0_agreedAmong_7 (by decide) (fun c_3 => ?_) (fun c_3 => ?_)
      · have n_3 : (6) ≤ (i1) := (nI_leI (a := 6) (b := i1) (by omega) (by omega)).mp c_3
        exfalso; omega
      · have n_3 : ¬ ((6) ≤ (i1)) := fun h => c_3 ((nI_leI (a := 6) (b := i1) (by omega) (by omega)).mpr h)
        refine lv_iconst (v := 0) hx hb dX0_agreedAmong_10 (by decide) ?_
        refine lv_istore (lv' := [(4, .int (0)), (3, .int (nI (i1))), (2, .int (agO cl ad M (i1))), (0, .ref (a 3)), (1, .int (nI (M)))]) hx hb dX0_agreedAmong_11 hl (by decide) rfl (fun ls hl => ?_)
        have L4 : ∀ (n4 j4 : Nat), j4 + n4 = 6 → ∀ (ls : Array Slot), lv_has ls 6 [(4, .int (nI (j4))), (3, .int (nI (i1))), (2, .int (agI cl ad M i1 (agO cl ad M i1) (j4))), (0, .ref (a 3)), (1, .int (nI (M)))] → W pp ll ee rmX0_agreedAmong ss mm (([.ref (a 3), .int (nI (M))] : List Value).toArray) bel mth cd ss.heap [] 0 0 Z (F0 mm 13 ls []) := by
          intro n4
          induction n4 with
          | zero =>
            intro j4 hk4  ls hl
            have hk4b : j4 = 6 := by omega
            obtain rfl := hk4b
            refine lv_iload hx hb dX0_agreedAmong_13 (lv_at hl 0 rfl) ?_
            refine lv_bipush (v := 6) hx hb dX0_agreedAmong_15 (by decide) ?_
            refine lv_icmp_ge (tgt := 71) hx hb dX0_agreedAmong_17 (by decide) (fun c_5 => ?_) (fun c_5 => ?_)
            · have n_5 : (6) ≤ (6) := (nI_leI (a := 6) (b := 6) (by omega) (by omega)).mp c_5
              refine lv_iinc (v := nI (i1 + 1)) (lv' := [(3, .int (nI (i1 + 1))), (4, .int (nI (6))), (2, .int (agI cl ad M i1 (agO cl ad M i1) (6))), (0, .ref (a 3)), (1, .int (nI (M)))]) hx hb dX0_agreedAmong_71 hl (k := 1) rfl (nI_1 (i1)) (by decide) rfl (fun ls hl => ?_)
              refine lv_goto (tgt := 4) hx hb dX0_agreedAmong_74 (by decide) ?_
              have e_6 : agO cl ad M (i1 + 1) = agI cl ad M i1 (agO cl ad M i1) (6) := by first | rfl | exact if_pos (by assumption) | exact if_neg (by assumption) | (simp only [n_3, n_5, Bool.false_eq_true, ↓reduceIte])
              exact ih1 (i1 + 1) (by omega) ls (by rw [e_6]; exact lv_sub hl [0, 2, 3, 4] rfl)
            · have n_5 : ¬ ((6) ≤ (6)) := fun h => c_5 ((nI_leI (a := 6) (b := 6) (by omega) (by omega)).mpr h)
              exfalso; omega
          | succ n4 ih4 =>
            intro j4 hk4  ls hl
            have hk4b : j4 < 6 := by omega
            refine lv_iload hx hb dX0_agreedAmong_13 (lv_at hl 0 rfl) ?_
            refine lv_bipush (v := 6) hx hb dX0_agreedAmong_15 (by decide) ?_
            refine lv_icmp_ge (tgt := 71) hx hb dX0_agreedAmong_17 (by decide) (fun c_7 => ?_) (fun c_7 => ?_)
            · have n_7 : (6) ≤ (j4) := (nI_leI (a := 6) (b := j4) (by omega) (by omega)).mp c_7
              exfalso; omega
            · have n_7 : ¬ ((6) ≤ (j4)) := fun h => c_7 ((nI_leI (a := 6) (b := j4) (by omega) (by omega)).mpr h)
              refine lv_iload_n hx hb dX0_agreedAmong_20 rfl (lv_at hl 4 rfl) ?_
              refine lv_iload_n hx hb dX0_agreedAmong_21 rfl (lv_at hl 1 rfl) ?_
              refine b_csi (v := bI (mB M i1)) ((va_runSN (As := [.int (nI (M)), .int (nI (i1))]) (rest := []) ⟨hx, hb, hml, hown, hts⟩ (c_X3_isMember ll M i1 (by omega) (by omega)) ⟨va_cnB 2 hts gX0_agreedAmong_X3_isMember_n22 rfl rfl rfl (hE.nest 7 rfl) (hts (.initialized RX3) (by decide +kernel)) (by decide +kernel) ⟨Nat.le_of_ble_eq_true rfl, Nat.le_of_ble_eq_true rfl⟩, hts (.static yX3_isMember) (by decide +kernel), trivial⟩ ⟨PT.blind, PT.to⟩ rfl rfl hl.1 rfl (lv_room (Nat.le_of_ble_eq_true rfl)) dX0_agreedAmong_22 ⟨Nat.le_of_ble_eq_true rfl, Nat.le_of_ble_eq_true rfl⟩).run) ?_
              refine lv_if_eq (tgt := 65) hx hb dX0_agreedAmong_25 (by decide) (fun c_8 => ?_) (fun c_8 => ?_)
              · have n_8 : ¬ (mB M i1) = true := bI0 c_8
                refine lv_iinc (v := nI (j4 + 1)) (lv' := [(4, .int (nI (j4 + 1))), (3, .int (nI (i1))), (2, .int (agI cl ad M i1 (agO cl ad M i1) (j4))), (0, .ref (a 3)), (1, .int (nI (M)))]) hx hb dX0_agreedAmong_65 hl (k := 0) rfl (nI_1 (j4)) (by decide) rfl (fun ls hl => ?_)
                refine lv_goto (tgt := 13) hx hb dX0_agreedAmong_68 (by decide) ?_
                have e_9 : agI cl ad M i1 (agO cl ad M i1) (j4 + 1) = agI cl ad M i1 (agO cl ad M i1) (j4) := by first | rfl | exact if_pos (by assumption) | exact if_neg (by assumption) | (simp only [agI, n_3, n_7, n_8, Bool.false_eq_true, ↓reduceIte])
                exact ih4 (j4 + 1) (by omega) ls (by rw [e_9]; exact lv_sub hl [0, 1, 2, 3, 4] rfl)
              · have n_8 : (mB M i1) = true := bI1 c_8
                refine lv_iload_n hx hb dX0_agreedAmong_28 rfl (lv_at hl 4 rfl) ?_
                refine lv_iload hx hb dX0_agreedAmong_29 (lv_at hl 0 rfl) ?_
                refine b_csi (v := bI (mB M j4)) ((va_runSN (As := [.int (nI (M)), .int (nI (j4))]) (rest := []) ⟨hx, hb, hml, hown, hts⟩ (c_X3_isMember ll M j4 (by omega) (by omega)) ⟨va_cnB 2 hts gX0_agreedAmong_X3_isMember_n22 rfl rfl rfl (hE.nest 7 rfl) (hts (.initialized RX3) (by decide +kernel)) (by decide +kernel) ⟨Nat.le_of_ble_eq_true rfl, Nat.le_of_ble_eq_true rfl⟩, hts (.static yX3_isMember) (by decide +kernel), trivial⟩ ⟨PT.blind, PT.to⟩ rfl rfl hl.1 rfl (lv_room (Nat.le_of_ble_eq_true rfl)) dX0_agreedAmong_31 ⟨Nat.le_of_ble_eq_true rfl, Nat.le_of_ble_eq_true rfl⟩).run) ?_
                refine lv_if_eq (tgt := 65) hx hb dX0_agreedAmong_34 (by decide) (fun c_10 => ?_) (fun c_10 => ?_)
                · have n_10 : ¬ (mB M j4) = true := bI0 c_10
                  refine lv_iinc (v := nI (j4 + 1)) (lv' := [(4, .int (nI (j4 + 1))), (3, .int (nI (i1))), (2, .int (agI cl ad M i1 (agO cl ad M i1) (j4))), (0, .ref (a 3)), (1, .int (nI (M)))]) hx hb dX0_agreedAmong_65 hl (k := 0) rfl (nI_1 (j4)) (by decide) rfl (fun ls hl => ?_)
                  refine lv_goto (tgt := 13) hx hb dX0_agreedAmong_68 (by decide) ?_
                  have e_11 : agI cl ad M i1 (agO cl ad M i1) (j4 + 1) = agI cl ad M i1 (agO cl ad M i1) (j4) := by first | rfl | exact if_pos (by assumption) | exact if_neg (by assumption) | (simp only [agI, n_3, n_7, n_8, n_10, Bool.false_eq_true, ↓reduceIte])
                  exact ih4 (j4 + 1) (by omega) ls (by rw [e_11]; exact lv_sub hl [0, 1, 2, 3, 4] rfl)
                · have n_10 : (mB M j4) = true := bI1 c_10
                  refine lv_iload_n hx hb dX0_agreedAmong_37 rfl (lv_at hl 1 rfl) ?_
                  refine lv_iload hx hb dX0_agreedAmong_38 (lv_at hl 0 rfl) ?_
                  refine b_csi (v := nI (6 * i1 + j4)) ((va_runSN (As := [.int (nI (i1)), .int (nI (j4))]) (rest := []) ⟨hx, hb, hml, hown, hts⟩ (c_X3_pair ll i1 j4 ) ⟨va_cnB 2 hts gX0_agreedAmong_X3_pair_n18 rfl rfl rfl (hE.nest 8 rfl) (hts (.initialized RX3) (by decide +kernel)) (by decide +kernel) ⟨Nat.le_of_ble_eq_true rfl, Nat.le_of_ble_eq_true rfl⟩, hts (.static yX3_pair) (by decide +kernel), trivial⟩ ⟨PT.blind, PT.to⟩ rfl rfl hl.1 rfl (lv_room (Nat.le_of_ble_eq_true rfl)) dX0_agreedAmong_40 ⟨Nat.le_of_ble_eq_true rfl, Nat.le_of_ble_eq_true rfl⟩).run) ?_
                  refine lv_istore (lv' := [(5, .int (nI (6 * i1 + j4))), (4, .int (nI (j4))), (3, .int (nI (i1))), (2, .int (agI cl ad M i1 (agO cl ad M i1) (j4))), (0, .ref (a 3)), (1, .int (nI (M)))]) hx hb dX0_agreedAmong_43 hl (by decide) rfl (fun ls hl => ?_)
                  refine lv_iload_n hx hb dX0_agreedAmong_45 rfl (lv_at hl 3 rfl) ?_
                  refine lv_aload_n hx hb dX0_agreedAmong_46 rfl (lv_at hl 4 rfl) ?_
                  refine va_get (D := D) (ci := 0) (v := .ref (a 19)) (C := RX0) (T := TX0) (N := 2) (Ts := wsX00) hx hb hin (fun _ h9 => h9) hown hK hP 3 rfl rfl 0 (by decide) (hts (.fieldLink RX0 9 "Groupbooks$Balances" "claims" "[I") (by decide +kernel)) (fun _ h9 => h9) rfl dX0_agreedAmong_47 ?_
                  refine lv_iload hx hb dX0_agreedAmong_50 (lv_at hl 0 rfl) ?_
                  refine b_iald hx hb hK hP 19 0 (f := cl) rfl rfl (j := 6 * i1 + j4) (by omega) (by decide) dX0_agreedAmong_52 ?_
                  refine lv_aload_n hx hb dX0_agreedAmong_53 rfl (lv_at hl 4 rfl) ?_
                  refine va_get (D := D) (ci := 0) (v := .ref (a 20)) (C := RX0) (T := TX0) (N := 2) (Ts := wsX00) hx hb hin (fun _ h9 => h9) hown hK hP 3 rfl rfl 1 (by decide) (hts (.fieldLink RX0 15 "Groupbooks$Balances" "admissions" "[I") (by decide +kernel)) (fun _ h9 => h9) rfl dX0_agreedAmong_54 ?_
                  refine lv_iload hx hb dX0_agreedAmong_57 (lv_at hl 0 rfl) ?_
                  refine b_iald hx hb hK hP 20 0 (f := ad) rfl rfl (j := 6 * i1 + j4) (by omega) (by decide) dX0_agreedAmong_59 ?_
                  refine va_mmin hx hb (hml.trans hl.1.symm) hown (hts (.methodLink RX0 26 Lib.Math.min.name) (by decide +kernel)) (hts (.static Lib.Math.min.name) (by decide +kernel)) (hts (.initialized "java/lang/Math") (by decide +kernel)) (hts (.code Lib.Math.min.name Lib.Math.min.code 2 (some .int)) (by decide +kernel)) (Nat.le_of_ble_eq_true rfl) (Nat.le_of_ble_eq_true rfl) (Nat.le_of_ble_eq_true rfl) (Nat.le_of_ble_eq_true rfl) dX0_agreedAmong_60 ?_
                  refine lv_iadd hx hb dX0_agreedAmong_63 ?_
                  refine lv_istore_n (lv' := [(2, .int ((agI cl ad M i1 (agO cl ad M i1) (j4)) + (if ad (6 * i1 + j4) < cl (6 * i1 + j4) then ad (6 * i1 + j4) else cl (6 * i1 + j4)))), (5, .int (nI (6 * i1 + j4))), (4, .int (nI (j4))), (3, .int (nI (i1))), (0, .ref (a 3)), (1, .int (nI (M)))]) hx hb dX0_agreedAmong_64 rfl hl (by decide) rfl (fun ls hl => ?_)
                  refine lv_iinc (v := nI (j4 + 1)) (lv' := [(4, .int (nI (j4 + 1))), (2, .int ((agI cl ad M i1 (agO cl ad M i1) (j4)) + (if ad (6 * i1 + j4) < cl (6 * i1 + j4) then ad (6 * i1 + j4) else cl (6 * i1 + j4)))), (5, .int (nI (6 * i1 + j4))), (3, .int (nI (i1))), (0, .ref (a 3)), (1, .int (nI (M)))]) hx hb dX0_agreedAmong_65 hl (k := 2) rfl (nI_1 (j4)) (by decide) rfl (fun ls hl => ?_)
                  refine lv_goto (tgt := 13) hx hb dX0_agreedAmong_68 (by decide) ?_
                  have e_12 : agI cl ad M i1 (agO cl ad M i1) (j4 + 1) = (agI cl ad M i1 (agO cl ad M i1) (j4)) + (if ad (6 * i1 + j4) < cl (6 * i1 + j4) then ad (6 * i1 + j4) else cl (6 * i1 + j4)) := by first | rfl | exact if_pos (by assumption) | exact if_neg (by assumption) | (simp only [agI, n_3, n_7, n_8, n_10, Bool.false_eq_true, ↓reduceIte])
                  exact ih4 (j4 + 1) (by omega) ls (by rw [e_12]; exact lv_sub hl [0, 3, 1, 4, 5] rfl)
        exact L4 (6) 0 (by omega) ls (lv_sub hl [0, 1, 2, 3, 4] rfl)
  exact L1 (6) 0 (by omega) ls (lv_sub hl [0, 1, 2, 3] rfl)

abbrev rmX1_assetsOf : Room := ({ frames := 2, cells := 0, slots := 0, locals := 43 } : Room)
set_option maxHeartbeats 4000000 in
set_option maxRecDepth 100000 in
theorem c_X1_assetsOf (ll : Launch) (D : va_G) (a : Nat → Nat) (cI cJ : ClassId) (p : Nat → Int32) (nu de eq : Nat → Int64) (am nx oA oD oE oP cR aR hR cl ad gw pr : Nat → Int32) (n : Int32) (c : Nat) (hc : c < 6) : Met ll yX1_assetsOf wsX1_assetsOf rmX1_assetsOf (va_Pc [.ref (a 2), .int (nI (c))] (PR D (tyG cI cJ) (GW a cI cJ p nu de eq am nx oA oD oE oP cR aR hR cl ad gw pr n))) (vp_Si (fun rr => rr = tr (oA c) (cR c))) 0 0 (fun _ => False) := by
  refine Met.ofW (cc := cX1_assetsOf) (maxL := 2) (ret := (some .int)) (by decide) rfl ?_
  intro pp ee ss mm ar bel mth cd s₁ B hml hv
  obtain ⟨rfl, hP, hK, hE⟩ := hv
  have hx := B.exec
  have hb := B.bytes
  have hr := B.returns
  have hts := atoms_spec (ws := wsX1_assetsOf) B.pre
  have hown : ss.vm.findClass RX1 = some mm.cls := findClass_of_methodNamed B.named
  have hlocks := B.notSynchronized
  have hin : ∀ w ∈ wsX10, w.before ([.ref (a 2), .int (nI (c))] : List Value).toArray ss = true := fun w h => hts w ((by decide +kernel : ∀ w ∈ wsX10, w ∈ wsX1_assetsOf) w h)
  have hl := lv_entry [.ref (a 2), .int (nI (c))] (n := 2) (Nat.le_of_ble_eq_true rfl)
  rw [lg_entry_eq]
  generalize (lg_sl [.ref (a 2), .int (nI (c))] ++ List.replicate (2 - (lg_sl [.ref (a 2), .int (nI (c))]).length) Slot.unset).toArray = ls at hl ⊢
  have hl : lv_has ls 2 [(0, .ref (a 2)), (1, .int (nI (c)))] := hl
  refine lv_aload_n hx hb dX1_assetsOf_0 rfl (lv_at hl 0 rfl) ?_
  refine va_get (D := D) (ci := 1) (v := .ref (a 12)) (C := RX1) (T := TX1) (N := 7) (Ts := wsX10) hx hb hin (fun _ h9 => h9) hown hK hP 2 rfl rfl 0 (by decide) (hts (.fieldLink RX1 9 "Groupbooks$Books" "ownAssets" "[I") (by decide +kernel)) (fun _ h9 => h9) rfl dX1_assetsOf_1 ?_
  refine lv_iload_n hx hb dX1_assetsOf_4 rfl (lv_at hl 1 rfl) ?_
  refine b_iald hx hb hK hP 12 0 (f := oA) rfl rfl (j := c) (by omega) (by decide) dX1_assetsOf_5 ?_
  refine lv_aload_n hx hb dX1_assetsOf_6 rfl (lv_at hl 0 rfl) ?_
  refine va_get (D := D) (ci := 1) (v := .ref (a 16)) (C := RX1) (T := TX1) (N := 7) (Ts := wsX10) hx hb hin (fun _ h9 => h9) hown hK hP 2 rfl rfl 4 (by decide) (hts (.fieldLink RX1 24 "Groupbooks$Books" "closingRates" "[I") (by decide +kernel)) (fun _ h9 => h9) rfl dX1_assetsOf_7 ?_
  refine lv_iload_n hx hb dX1_assetsOf_10 rfl (lv_at hl 1 rfl) ?_
  refine b_iald hx hb hK hP 16 0 (f := cR) rfl rfl (j := c) (by omega) (by decide) dX1_assetsOf_11 ?_
  refine b_csi (v := tr (oA (c)) (cR (c))) (W.runS (As := [.int (oA (c)), .int (cR (c))]) (rest := []) ⟨hx, hb, hml, hown, hts⟩ (c_X1_translate ll (oA (c)) (cR (c)) ) (va_cwS 2 hts gX1_assetsOf_X1_translate rfl rfl rfl (by decide +kernel) ⟨Nat.le_of_ble_eq_true rfl, Nat.le_of_ble_eq_true rfl⟩) ⟨PT.blind, PT.to⟩ rfl rfl hl.1 rfl (lv_room (Nat.le_of_ble_eq_true rfl)) dX1_assetsOf_12 ⟨Nat.le_of_ble_eq_true rfl, Nat.le_of_ble_eq_true rfl⟩) ?_
  exact W.iret hx hb hr (fun t ht _ => ⟨_, rfl, rfl, ht⟩) (fun _ h => nomatch h) dX1_assetsOf_15

abbrev rmX1_debtsOf : Room := ({ frames := 2, cells := 0, slots := 0, locals := 43 } : Room)
set_option maxHeartbeats 4000000 in
set_option maxRecDepth 100000 in
theorem c_X1_debtsOf (ll : Launch) (D : va_G) (a : Nat → Nat) (cI cJ : ClassId) (p : Nat → Int32) (nu de eq : Nat → Int64) (am nx oA oD oE oP cR aR hR cl ad gw pr : Nat → Int32) (n : Int32) (c : Nat) (hc : c < 6) : Met ll yX1_debtsOf wsX1_debtsOf rmX1_debtsOf (va_Pc [.ref (a 2), .int (nI (c))] (PR D (tyG cI cJ) (GW a cI cJ p nu de eq am nx oA oD oE oP cR aR hR cl ad gw pr n))) (vp_Si (fun rr => rr = tr (oD c) (cR c))) 0 0 (fun _ => False) := by
  refine Met.ofW (cc := cX1_debtsOf) (maxL := 2) (ret := (some .int)) (by decide) rfl ?_
  intro pp ee ss mm ar bel mth cd s₁ B hml hv
  obtain ⟨rfl, hP, hK, hE⟩ := hv
  have hx := B.exec
  have hb := B.bytes
  have hr := B.returns
  have hts := atoms_spec (ws := wsX1_debtsOf) B.pre
  have hown : ss.vm.findClass RX1 = some mm.cls := findClass_of_methodNamed B.named
  have hlocks := B.notSynchronized
  have hin : ∀ w ∈ wsX10, w.before ([.ref (a 2), .int (nI (c))] : List Value).toArray ss = true := fun w h => hts w ((by decide +kernel : ∀ w ∈ wsX10, w ∈ wsX1_debtsOf) w h)
  have hl := lv_entry [.ref (a 2), .int (nI (c))] (n := 2) (Nat.le_of_ble_eq_true rfl)
  rw [lg_entry_eq]
  generalize (lg_sl [.ref (a 2), .int (nI (c))] ++ List.replicate (2 - (lg_sl [.ref (a 2), .int (nI (c))]).length) Slot.unset).toArray = ls at hl ⊢
  have hl : lv_has ls 2 [(0, .ref (a 2)), (1, .int (nI (c)))] := hl
  refine lv_aload_n hx hb dX1_debtsOf_0 rfl (lv_at hl 0 rfl) ?_
  refine va_get (D := D) (ci := 1) (v := .ref (a 13)) (C := RX1) (T := TX1) (N := 7) (Ts := wsX10) hx hb hin (fun _ h9 => h9) hown hK hP 2 rfl rfl 1 (by decide) (hts (.fieldLink RX1 15 "Groupbooks$Books" "ownDebts" "[I") (by decide +kernel)) (fun _ h9 => h9) rfl dX1_debtsOf_1 ?_
  refine lv_iload_n hx hb dX1_debtsOf_4 rfl (lv_at hl 1 rfl) ?_
  refine b_iald hx hb hK hP 13 0 (f := oD) rfl rfl (j := c) (by omega) (by decide) dX1_debtsOf_5 ?_
  refine lv_aload_n hx hb dX1_debtsOf_6 rfl (lv_at hl 0 rfl) ?_
  refine va_get (D := D) (ci := 1) (v := .ref (a 16)) (C := RX1) (T := TX1) (N := 7) (Ts := wsX10) hx hb hin (fun _ h9 => h9) hown hK hP 2 rfl rfl 4 (by decide) (hts (.fieldLink RX1 24 "Groupbooks$Books" "closingRates" "[I") (by decide +kernel)) (fun _ h9 => h9) rfl dX1_debtsOf_7 ?_
  refine lv_iload_n hx hb dX1_debtsOf_10 rfl (lv_at hl 1 rfl) ?_
  refine b_iald hx hb hK hP 16 0 (f := cR) rfl rfl (j := c) (by omega) (by decide) dX1_debtsOf_11 ?_
  refine b_csi (v := tr (oD (c)) (cR (c))) (W.runS (As := [.int (oD (c)), .int (cR (c))]) (rest := []) ⟨hx, hb, hml, hown, hts⟩ (c_X1_translate ll (oD (c)) (cR (c)) ) (va_cwS 2 hts gX1_debtsOf_X1_translate rfl rfl rfl (by decide +kernel) ⟨Nat.le_of_ble_eq_true rfl, Nat.le_of_ble_eq_true rfl⟩) ⟨PT.blind, PT.to⟩ rfl rfl hl.1 rfl (lv_room (Nat.le_of_ble_eq_true rfl)) dX1_debtsOf_12 ⟨Nat.le_of_ble_eq_true rfl, Nat.le_of_ble_eq_true rfl⟩) ?_
  exact W.iret hx hb hr (fun t ht _ => ⟨_, rfl, rfl, ht⟩) (fun _ h => nomatch h) dX1_debtsOf_15

abbrev rmX1_equityOf : Room := ({ frames := 2, cells := 0, slots := 0, locals := 43 } : Room)
set_option maxHeartbeats 4000000 in
set_option maxRecDepth 100000 in
theorem c_X1_equityOf (ll : Launch) (D : va_G) (a : Nat → Nat) (cI cJ : ClassId) (p : Nat → Int32) (nu de eq : Nat → Int64) (am nx oA oD oE oP cR aR hR cl ad gw pr : Nat → Int32) (n : Int32) (c : Nat) (hc : c < 6) : Met ll yX1_equityOf wsX1_equityOf rmX1_equityOf (va_Pc [.ref (a 2), .int (nI (c))] (PR D (tyG cI cJ) (GW a cI cJ p nu de eq am nx oA oD oE oP cR aR hR cl ad gw pr n))) (vp_Si (fun rr => rr = tr (oE c) (hR c))) 0 0 (fun _ => False) := by
  refine Met.ofW (cc := cX1_equityOf) (maxL := 2) (ret := (some .int)) (by decide) rfl ?_
  intro pp ee ss mm ar bel mth cd s₁ B hml hv
  obtain ⟨rfl, hP, hK, hE⟩ := hv
  have hx := B.exec
  have hb := B.bytes
  have hr := B.returns
  have hts := atoms_spec (ws := wsX1_equityOf) B.pre
  have hown : ss.vm.findClass RX1 = some mm.cls := findClass_of_methodNamed B.named
  have hlocks := B.notSynchronized
  have hin : ∀ w ∈ wsX10, w.before ([.ref (a 2), .int (nI (c))] : List Value).toArray ss = true := fun w h => hts w ((by decide +kernel : ∀ w ∈ wsX10, w ∈ wsX1_equityOf) w h)
  have hl := lv_entry [.ref (a 2), .int (nI (c))] (n := 2) (Nat.le_of_ble_eq_true rfl)
  rw [lg_entry_eq]
  generalize (lg_sl [.ref (a 2), .int (nI (c))] ++ List.replicate (2 - (lg_sl [.ref (a 2), .int (nI (c))]).length) Slot.unset).toArray = ls at hl ⊢
  have hl : lv_has ls 2 [(0, .ref (a 2)), (1, .int (nI (c)))] := hl
  refine lv_aload_n hx hb dX1_equityOf_0 rfl (lv_at hl 0 rfl) ?_
  refine va_get (D := D) (ci := 1) (v := .ref (a 14)) (C := RX1) (T := TX1) (N := 7) (Ts := wsX10) hx hb hin (fun _ h9 => h9) hown hK hP 2 rfl rfl 2 (by decide) (hts (.fieldLink RX1 18 "Groupbooks$Books" "ownEquities" "[I") (by decide +kernel)) (fun _ h9 => h9) rfl dX1_equityOf_1 ?_
  refine lv_iload_n hx hb dX1_equityOf_4 rfl (lv_at hl 1 rfl) ?_
  refine b_iald hx hb hK hP 14 0 (f := oE) rfl rfl (j := c) (by omega) (by decide) dX1_equityOf_5 ?_
  refine lv_aload_n hx hb dX1_equityOf_6 rfl (lv_at hl 0 rfl) ?_
  refine va_get (D := D) (ci := 1) (v := .ref (a 18)) (C := RX1) (T := TX1) (N := 7) (Ts := wsX10) hx hb hin (fun _ h9 => h9) hown hK hP 2 rfl rfl 6 (by decide) (hts (.fieldLink RX1 30 "Groupbooks$Books" "historicalRates" "[I") (by decide +kernel)) (fun _ h9 => h9) rfl dX1_equityOf_7 ?_
  refine lv_iload_n hx hb dX1_equityOf_10 rfl (lv_at hl 1 rfl) ?_
  refine b_iald hx hb hK hP 18 0 (f := hR) rfl rfl (j := c) (by omega) (by decide) dX1_equityOf_11 ?_
  refine b_csi (v := tr (oE (c)) (hR (c))) (W.runS (As := [.int (oE (c)), .int (hR (c))]) (rest := []) ⟨hx, hb, hml, hown, hts⟩ (c_X1_translate ll (oE (c)) (hR (c)) ) (va_cwS 2 hts gX1_equityOf_X1_translate rfl rfl rfl (by decide +kernel) ⟨Nat.le_of_ble_eq_true rfl, Nat.le_of_ble_eq_true rfl⟩) ⟨PT.blind, PT.to⟩ rfl rfl hl.1 rfl (lv_room (Nat.le_of_ble_eq_true rfl)) dX1_equityOf_12 ⟨Nat.le_of_ble_eq_true rfl, Nat.le_of_ble_eq_true rfl⟩) ?_
  exact W.iret hx hb hr (fun t ht _ => ⟨_, rfl, rfl, ht⟩) (fun _ h => nomatch h) dX1_equityOf_15

abbrev rmX1_profitOf : Room := ({ frames := 2, cells := 0, slots := 0, locals := 43 } : Room)
set_option maxHeartbeats 4000000 in
set_option maxRecDepth 100000 in
theorem c_X1_profitOf (ll : Launch) (D : va_G) (a : Nat → Nat) (cI cJ : ClassId) (p : Nat → Int32) (nu de eq : Nat → Int64) (am nx oA oD oE oP cR aR hR cl ad gw pr : Nat → Int32) (n : Int32) (c : Nat) (hc : c < 6) : Met ll yX1_profitOf wsX1_profitOf rmX1_profitOf (va_Pc [.ref (a 2), .int (nI (c))] (PR D (tyG cI cJ) (GW a cI cJ p nu de eq am nx oA oD oE oP cR aR hR cl ad gw pr n))) (vp_Si (fun rr => rr = tr (oP c) (aR c))) 0 0 (fun _ => False) := by
  refine Met.ofW (cc := cX1_profitOf) (maxL := 2) (ret := (some .int)) (by decide) rfl ?_
  intro pp ee ss mm ar bel mth cd s₁ B hml hv
  obtain ⟨rfl, hP, hK, hE⟩ := hv
  have hx := B.exec
  have hb := B.bytes
  have hr := B.returns
  have hts := atoms_spec (ws := wsX1_profitOf) B.pre
  have hown : ss.vm.findClass RX1 = some mm.cls := findClass_of_methodNamed B.named
  have hlocks := B.notSynchronized
  have hin : ∀ w ∈ wsX10, w.before ([.ref (a 2), .int (nI (c))] : List Value).toArray ss = true := fun w h => hts w ((by decide +kernel : ∀ w ∈ wsX10, w ∈ wsX1_profitOf) w h)
  have hl := lv_entry [.ref (a 2), .int (nI (c))] (n := 2) (Nat.le_of_ble_eq_true rfl)
  rw [lg_entry_eq]
  generalize (lg_sl [.ref (a 2), .int (nI (c))] ++ List.replicate (2 - (lg_sl [.ref (a 2), .int (nI (c))]).length) Slot.unset).toArray = ls at hl ⊢
  have hl : lv_has ls 2 [(0, .ref (a 2)), (1, .int (nI (c)))] := hl
  refine lv_aload_n hx hb dX1_profitOf_0 rfl (lv_at hl 0 rfl) ?_
  refine va_get (D := D) (ci := 1) (v := .ref (a 15)) (C := RX1) (T := TX1) (N := 7) (Ts := wsX10) hx hb hin (fun _ h9 => h9) hown hK hP 2 rfl rfl 3 (by decide) (hts (.fieldLink RX1 21 "Groupbooks$Books" "ownProfits" "[I") (by decide +kernel)) (fun _ h9 => h9) rfl dX1_profitOf_1 ?_
  refine lv_iload_n hx hb dX1_profitOf_4 rfl (lv_at hl 1 rfl) ?_
  refine b_iald hx hb hK hP 15 0 (f := oP) rfl rfl (j := c) (by omega) (by decide) dX1_profitOf_5 ?_
  refine lv_aload_n hx hb dX1_profitOf_6 rfl (lv_at hl 0 rfl) ?_
  refine va_get (D := D) (ci := 1) (v := .ref (a 17)) (C := RX1) (T := TX1) (N := 7) (Ts := wsX10) hx hb hin (fun _ h9 => h9) hown hK hP 2 rfl rfl 5 (by decide) (hts (.fieldLink RX1 27 "Groupbooks$Books" "averageRates" "[I") (by decide +kernel)) (fun _ h9 => h9) rfl dX1_profitOf_7 ?_
  refine lv_iload_n hx hb dX1_profitOf_10 rfl (lv_at hl 1 rfl) ?_
  refine b_iald hx hb hK hP 17 0 (f := aR) rfl rfl (j := c) (by omega) (by decide) dX1_profitOf_11 ?_
  refine b_csi (v := tr (oP (c)) (aR (c))) (W.runS (As := [.int (oP (c)), .int (aR (c))]) (rest := []) ⟨hx, hb, hml, hown, hts⟩ (c_X1_translate ll (oP (c)) (aR (c)) ) (va_cwS 2 hts gX1_profitOf_X1_translate rfl rfl rfl (by decide +kernel) ⟨Nat.le_of_ble_eq_true rfl, Nat.le_of_ble_eq_true rfl⟩) ⟨PT.blind, PT.to⟩ rfl rfl hl.1 rfl (lv_room (Nat.le_of_ble_eq_true rfl)) dX1_profitOf_12 ⟨Nat.le_of_ble_eq_true rfl, Nat.le_of_ble_eq_true rfl⟩) ?_
  exact W.iret hx hb hr (fun t ht _ => ⟨_, rfl, rfl, ht⟩) (fun _ h => nomatch h) dX1_profitOf_15

abbrev rmX1_netOf : Room := ({ frames := 3, cells := 0, slots := 0, locals := 64 } : Room)
set_option maxHeartbeats 4000000 in
set_option maxRecDepth 100000 in
theorem c_X1_netOf (ll : Launch) (D : va_G) (a : Nat → Nat) (cI cJ : ClassId) (p : Nat → Int32) (nu de eq : Nat → Int64) (am nx oA oD oE oP cR aR hR cl ad gw pr : Nat → Int32) (n : Int32) (c : Nat) (hc : c < 6) : Met ll yX1_netOf wsX1_netOf rmX1_netOf (va_Pc [.ref (a 2), .int (nI (c))] (PR D (tyG cI cJ) (GW a cI cJ p nu de eq am nx oA oD oE oP cR aR hR cl ad gw pr n))) (vp_Si (fun rr => rr = tr (oA c) (cR c) - tr (oD c) (cR c))) 0 0 (fun _ => False) := by
  refine Met.ofW (cc := cX1_netOf) (maxL := 2) (ret := (some .int)) (by decide) rfl ?_
  intro pp ee ss mm ar bel mth cd s₁ B hml hv
  obtain ⟨rfl, hP, hK, hE⟩ := hv
  have hx := B.exec
  have hb := B.bytes
  have hr := B.returns
  have hts := atoms_spec (ws := wsX1_netOf) B.pre
  have hown : ss.vm.findClass RX1 = some mm.cls := findClass_of_methodNamed B.named
  have hlocks := B.notSynchronized
  have hin : ∀ w ∈ wsX10, w.before ([.ref (a 2), .int (nI (c))] : List Value).toArray ss = true := fun w h => hts w ((by decide +kernel : ∀ w ∈ wsX10, w ∈ wsX1_netOf) w h)
  have hl := lv_entry [.ref (a 2), .int (nI (c))] (n := 2) (Nat.le_of_ble_eq_true rfl)
  rw [lg_entry_eq]
  generalize (lg_sl [.ref (a 2), .int (nI (c))] ++ List.replicate (2 - (lg_sl [.ref (a 2), .int (nI (c))]).length) Slot.unset).toArray = ls at hl ⊢
  have hl : lv_has ls 2 [(0, .ref (a 2)), (1, .int (nI (c)))] := hl
  refine lv_aload_n hx hb dX1_netOf_0 rfl (lv_at hl 0 rfl) ?_
  refine lv_iload_n hx hb dX1_netOf_1 rfl (lv_at hl 1 rfl) ?_
  refine b_csi (v := tr (oA c) (cR c)) (W.runV (As := [.int (nI (c))]) (rest := []) ⟨hx, hb, hml, hown, hts⟩ (c_X1_assetsOf ll D a cI cJ p nu de eq am nx oA oD oE oP cR aR hR cl ad gw pr n c (by omega)) (cwV 1 hts gX1_netOf_X1_assetsOf rfl rfl rfl (by decide +kernel) ⟨Nat.le_of_ble_eq_true rfl, Nat.le_of_ble_eq_true rfl⟩) ⟨PR.blind, va_recv hK hP (ci := 1) (q0 := 2) rfl rfl, PR.go hP hK hE⟩ rfl rfl hl.1 rfl (lv_room (Nat.le_of_ble_eq_true rfl)) dX1_netOf_2 ⟨Nat.le_of_ble_eq_true rfl, Nat.le_of_ble_eq_true rfl⟩) ?_
  refine lv_aload_n hx hb dX1_netOf_5 rfl (lv_at hl 0 rfl) ?_
  refine lv_iload_n hx hb dX1_netOf_6 rfl (lv_at hl 1 rfl) ?_
  refine b_csi (v := tr (oD c) (cR c)) (W.runV (As := [.int (nI (c))]) (rest := [.int (tr (oA c) (cR c))]) ⟨hx, hb, hml, hown, hts⟩ (c_X1_debtsOf ll D a cI cJ p nu de eq am nx oA oD oE oP cR aR hR cl ad gw pr n c (by omega)) (cwV 1 hts gX1_netOf_X1_debtsOf rfl rfl rfl (by decide +kernel) ⟨Nat.le_of_ble_eq_true rfl, Nat.le_of_ble_eq_true rfl⟩) ⟨PR.blind, va_recv hK hP (ci := 1) (q0 := 2) rfl rfl, PR.go hP hK hE⟩ rfl rfl hl.1 rfl (lv_room (Nat.le_of_ble_eq_true rfl)) dX1_netOf_7 ⟨Nat.le_of_ble_eq_true rfl, Nat.le_of_ble_eq_true rfl⟩) ?_
  refine lv_isub hx hb dX1_netOf_10 ?_
  exact W.iret hx hb hr (fun t ht _ => ⟨_, rfl, rfl, ht⟩) (fun _ h => nomatch h) dX1_netOf_11
