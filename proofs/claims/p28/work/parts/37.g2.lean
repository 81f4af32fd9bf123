abbrev rmX3_shareByRounds : Room := ({ frames := 3, cells := 0, slots := 0, locals := 67 } : Room)
set_option maxHeartbeats 4000000 in
set_option maxRecDepth 100000 in
theorem c_X3_shareByRounds (ll : Launch) (D : va_G) (a : Nat → Nat) (cI cJ : ClassId) (sz : Nat) (p : Nat → Int32) (nu de eq : Nat → Int64) (am nx oA oD oE oP cR aR hR cl ad gw pr : Nat → Int32) (n : Int32) (c nr : Nat) (hc : c < 6) (hn : nr ≤ 200) (hqn : inB (nI nr) 0 200 = true) : Met ll yX3_shareByRounds wsX3_shareByRounds rmX3_shareByRounds (va_Pc [.ref (a 0), .int (nI (c)), .int (nI (nr))] (PW D (tyG cI cJ) (GW a cI cJ p nu de eq am nx oA oD oE oP cR aR hR cl ad gw pr n) sz)) (va_Qi (fun (rr : Int32) (u : Unit) => rr = (mr p am nx nr).1 c) (fun (u : Unit) t => AW D (tyG cI cJ) (va_A (GW a cI cJ p nu de eq am nx oA oD oE oP cR aR hR cl ad gw pr n) sz) (GW a cI cJ p nu de eq ((mr p am nx nr).1) ((mr p am nx nr).2) oA oD oE oP cR aR hR cl ad gw pr n) t) (va_A (GW a cI cJ p nu de eq am nx oA oD oE oP cR aR hR cl ad gw pr n) sz)) 0 0 (va_A (GW a cI cJ p nu de eq am nx oA oD oE oP cR aR hR cl ad gw pr n) sz) := by
  refine Met.ofW (cc := cX3_shareByRounds) (maxL := 3) (ret := (some .int)) (by decide) rfl ?_
  intro pp ee ss mm ar bel mth cde s₁ B hml hv
  obtain ⟨rfl, hsz, hP, hK, hD0, hE⟩ := hv
  have hx := B.exec
  have hb := B.bytes
  have hr := B.returns
  have hts := atoms_spec (ws := wsX3_shareByRounds) B.pre
  have hown : ss.vm.findClass RX3 = some mm.cls := findClass_of_methodNamed B.named
  have hlocks := B.notSynchronized
  subst hsz
  have hD := hD0.self (sz := ss.heap.size)
  generalize hAe : va_A (GW a cI cJ p nu de eq am nx oA oD oE oP cR aR hR cl ad gw pr n) ss.heap.size = A at hD ⊢
  have hA : ∀ q : Nat, ss.heap.size ≤ q → A q := fun q h => by rw [← hAe]; exact Or.inr h
  have hS : va_S A ss.heap ss.heap [] := va_S.rf
  have hin : ∀ w ∈ wsX30, w.before ([.ref (a 0), .int (nI (c)), .int (nI (nr))] : List Value).toArray ss = true := fun w h => hts w ((by decide +kernel : ∀ w ∈ wsX30, w ∈ wsX3_shareByRounds) w h)
  have hl := lv_entry [.ref (a 0), .int (nI (c)), .int (nI (nr))] (n := 3) (Nat.le_of_ble_eq_true rfl)
  rw [lg_entry_eq]
  generalize (lg_sl [.ref (a 0), .int (nI (c)), .int (nI (nr))] ++ List.replicate (3 - (lg_sl [.ref (a 0), .int (nI (c)), .int (nI (nr))]).length) Slot.unset).toArray = ls at hl ⊢
  have hl : lv_has ls 3 [(0, .ref (a 0)), (1, .int (nI (c))), (2, .int (nI (nr)))] := hl
  refine lv_iload_n hx hb dX3_shareByRounds_0 rfl (lv_at hl 1 rfl) ?_
  refine va_csv (W.runS (As := [.int (nI (c))]) (rest := []) ⟨hx, hb, hml, hown, hts⟩ (c_X3_requireCompany_ok ll (nI (c)) (inB_c c hc)) (va_cwS 1 hts gX3_shareByRounds_X3_requireCompany rfl rfl rfl (by decide +kernel) ⟨Nat.le_of_ble_eq_true rfl, Nat.le_of_ble_eq_true rfl⟩) ⟨PT.blind, PT.to⟩ rfl rfl hl.1 rfl (lv_room (Nat.le_of_ble_eq_true rfl)) dX3_shareByRounds_1 ⟨Nat.le_of_ble_eq_true rfl, Nat.le_of_ble_eq_true rfl⟩) (fun _ => ?_)
  refine lv_iload_n hx hb dX3_shareByRounds_4 rfl (lv_at hl 2 rfl) ?_
  refine lv_iconst (v := 0) hx hb dX3_shareByRounds_5 (by decide) ?_
  refine lv_sipush (v := 200) hx hb dX3_shareByRounds_6 (by decide) ?_
  refine va_csv (W.runS (As := [.int (nI (nr)), .int (0), .int (200)]) (rest := []) ⟨hx, hb, hml, hown, hts⟩ (c_X3_requireRange_ok ll (nI (nr)) 0 200 hqn) (va_cwS 3 hts gX3_shareByRounds_X3_requireRange rfl rfl rfl (by decide +kernel) ⟨Nat.le_of_ble_eq_true rfl, Nat.le_of_ble_eq_true rfl⟩) ⟨PT.blind, PT.to⟩ rfl rfl hl.1 rfl (lv_room (Nat.le_of_ble_eq_true rfl)) dX3_shareByRounds_9 ⟨Nat.le_of_ble_eq_true rfl, Nat.le_of_ble_eq_true rfl⟩) (fun _ => ?_)
  refine lv_aload_n hx hb dX3_shareByRounds_12 rfl (lv_at hl 0 rfl) ?_
  refine va_get (D := D) (ci := 3) (v := .ref (a 1)) (C := RX3) (T := TX3) (N := 6) (Ts := wsX30) hx hb hin (fun _ h9 => h9) hown hK hP 0 rfl rfl 0 (by decide) (hts (.fieldLink RX3 10 "Groupbooks" "holdings" "LGroupbooks$Holdings;") (by decide +kernel)) (fun _ h9 => h9) rfl dX3_shareByRounds_13 ?_
  refine lv_iload_n hx hb dX3_shareByRounds_16 rfl (lv_at hl 2 rfl) ?_
  refine lv_iload_n hx hb dX3_shareByRounds_17 rfl (lv_at hl 1 rfl) ?_
  refine b_calli0 (S := Unit) (w' := fun u => GW a cI cJ p nu de eq ((mr p am nx nr).1) ((mr p am nx nr).2) oA oD oE oP cR aR hR cl ad gw pr n) hP hD hS hA (va_runVN (As := [.int (nI (nr)), .int (nI (c))]) (rest := []) ⟨hx, hb, hml, hown, hts⟩ (c_X2_millionthsAfter ll D a cI cJ _ p nu de eq am nx oA oD oE oP cR aR hR cl ad gw pr n nr c (by omega) (by omega)) ⟨va_cnB 2 hts gX3_shareByRounds_X2_millionthsAfter_n82 rfl rfl rfl (hE.nest 19 rfl) (hts (.initialized RX2) (by decide +kernel)) (by decide +kernel) ⟨Nat.le_of_ble_eq_true rfl, Nat.le_of_ble_eq_true rfl⟩, hts (.instanceMethod yX2_millionthsAfter) (by decide +kernel), hts (.selects RX2 yX2_millionthsAfter yX2_millionthsAfter) (by decide +kernel)⟩ ⟨PW.blind, va_recv hK hP (ci := 2) (q0 := 1) rfl rfl, PW.go hP hK hD hE⟩ rfl rfl hl.1 rfl (lv_room (Nat.le_of_ble_eq_true rfl)) dX3_shareByRounds_18 ⟨Nat.le_of_ble_eq_true rfl, Nat.le_of_ble_eq_true rfl⟩) (fun r_2 u H locs h_1 hP hD hS => ?_)
  have h_1 : r_2 = (mr p am nx nr).1 c := h_1
  subst h_1
  exact W.iret hx hb hr (fun t ht hW => ⟨⟨_, (), rfl, rfl, (by rw [ht]; exact hP), va_K.moved hW.alike hK, hD⟩, hS.F ht⟩) hS.2.2 dX3_shareByRounds_21

abbrev rmX3_group : Room := ({ frames := 4, cells := 0, slots := 0, locals := 90 } : Room)
set_option maxHeartbeats 4000000 in
set_option maxRecDepth 100000 in
theorem c_X3_group (ll : Launch) (D : va_G) (a : Nat → Nat) (cI cJ : ClassId) (p : Nat → Int32) (nu de eq : Nat → Int64) (am nx oA oD oE oP cR aR hR cl ad gw pr : Nat → Int32) (n : Int32)   : Met ll yX3_group wsX3_group rmX3_group (va_Pc [.ref (a 0)] (PR D (tyG cI cJ) (GW a cI cJ p nu de eq am nx oA oD oE oP cR aR hR cl ad gw pr n))) (vp_Si (fun rr => rr = nI (mem p 5))) 0 0 (fun _ => False) := by
  refine Met.ofW (cc := cX3_group) (maxL := 1) (ret := (some .int)) (by decide) rfl ?_
  intro pp ee ss mm ar bel mth cde s₁ B hml hv
  obtain ⟨rfl, hP, hK, hE⟩ := hv
  have hx := B.exec
  have hb := B.bytes
  have hr := B.returns
  have hts := atoms_spec (ws := wsX3_group) B.pre
  have hown : ss.vm.findClass RX3 = some mm.cls := findClass_of_methodNamed B.named
  have hlocks := B.notSynchronized
  have hin : ∀ w ∈ wsX30, w.before ([.ref (a 0)] : List Value).toArray ss = true := fun w h => hts w ((by decide +kernel : ∀ w ∈ wsX30, w ∈ wsX3_group) w h)
  have hl := lv_entry [.ref (a 0)] (n := 1) (Nat.le_of_ble_eq_true rfl)
  rw [lg_entry_eq]
  generalize (lg_sl [.ref (a 0)] ++ List.replicate (1 - (lg_sl [.ref (a 0)]).length) Slot.unset).toArray = ls at hl ⊢
  have hl : lv_has ls 1 [(0, .ref (a 0))] := hl
  refine lv_aload_n hx hb dX3_group_0 rfl (lv_at hl 0 rfl) ?_
  refine va_get (D := D) (ci := 3) (v := .ref (a 1)) (C := RX3) (T := TX3) (N := 6) (Ts := wsX30) hx hb hin (fun _ h9 => h9) hown hK hP 0 rfl rfl 0 (by decide) (hts (.fieldLink RX3 10 "Groupbooks" "holdings" "LGroupbooks$Holdings;") (by decide +kernel)) (fun _ h9 => h9) rfl dX3_group_1 ?_
  refine b_csi (v := nI (mem p 5)) ((va_runVN (As := []) (rest := []) ⟨hx, hb, hml, hown, hts⟩ (c_X2_members ll D a cI cJ p nu de eq am nx oA oD oE oP cR aR hR cl ad gw pr n  ) ⟨va_cnB 0 hts gX3_group_X2_members_n85 rfl rfl rfl (hE.nest 3 rfl) (hts (.initialized RX2) (by decide +kernel)) (by decide +kernel) ⟨Nat.le_of_ble_eq_true rfl, Nat.le_of_ble_eq_true rfl⟩, hts (.instanceMethod yX2_members) (by decide +kernel), hts (.selects RX2 yX2_members yX2_members) (by decide +kernel)⟩ ⟨PR.blind, va_recv hK hP (ci := 2) (q0 := 1) rfl rfl, PR.go hP hK hE⟩ rfl rfl hl.1 rfl (lv_room (Nat.le_of_ble_eq_true rfl)) dX3_group_4 ⟨Nat.le_of_ble_eq_true rfl, Nat.le_of_ble_eq_true rfl⟩).run) ?_
  exact W.iret hx hb hr (fun t ht _ => ⟨_, rfl, rfl, ht⟩) (fun _ h => nomatch h) dX3_group_7

abbrev rmX3_difference : Room := ({ frames := 3, cells := 0, slots := 0, locals := 63 } : Room)
set_option maxHeartbeats 4000000 in
set_option maxRecDepth 100000 in
theorem c_X3_difference (ll : Launch) (D : va_G) (a : Nat → Nat) (cI cJ : ClassId) (p : Nat → Int32) (nu de eq : Nat → Int64) (am nx oA oD oE oP cR aR hR cl ad gw pr : Nat → Int32) (n : Int32) (o c : Nat) (ho : o < 6) (hc : c < 6) (hpr : prB (nI o) (nI c) = true) : Met ll yX3_difference wsX3_difference rmX3_difference (va_Pc [.ref (a 0), .int (nI (o)), .int (nI (c))] (PR D (tyG cI cJ) (GW a cI cJ p nu de eq am nx oA oD oE oP cR aR hR cl ad gw pr n))) (vp_Si (fun rr => rr = cl (6 * o + c) - ad (6 * o + c))) 0 0 (fun _ => False) := by
  refine Met.ofW (cc := cX3_difference) (maxL := 3) (ret := (some .int)) (by decide) rfl ?_
  intro pp ee ss mm ar bel mth cde s₁ B hml hv
  obtain ⟨rfl, hP, hK, hE⟩ := hv
  have hx := B.exec
  have hb := B.bytes
  have hr := B.returns
  have hts := atoms_spec (ws := wsX3_difference) B.pre
  have hown : ss.vm.findClass RX3 = some mm.cls := findClass_of_methodNamed B.named
  have hlocks := B.notSynchronized
  have hin : ∀ w ∈ wsX30, w.before ([.ref (a 0), .int (nI (o)), .int (nI (c))] : List Value).toArray ss = true := fun w h => hts w ((by decide +kernel : ∀ w ∈ wsX30, w ∈ wsX3_difference) w h)
  have hl := lv_entry [.ref (a 0), .int (nI (o)), .int (nI (c))] (n := 3) (Nat.le_of_ble_eq_true rfl)
  rw [lg_entry_eq]
  generalize (lg_sl [.ref (a 0), .int (nI (o)), .int (nI (c))] ++ List.replicate (3 - (lg_sl [.ref (a 0), .int (nI (o)), .int (nI (c))]).length) Slot.unset).toArray = ls at hl ⊢
  have hl : lv_has ls 3 [(0, .ref (a 0)), (1, .int (nI (o))), (2, .int (nI (c)))] := hl
  refine lv_iload_n hx hb dX3_difference_0 rfl (lv_at hl 1 rfl) ?_
  refine lv_iload_n hx hb dX3_difference_1 rfl (lv_at hl 2 rfl) ?_
  refine va_csv (W.runS (As := [.int (nI (o)), .int (nI (c))]) (rest := []) ⟨hx, hb, hml, hown, hts⟩ (c_X3_requireTwoCompanies_ok ll (nI (o)) (nI (c)) hpr) (va_cwS 2 hts gX3_difference_X3_requireTwoCompanies rfl rfl rfl (by decide +kernel) ⟨Nat.le_of_ble_eq_true rfl, Nat.le_of_ble_eq_true rfl⟩) ⟨PT.blind, PT.to⟩ rfl rfl hl.1 rfl (lv_room (Nat.le_of_ble_eq_true rfl)) dX3_difference_2 ⟨Nat.le_of_ble_eq_true rfl, Nat.le_of_ble_eq_true rfl⟩) (fun _ => ?_)
  refine lv_aload_n hx hb dX3_difference_5 rfl (lv_at hl 0 rfl) ?_
  refine va_get (D := D) (ci := 3) (v := .ref (a 3)) (C := RX3) (T := TX3) (N := 6) (Ts := wsX30) hx hb hin (fun _ h9 => h9) hown hK hP 0 rfl rfl 2 (by decide) (hts (.fieldLink RX3 26 "Groupbooks" "balances" "LGroupbooks$Balances;") (by decide +kernel)) (fun _ h9 => h9) rfl dX3_difference_6 ?_
  refine lv_iload_n hx hb dX3_difference_9 rfl (lv_at hl 1 rfl) ?_
  refine lv_iload_n hx hb dX3_difference_10 rfl (lv_at hl 2 rfl) ?_
  refine b_csi (v := cl (6 * o + c) - ad (6 * o + c)) ((va_runVN (As := [.int (nI (o)), .int (nI (c))]) (rest := []) ⟨hx, hb, hml, hown, hts⟩ (c_X0_disputed ll D a cI cJ p nu de eq am nx oA oD oE oP cR aR hR cl ad gw pr n o c (by omega) (by omega)) ⟨va_cnB 2 hts gX3_difference_X0_disputed_n114 rfl rfl rfl (hE.nest 25 rfl) (hts (.initialized RX0) (by decide +kernel)) (by decide +kernel) ⟨Nat.le_of_ble_eq_true rfl, Nat.le_of_ble_eq_true rfl⟩, hts (.instanceMethod yX0_disputed) (by decide +kernel), hts (.selects RX0 yX0_disputed yX0_disputed) (by decide +kernel)⟩ ⟨PR.blind, va_recv hK hP (ci := 0) (q0 := 3) rfl rfl, PR.go hP hK hE⟩ rfl rfl hl.1 rfl (lv_room (Nat.le_of_ble_eq_true rfl)) dX3_difference_11 ⟨Nat.le_of_ble_eq_true rfl, Nat.le_of_ble_eq_true rfl⟩).run) ?_
  exact W.iret hx hb hr (fun t ht _ => ⟨_, rfl, rfl, ht⟩) (fun _ h => nomatch h) dX3_difference_14
