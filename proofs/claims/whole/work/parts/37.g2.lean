abbrev rmX3_shareByRounds : Room := ({ frames := 3, cells := 0, slots := 0, locals := 67 } : Room)
set_option maxHeartbeats 4000000 in
set_option maxRecDepth 100000 in
theorem c_X3_shareByRounds (ll : Launch) (D : va_G) (a : Nat → Nat) (cI cJ : ClassId) (sz : Nat) (p : Nat → Int32) (nu de eq : Nat → Int64) (am nx oA oD oE oP cR aR hR cl ad gw pr : Nat → Int32) (n : Int32) (c nr : Nat) (hc : c < 6) (hn : nr ≤ 200) (hqn : inB (nI nr) 0 200 = true) : Met ll yX3_shareByRounds wsX3_shareByRounds rmX3_shareByRounds (va_Pc [.ref (a 0), .int (nI (c)), .int (nI (nr))] (PW D (tyG cI cJ) (GW a cI cJ p nu de eq am nx oA oD oE oP cR aR hR cl ad gw pr n) sz)) (va_Qi (fun (rr : Int32) (u : Unit) => rr = (mr p am nx nr).1 c) (fun (u : Unit) t => AW D (tyG cI cJ) (va_A (GW a cI cJ p nu de eq am nx oA oD oE oP cR aR hR cl ad gw pr n) sz) (GW a cI cJ p nu de eq ((mr p am nx nr).1) ((mr p am nx nr).2) oA oD oE oP cR aR hR cl ad gw pr n) t) (va_A (GW a cI cJ p nu de eq am nx oA oD oE oP cR aR hR cl ad gw pr n) sz)) 0 0 (va_A (GW a cI cJ p nu de eq am nx oA oD oE oP cR aR hR cl ad gw pr n) sz) := by
  refine Met.ofW (cc := cX3_shareByRounds) (maxL := 3) (ret := (some .int)) (by decide) rfl ?_
  intro pp ee ss mm ar bel mth cde s₁ B hml hv
  obtain ⟨rfl, hsz, hP, hK, hD0, hE⟩ := hv
  have hx := B.exec
  have hb := B.bytes
  have hr := B.returns
  have hts := atoms_spec (ws := wsX3_shareByRounds) B.pre
  have hown : ss.vm.findClass RX3 = some mm.cls := findClass_of_methodNamed B.named
  have hlocks := B.notSynchronized
  subst hsz
  have hD := hD0.self (sz := ss.heap.size)
  generalize hAe : va_A (GW a cI cJ p nu de eq am nx oA oD oE oP cR aR hR cl ad gw pr n) ss.heap.size = A at hD ⊢
  have hA : ∀ q : Nat, ss.heap.size ≤ q → A q := fun q h => by rw [← hAe]; exact Or.inr h
  have hS : va_S A ss.heap ss.heap [] := va_S.rf
  have hin : ∀ w ∈ wsX30, w.before ([.ref (a 0), .int (nI (c)), .int (nI (nr))] : List Value).toArray ss = true := fun w h => hts w ((by decide +kernel : ∀ w ∈ wsX30, w ∈ wsX3_shareByRounds) w h)
  have hl := lv_entry [.ref (a 0), .int (nI (c)), .int (nI (nr))] (n := 3) (Nat.le_of_ble_eq_true rfl)
  rw [lg_entry_eq]
  generalize (lg_sl [.ref (a 0), .int (nI (c)), .int (nI (nr))] ++ List.replicate (3 - (lg_sl [.ref (a 0), .int (nI (c)), .int (nI (nr))]).length) Slot.unset).toArray = ls at hl ⊢
  have hl : lv_has ls 3 [(0, .ref (a 0)), (1, .int (nI (c))), (2, .int (nI (nr)))] := hl
  refine lv_iload_n hx hb dX3_shareByRounds_0 rfl (lv_at hl 1 rfl) ?_
  refine va_csv (W.runS (As := [.int (nI (c))]) (rest := []) ⟨hx, hb, hml, hown, hts⟩ (c_X3_requireCompany_ok ll (nI (c)) (inB_c c hc)) (va_cwS 1 hts gX3_shareByRounds_X3_requireCompany rfl rfl rfl (by decide +kernel) ⟨Nat.le_of_ble_eq_true rfl, Nat.le_of_ble_eq_true rfl⟩) ⟨PT.blind, PT.to⟩ rfl rfl hl.1 rfl (lv_room (Nat.le_of_ble_eq_true rfl)) dX3_shareByRounds_1 ⟨Nat.le_of_ble_eq_true rfl, Nat.le_of_ble_eq_true rfl⟩) (fun _ => ?_)
  refine lv_iload_n hx hb dX3_shareByRounds_4 rfl (lv_at hl 2 rfl) ?_
  refine lv_iconst (v := 0) hx hb dX3_shareByRounds_5 (by decide) ?_
  refine lv_sipush (v := 200) hx hb dX3_shareByRounds_6 (by decide) ?_
  refine va_csv (W.runS (As := [.int (nI (nr)), .int (0), .int (200)]) (rest := []) ⟨hx, hb, hml, hown, hts⟩ (c_X3_requireRange_ok ll (nI (nr)) 0 200 hqn) (va_cwS 3 hts gX3_shareByRounds_X3_requireRange rfl rfl rfl (by decide +kernel) ⟨Nat.le_of_ble_eq_true rfl, Nat.le_of_ble_eq_true rfl⟩) ⟨PT.blind, PT.to⟩ rfl rfl hl.1 rfl (lv_room (Nat.le_of_ble_eq_true rfl)) dX3_shareByRounds_9 ⟨Nat.le_of_ble_eq_true rfl, Nat.le_of_ble_eq_true rfl⟩) (fun _ => ?_)
  refine lv_aload_n hx hb dX3_shareByRounds_12 rfl (lv_at hl 0 rfl) ?_
  refine va_get (D := D) (ci := 3) (v := .ref (a 1)) (C := RX3) (T := TX3) (N := 6) (Ts := wsX30) hx hb hin (fun _ h9 => h9) hown hK hP 0 rfl rfl 0 (by decide) (hts (.fieldLink RX3 10 "Groupbooks" "holdings" "LGroupbooks$Holdings;") (by decide +kernel)) (fun _ h9 => h9) rfl dX3_shareByRounds_13 ?_
  refine lv_iload_n hx hb dX3_shareByRounds_16 rfl (lv_at hl 2 rfl) ?_
  refine lv_iload_n hx hb dX3_shareByRounds_17 rfl (lv_at hl 1 rfl) ?_
  refine b_calli0 (S := Unit) (w' := fun u => GW a cI cJ p nu de eq ((mr p am nx nr).1) ((mr p am nx nr).2) oA oD oE oP cR aR hR cl ad gw pr n) hP hD hS hA (va_runVN (As := [.int (nI (nr)), .int (nI (c))]) (rest := []) ⟨hx, hb, hml, hown, hts⟩ (c_X2_millionthsAfter ll D a cI cJ _ p nu de eq am nx oA oD oE oP cR aR hR cl ad gw pr n nr c (by omega) (by omega)) ⟨va_cnB 2 hts gX3_shareByRounds_X2_millionthsAfter_n82 rfl rfl rfl (hE.nest 19 rfl) (hts (.initialized RX2) (by decide +kernel)) (by decide +kernel) ⟨Nat.le_of_ble_eq_true rfl, Nat.le_of_ble_eq_true rfl⟩, hts (.instanceMethod yX2_millionthsAfter) (by decide +kernel), hts (.selects RX2 yX2_millionthsAfter yX2_millionthsAfter) (by decide +kernel)⟩ ⟨PW.blind, va_recv hK hP (ci := 2) (q0 := 1) rfl rfl, PW.go hP hK hD hE⟩ rfl rfl hl.1 rfl (lv_room (Nat.le_of_ble_eq_true rfl)) dX3_shareByRounds_18 ⟨Nat.le_of_ble_eq_true rfl, Nat.le_of_ble_eq_true rfl⟩) (fun r_2 u H locs h_1 hP hD hS => ?_)
  have h_1 : r_2 = (mr p am nx nr).1 c := h_1
  subst h_1
  exact W.iret hx hb hr (fun t ht hW => ⟨⟨_, (), rfl, rfl, (by rw [ht]; exact hP), va_K.moved hW.alike hK, hD⟩, hS.F ht⟩) hS.2.2 dX3_shareByRounds_21

abbrev rmX3_shareByRounds_bad : Room := ({ frames := 8, cells := 1, slots := 6, locals := 124 } : Room)
set_option maxHeartbeats 4000000 in
set_option maxRecDepth 100000 in
theorem c_X3_shareByRounds_bad (ll : Launch) (hst : ll.stackTraces = false) (D : va_G) (a : Nat → Nat) (cI cJ : ClassId) (sz : Nat) (p : Nat → Int32) (nu de eq : Nat → Int64) (am nx oA oD oE oP cR aR hR cl ad gw pr : Nat → Int32) (n : Int32) (x0 x1 : Int32) (hbad : ¬ (inB x0 0 5 = true ∧ inB x1 0 200 = true)) : vx_Met ll yX3_shareByRounds wsX3_shareByRounds rmX3_shareByRounds_bad (va_Pc [.ref (a 0), .int (x0), .int (x1)] (PY D (tyG cI cJ) (GW a cI cJ p nu de eq am nx oA oD oE oP cR aR hR cl ad gw pr n) sz)) (va_Qi (fun (_ : Int32) (_ : Unit) => False) (fun _ _ => True) (va_A (GW a cI cJ p nu de eq am nx oA oD oE oP cR aR hR cl ad gw pr n) sz)) (XEA D (tyG cI cJ) (va_A (GW a cI cJ p nu de eq am nx oA oD oE oP cR aR hR cl ad gw pr n) sz) (fun u : Unit => GW a cI cJ p nu de eq am nx oA oD oE oP cR aR hR cl ad gw pr n) RIA) 1 6 (va_A (GW a cI cJ p nu de eq am nx oA oD oE oP cR aR hR cl ad gw pr n) sz) := by
  refine vx_ofW (cc := cX3_shareByRounds) (maxL := 3) (ret := (some .int)) (by decide) rfl ?_
  intro pp ee ss mm ar bel mth cde s₁ B hml hno hv
  obtain ⟨rfl, ⟨hsz, hP, hK, hD0, hE, hV⟩, hDC⟩ := hv
  have hx := B.exec
  have hb := B.bytes
  have hr := B.returns
  have hts := atoms_spec (ws := wsX3_shareByRounds) B.pre
  have hown : ss.vm.findClass RX3 = some mm.cls := findClass_of_methodNamed B.named
  have hlocks := B.notSynchronized
  subst hsz
  have hD := hD0.self (sz := ss.heap.size)
  generalize hAe : va_A (GW a cI cJ p nu de eq am nx oA oD oE oP cR aR hR cl ad gw pr n) ss.heap.size = A at hD hV ⊢
  have hA : ∀ q : Nat, ss.heap.size ≤ q → A q := fun q h => by rw [← hAe]; exact Or.inr h
  have hS : va_S A ss.heap ss.heap [] := va_S.rf
  have hin : ∀ w ∈ wsX30, w.before ([.ref (a 0), .int (x0), .int (x1)] : List Value).toArray ss = true := fun w h => hts w ((by decide +kernel : ∀ w ∈ wsX30, w ∈ wsX3_shareByRounds) w h)
  have hl := lv_entry [.ref (a 0), .int (x0), .int (x1)] (n := 3) (Nat.le_of_ble_eq_true rfl)
  rw [lg_entry_eq]
  generalize (lg_sl [.ref (a 0), .int (x0), .int (x1)] ++ List.replicate (3 - (lg_sl [.ref (a 0), .int (x0), .int (x1)]).length) Slot.unset).toArray = ls at hl ⊢
  have hl : lv_has ls 3 [(0, .ref (a 0)), (1, .int (x0)), (2, .int (x1))] := hl
  refine lv_iload_n hx hb dX3_shareByRounds_0 rfl (lv_at hl 1 rfl) ?_
  by_cases q_1 : inB x0 0 5 = true
  · refine va_csv (W.runS (As := [.int (x0)]) (rest := []) ⟨hx, hb, hml, hown, hts⟩ (c_X3_requireCompany_ok ll x0 q_1) (va_cwS 1 hts gX3_shareByRounds_X3_requireCompany rfl rfl rfl (by decide +kernel) ⟨Nat.le_of_ble_eq_true rfl, Nat.le_of_ble_eq_true rfl⟩) ⟨PT.blind, PT.to⟩ rfl rfl hl.1 rfl (lv_room (Nat.le_of_ble_eq_true rfl)) dX3_shareByRounds_1 ⟨Nat.le_of_ble_eq_true rfl, Nat.le_of_ble_eq_true rfl⟩) (fun _ => ?_)
    refine lv_iload_n hx hb dX3_shareByRounds_4 rfl (lv_at hl 2 rfl) ?_
    refine lv_iconst (v := 0) hx hb dX3_shareByRounds_5 (by decide) ?_
    refine lv_sipush (v := 200) hx hb dX3_shareByRounds_6 (by decide) ?_
    by_cases q_2 : inB x1 0 200 = true
    · refine va_csv (W.runS (As := [.int (x1), .int (0), .int (200)]) (rest := []) ⟨hx, hb, hml, hown, hts⟩ (c_X3_requireRange_ok ll x1 0 200 q_2) (va_cwS 3 hts gX3_shareByRounds_X3_requireRange rfl rfl rfl (by decide +kernel) ⟨Nat.le_of_ble_eq_true rfl, Nat.le_of_ble_eq_true rfl⟩) ⟨PT.blind, PT.to⟩ rfl rfl hl.1 rfl (lv_room (Nat.le_of_ble_eq_true rfl)) dX3_shareByRounds_9 ⟨Nat.le_of_ble_eq_true rfl, Nat.le_of_ble_eq_true rfl⟩) (fun _ => ?_)
      exact absurd ⟨q_1, q_2⟩ hbad
    · refine b_bad (S := Unit) () rfl hno hlocks hP hK hD hS hA (vx_runS (As := [.int (x1), .int (0), .int (200)]) (rest := []) ⟨hx, hb, hml, hown, hts⟩ (c_X3_requireRange_bad ll hst D _ x1 0 200 q_2) (va_cwS 3 hts gX3_shareByRounds_X3_requireRange rfl rfl rfl (by decide +kernel) ⟨Nat.le_of_ble_eq_true rfl, Nat.le_of_ble_eq_true rfl⟩) ⟨PY.blind, PY.go0 hK hE hV hDC hS hA⟩ rfl rfl hl.1 rfl (lv_room (Nat.le_of_ble_eq_true rfl)) dX3_shareByRounds_9 ⟨Nat.le_of_ble_eq_true rfl, Nat.le_of_ble_eq_true rfl⟩)
  · refine b_bad (S := Unit) () rfl hno hlocks hP hK hD hS hA (vx_runS (As := [.int (x0)]) (rest := []) ⟨hx, hb, hml, hown, hts⟩ (c_X3_requireCompany_bad ll hst D _ x0 q_1) (va_cwS 1 hts gX3_shareByRounds_X3_requireCompany rfl rfl rfl (by decide +kernel) ⟨Nat.le_of_ble_eq_true rfl, Nat.le_of_ble_eq_true rfl⟩) ⟨PY.blind, PY.go0 hK hE hV hDC hS hA⟩ rfl rfl hl.1 rfl (lv_room (Nat.le_of_ble_eq_true rfl)) dX3_shareByRounds_1 ⟨Nat.le_of_ble_eq_true rfl, Nat.le_of_ble_eq_true rfl⟩)

abbrev rmX3_group : Room := ({ frames := 4, cells := 0, slots := 0, locals := 90 } : Room)
set_option maxHeartbeats 4000000 in
set_option maxRecDepth 100000 in
theorem c_X3_group (ll : Launch) (D : va_G) (a : Nat → Nat) (cI cJ : ClassId) (p : Nat → Int32) (nu de eq : Nat → Int64) (am nx oA oD oE oP cR aR hR cl ad gw pr : Nat → Int32) (n : Int32)   : Met ll yX3_group wsX3_group rmX3_group (va_Pc [.ref (a 0)] (PR D (tyG cI cJ) (GW a cI cJ p nu de eq am nx oA oD oE oP cR aR hR cl ad gw pr n))) (vp_Si (fun rr => rr = nI (mem p 5))) 0 0 (fun _ => False) := by
  refine Met.ofW (cc := cX3_group) (maxL := 1) (ret := (some .int)) (by decide) rfl ?_
  intro pp ee ss mm ar bel mth cde s₁ B hml hv
  obtain ⟨rfl, hP, hK, hE⟩ := hv
  have hx := B.exec
  have hb := B.bytes
  have hr := B.returns
  have hts := atoms_spec (ws := wsX3_group) B.pre
  have hown : ss.vm.findClass RX3 = some mm.cls := findClass_of_methodNamed B.named
  have hlocks := B.notSynchronized
  have hin : ∀ w ∈ wsX30, w.before ([.ref (a 0)] : List Value).toArray ss = true := fun w h => hts w ((by decide +kernel : ∀ w ∈ wsX30, w ∈ wsX3_group) w h)
  have hl := lv_entry [.ref (a 0)] (n := 1) (Nat.le_of_ble_eq_true rfl)
  rw [lg_entry_eq]
  generalize (lg_sl [.ref (a 0)] ++ List.replicate (1 - (lg_sl [.ref (a 0)]).length) Slot.unset).toArray = ls at hl ⊢
  have hl : lv_has ls 1 [(0, .ref (a 0))] := hl
  refine lv_aload_n hx hb dX3_group_0 rfl (lv_at hl 0 rfl) ?_
  refine va_get (D := D) (ci := 3) (v := .ref (a 1)) (C := RX3) (T := TX3) (N := 6) (Ts := wsX30) hx hb hin (fun _ h9 => h9) hown hK hP 0 rfl rfl 0 (by decide) (hts (.fieldLink RX3 10 "Groupbooks" "holdings" "LGroupbooks$Holdings;") (by decide +kernel)) (fun _ h9 => h9) rfl dX3_group_1 ?_
  refine b_csi (v := nI (mem p 5)) ((va_runVN (As := []) (rest := []) ⟨hx, hb, hml, hown, hts⟩ (c_X2_members ll D a cI cJ p nu de eq am nx oA oD oE oP cR aR hR cl ad gw pr n  ) ⟨va_cnB 0 hts gX3_group_X2_members_n85 rfl rfl rfl (hE.nest 3 rfl) (hts (.initialized RX2) (by decide +kernel)) (by decide +kernel) ⟨Nat.le_of_ble_eq_true rfl, Nat.le_of_ble_eq_true rfl⟩, hts (.instanceMethod yX2_members) (by decide +kernel), hts (.selects RX2 yX2_members yX2_members) (by decide +kernel)⟩ ⟨PR.blind, va_recv hK hP (ci := 2) (q0 := 1) rfl rfl, PR.go hP hK hE⟩ rfl rfl hl.1 rfl (lv_room (Nat.le_of_ble_eq_true rfl)) dX3_group_4 ⟨Nat.le_of_ble_eq_true rfl, Nat.le_of_ble_eq_true rfl⟩).run) ?_
  exact W.iret hx hb hr (fun t ht _ => ⟨_, rfl, rfl, ht⟩) (fun _ h => nomatch h) dX3_group_7

abbrev rmX3_setBooks : Room := ({ frames := 2, cells := 0, slots := 0, locals := 42 } : Room)
set_option maxHeartbeats 4000000 in
set_option maxRecDepth 100000 in
theorem c_X3_setBooks (ll : Launch) (D : va_G) (a : Nat → Nat) (cI cJ : ClassId) (sz : Nat) (p : Nat → Int32) (nu de eq : Nat → Int64) (am nx oA oD oE oP cR aR hR cl ad gw pr : Nat → Int32) (n : Int32) (c : Nat) (x1 x2 x3 x4 : Int32) (hc : c < 6) (h1 : inB x1 0 1000000 = true) (h2 : inB x2 0 1000000 = true) (h3 : inB x3 (-1000000) 1000000 = true) (h4 : inB x4 (-1000000) 1000000 = true) (h5 : x1 = x2 + x3 + x4) : Met ll yX3_setBooks wsX3_setBooks rmX3_setBooks (va_Pc [.ref (a 0), .int (nI (c)), .int (x1), .int (x2), .int (x3), .int (x4)] (PW D (tyG cI cJ) (GW a cI cJ p nu de eq am nx oA oD oE oP cR aR hR cl ad gw pr n) sz)) (va_Qv (fun (u : Unit) => True) (fun (u : Unit) t => AW D (tyG cI cJ) (va_A (GW a cI cJ p nu de eq am nx oA oD oE oP cR aR hR cl ad gw pr n) sz) (GW a cI cJ p nu de eq am nx (upd oA c x1) (upd oD c x2) (upd oE c x3) (upd oP c x4) cR aR hR cl ad gw pr n) t) (va_A (GW a cI cJ p nu de eq am nx oA oD oE oP cR aR hR cl ad gw pr n) sz)) 0 0 (va_A (GW a cI cJ p nu de eq am nx oA oD oE oP cR aR hR cl ad gw pr n) sz) := by
  refine Met.ofW (cc := cX3_setBooks) (maxL := 6) (ret := none) (by decide) rfl ?_
  intro pp ee ss mm ar bel mth cde s₁ B hml hv
  obtain ⟨rfl, hsz, hP, hK, hD0, hE⟩ := hv
  have hx := B.exec
  have hb := B.bytes
  have hr := B.returns
  have hts := atoms_spec (ws := wsX3_setBooks) B.pre
  have hown : ss.vm.findClass RX3 = some mm.cls := findClass_of_methodNamed B.named
  have hlocks := B.notSynchronized
  subst hsz
  have hD := hD0.self (sz := ss.heap.size)
  generalize hAe : va_A (GW a cI cJ p nu de eq am nx oA oD oE oP cR aR hR cl ad gw pr n) ss.heap.size = A at hD ⊢
  have hA : ∀ q : Nat, ss.heap.size ≤ q → A q := fun q h => by rw [← hAe]; exact Or.inr h
  have hS : va_S A ss.heap ss.heap [] := va_S.rf
  have hin : ∀ w ∈ wsX30, w.before ([.ref (a 0), .int (nI (c)), .int (x1), .int (x2), .int (x3), .int (x4)] : List Value).toArray ss = true := fun w h => hts w ((by decide +kernel : ∀ w ∈ wsX30, w ∈ wsX3_setBooks) w h)
  have hl := lv_entry [.ref (a 0), .int (nI (c)), .int (x1), .int (x2), .int (x3), .int (x4)] (n := 6) (Nat.le_of_ble_eq_true rfl)
  rw [lg_entry_eq]
  generalize (lg_sl [.ref (a 0), .int (nI (c)), .int (x1), .int (x2), .int (x3), .int (x4)] ++ List.replicate (6 - (lg_sl [.ref (a 0), .int (nI (c)), .int (x1), .int (x2), .int (x3), .int (x4)]).length) Slot.unset).toArray = ls at hl ⊢
  have hl : lv_has ls 6 [(0, .ref (a 0)), (1, .int (nI (c))), (2, .int (x1)), (3, .int (x2)), (4, .int (x3)), (5, .int (x4))] := hl
  refine lv_iload_n hx hb dX3_setBooks_0 rfl (lv_at hl 1 rfl) ?_
  refine va_csv (W.runS (As := [.int (nI (c))]) (rest := []) ⟨hx, hb, hml, hown, hts⟩ (c_X3_requireCompany_ok ll (nI (c)) (inB_c c hc)) (va_cwS 1 hts gX3_setBooks_X3_requireCompany rfl rfl rfl (by decide +kernel) ⟨Nat.le_of_ble_eq_true rfl, Nat.le_of_ble_eq_true rfl⟩) ⟨PT.blind, PT.to⟩ rfl rfl hl.1 rfl (lv_room (Nat.le_of_ble_eq_true rfl)) dX3_setBooks_1 ⟨Nat.le_of_ble_eq_true rfl, Nat.le_of_ble_eq_true rfl⟩) (fun _ => ?_)
  refine lv_iload_n hx hb dX3_setBooks_4 rfl (lv_at hl 2 rfl) ?_
  refine lv_iconst (v := 0) hx hb dX3_setBooks_5 (by decide) ?_
  refine lv_ldc (v := 1000000) hx hb hown (hts (.constant RX3 61 (1000000)) (by decide +kernel)) dX3_setBooks_6 ?_
  refine va_csv (W.runS (As := [.int (x1), .int (0), .int ((1000000))]) (rest := []) ⟨hx, hb, hml, hown, hts⟩ (c_X3_requireRange_ok ll x1 0 ((1000000)) h1) (va_cwS 3 hts gX3_setBooks_X3_requireRange rfl rfl rfl (by decide +kernel) ⟨Nat.le_of_ble_eq_true rfl, Nat.le_of_ble_eq_true rfl⟩) ⟨PT.blind, PT.to⟩ rfl rfl hl.1 rfl (lv_room (Nat.le_of_ble_eq_true rfl)) dX3_setBooks_8 ⟨Nat.le_of_ble_eq_true rfl, Nat.le_of_ble_eq_true rfl⟩) (fun _ => ?_)
  refine lv_iload_n hx hb dX3_setBooks_11 rfl (lv_at hl 3 rfl) ?_
  refine lv_iconst (v := 0) hx hb dX3_setBooks_12 (by decide) ?_
  refine lv_ldc (v := 1000000) hx hb hown (hts (.constant RX3 61 (1000000)) (by decide +kernel)) dX3_setBooks_13 ?_
  refine va_csv (W.runS (As := [.int (x2), .int (0), .int ((1000000))]) (rest := []) ⟨hx, hb, hml, hown, hts⟩ (c_X3_requireRange_ok ll x2 0 ((1000000)) h2) (va_cwS 3 hts gX3_setBooks_X3_requireRange rfl rfl rfl (by decide +kernel) ⟨Nat.le_of_ble_eq_true rfl, Nat.le_of_ble_eq_true rfl⟩) ⟨PT.blind, PT.to⟩ rfl rfl hl.1 rfl (lv_room (Nat.le_of_ble_eq_true rfl)) dX3_setBooks_15 ⟨Nat.le_of_ble_eq_true rfl, Nat.le_of_ble_eq_true rfl⟩) (fun _ => ?_)
  refine lv_iload hx hb dX3_setBooks_18 (lv_at hl 4 rfl) ?_
  refine lv_ldc (v := -1000000) hx hb hown (hts (.constant RX3 89 (-1000000)) (by decide +kernel)) dX3_setBooks_20 ?_
  refine lv_ldc (v := 1000000) hx hb hown (hts (.constant RX3 61 (1000000)) (by decide +kernel)) dX3_setBooks_22 ?_
  refine va_csv (W.runS (As := [.int (x3), .int ((-1000000)), .int ((1000000))]) (rest := []) ⟨hx, hb, hml, hown, hts⟩ (c_X3_requireRange_ok ll x3 ((-1000000)) ((1000000)) h3) (va_cwS 3 hts gX3_setBooks_X3_requireRange rfl rfl rfl (by decide +kernel) ⟨Nat.le_of_ble_eq_true rfl, Nat.le_of_ble_eq_true rfl⟩) ⟨PT.blind, PT.to⟩ rfl rfl hl.1 rfl (lv_room (Nat.le_of_ble_eq_true rfl)) dX3_setBooks_24 ⟨Nat.le_of_ble_eq_true rfl, Nat.le_of_ble_eq_true rfl⟩) (fun _ => ?_)
  refine lv_iload hx hb dX3_setBooks_27 (lv_at hl 5 rfl) ?_
  refine lv_ldc (v := -1000000) hx hb hown (hts (.constant RX3 89 (-1000000)) (by decide +kernel)) dX3_setBooks_29 ?_
  refine lv_ldc (v := 1000000) hx hb hown (hts (.constant RX3 61 (1000000)) (by decide +kernel)) dX3_setBooks_31 ?_
  refine va_csv (W.runS (As := [.int (x4), .int ((-1000000)), .int ((1000000))]) (rest := []) ⟨hx, hb, hml, hown, hts⟩ (c_X3_requireRange_ok ll x4 ((-1000000)) ((1000000)) h4) (va_cwS 3 hts gX3_setBooks_X3_requireRange rfl rfl rfl (by decide +kernel) ⟨Nat.le_of_ble_eq_true rfl, Nat.le_of_ble_eq_true rfl⟩) ⟨PT.blind, PT.to⟩ rfl rfl hl.1 rfl (lv_room (Nat.le_of_ble_eq_true rfl)) dX3_setBooks_33 ⟨Nat.le_of_ble_eq_true rfl, Nat.le_of_ble_eq_true rfl⟩) (fun _ => ?_)
  refine lv_iload_n hx hb dX3_setBooks_36 rfl (lv_at hl 2 rfl) ?_
  refine lv_iload_n hx hb dX3_setBooks_37 rfl (lv_at hl 3 rfl) ?_
  refine lv_iload hx hb dX3_setBooks_38 (lv_at hl 4 rfl) ?_
  refine lv_iadd hx hb dX3_setBooks_40 ?_
  refine lv_iload hx hb dX3_setBooks_41 (lv_at hl 5 rfl) ?_
  refine lv_iadd hx hb dX3_setBooks_43 ?_
  refine va_csv (W.runS (As := [.int (x1), .int (((x2) + (x3)) + (x4))]) (rest := []) ⟨hx, hb, hml, hown, hts⟩ (c_X3_requireBalance_ok ll x1 (((x2) + (x3)) + (x4)) h5) (va_cwS 2 hts gX3_setBooks_X3_requireBalance rfl rfl rfl (by decide +kernel) ⟨Nat.le_of_ble_eq_true rfl, Nat.le_of_ble_eq_true rfl⟩) ⟨PT.blind, PT.to⟩ rfl rfl hl.1 rfl (lv_room (Nat.le_of_ble_eq_true rfl)) dX3_setBooks_44 ⟨Nat.le_of_ble_eq_true rfl, Nat.le_of_ble_eq_true rfl⟩) (fun _ => ?_)
  refine lv_aload_n hx hb dX3_setBooks_47 rfl (lv_at hl 0 rfl) ?_
  refine va_get (D := D) (ci := 3) (v := .ref (a 2)) (C := RX3) (T := TX3) (N := 6) (Ts := wsX30) hx hb hin (fun _ h9 => h9) hown hK hP 0 rfl rfl 1 (by decide) (hts (.fieldLink RX3 19 "Groupbooks" "books" "LGroupbooks$Books;") (by decide +kernel)) (fun _ h9 => h9) rfl dX3_setBooks_48 ?_
  refine lv_iload_n hx hb dX3_setBooks_51 rfl (lv_at hl 1 rfl) ?_
  refine lv_iload_n hx hb dX3_setBooks_52 rfl (lv_at hl 2 rfl) ?_
  refine lv_iload_n hx hb dX3_setBooks_53 rfl (lv_at hl 3 rfl) ?_
  refine lv_iload hx hb dX3_setBooks_54 (lv_at hl 4 rfl) ?_
  refine lv_iload hx hb dX3_setBooks_56 (lv_at hl 5 rfl) ?_
  refine b_callv0 (S := Unit) (w' := fun u => GW a cI cJ p nu de eq am nx (upd oA c x1) (upd oD c x2) (upd oE c x3) (upd oP c x4) cR aR hR cl ad gw pr n) hP hD hS hA (va_runVN (As := [.int (nI (c)), .int (x1), .int (x2), .int (x3), .int (x4)]) (rest := []) ⟨hx, hb, hml, hown, hts⟩ (c_X1_enter ll D a cI cJ _ p nu de eq am nx oA oD oE oP cR aR hR cl ad gw pr n c x1 x2 x3 x4 (by omega)) ⟨va_cnB 5 hts gX3_setBooks_X1_enter_n93 rfl rfl rfl (hE.nest 20 rfl) (hts (.initialized RX1) (by decide +kernel)) (by decide +kernel) ⟨Nat.le_of_ble_eq_true rfl, Nat.le_of_ble_eq_true rfl⟩, hts (.instanceMethod yX1_enter) (by decide +kernel), hts (.selects RX1 yX1_enter yX1_enter) (by decide +kernel)⟩ ⟨PW.blind, va_recv hK hP (ci := 1) (q0 := 2) rfl rfl, PW.go hP hK hD hE⟩ rfl rfl hl.1 rfl (lv_room (Nat.le_of_ble_eq_true rfl)) dX3_setBooks_58 ⟨Nat.le_of_ble_eq_true rfl, Nat.le_of_ble_eq_true rfl⟩) (fun u H locs h_1 hP hD hS => ?_)
  exact W.vret hx hb hr (fun t ht hW => ⟨⟨(), rfl, trivial, (by rw [ht]; exact hP), va_K.moved hW.alike hK, hD⟩, hS.F ht⟩) hS.2.2 dX3_setBooks_61

abbrev rmX3_setBooks_bad : Room := ({ frames := 8, cells := 1, slots := 6, locals := 124 } : Room)
set_option maxHeartbeats 4000000 in
set_option maxRecDepth 100000 in
theorem c_X3_setBooks_bad (ll : Launch) (hst : ll.stackTraces = false) (D : va_G) (a : Nat → Nat) (cI cJ : ClassId) (sz : Nat) (p : Nat → Int32) (nu de eq : Nat → Int64) (am nx oA oD oE oP cR aR hR cl ad gw pr : Nat → Int32) (n : Int32) (x0 x1 x2 x3 x4 : Int32) (hbad : ¬ (inB x0 0 5 = true ∧ inB x1 0 1000000 = true ∧ inB x2 0 1000000 = true ∧ inB x3 (-1000000) 1000000 = true ∧ inB x4 (-1000000) 1000000 = true ∧ x1 = x2 + x3 + x4)) : vx_Met ll yX3_setBooks wsX3_setBooks rmX3_setBooks_bad (va_Pc [.ref (a 0), .int (x0), .int (x1), .int (x2), .int (x3), .int (x4)] (PY D (tyG cI cJ) (GW a cI cJ p nu de eq am nx oA oD oE oP cR aR hR cl ad gw pr n) sz)) (va_Qv (fun (_ : Unit) => False) (fun _ _ => True) (va_A (GW a cI cJ p nu de eq am nx oA oD oE oP cR aR hR cl ad gw pr n) sz)) (XEA D (tyG cI cJ) (va_A (GW a cI cJ p nu de eq am nx oA oD oE oP cR aR hR cl ad gw pr n) sz) (fun u : Unit => GW a cI cJ p nu de eq am nx oA oD oE oP cR aR hR cl ad gw pr n) RIA) 1 6 (va_A (GW a cI cJ p nu de eq am nx oA oD oE oP cR aR hR cl ad gw pr n) sz) := by
  refine vx_ofW (cc := cX3_setBooks) (maxL := 6) (ret := none) (by decide) rfl ?_
  intro pp ee ss mm ar bel mth cde s₁ B hml hno hv
  obtain ⟨rfl, ⟨hsz, hP, hK, hD0, hE, hV⟩, hDC⟩ := hv
  have hx := B.exec
  have hb := B.bytes
  have hr := B.returns
  have hts := atoms_spec (ws := wsX3_setBooks) B.pre
  have hown : ss.vm.findClass RX3 = some mm.cls := findClass_of_methodNamed B.named
  have hlocks := B.notSynchronized
  subst hsz
  have hD := hD0.self (sz := ss.heap.size)
  generalize hAe : va_A (GW a cI cJ p nu de eq am nx oA oD oE oP cR aR hR cl ad gw pr n) ss.heap.size = A at hD hV ⊢
  have hA : ∀ q : Nat, ss.heap.size ≤ q → A q := fun q h => by rw [← hAe]; exact Or.inr h
  have hS : va_S A ss.heap ss.heap [] := va_S.rf
  have hin : ∀ w ∈ wsX30, w.before ([.ref (a 0), .int (x0), .int (x1), .int (x2), .int (x3), .int (x4)] : List Value).toArray ss = true := fun w h => hts w ((by decide +kernel : ∀ w ∈ wsX30, w ∈ wsX3_setBooks) w h)
  have hl := lv_entry [.ref (a 0), .int (x0), .int (x1), .int (x2), .int (x3), .int (x4)] (n := 6) (Nat.le_of_ble_eq_true rfl)
  rw [lg_entry_eq]
  generalize (lg_sl [.ref (a 0), .int (x0), .int (x1), .int (x2), .int (x3), .int (x4)] ++ List.replicate (6 - (lg_sl [.ref (a 0), .int (x0), .int (x1), .int (x2), .int (x3), .int (x4)]).length) Slot.unset).toArray = ls at hl ⊢
  have hl : lv_has ls 6 [(0, .ref (a 0)), (1, .int (x0)), (2, .int (x1)), (3, .int (x2)), (4, .int (x3)), (5, .int (x4))] := hl
  refine lv_iload_n hx hb dX3_setBooks_0 rfl (lv_at hl 1 rfl) ?_
  by_cases q_1 : inB x0 0 5 = true
  · refine va_csv (W.runS (As := [.int (x0)]) (rest := []) ⟨hx, hb, hml, hown, hts⟩ (c_X3_requireCompany_ok ll x0 q_1) (va_cwS 1 hts gX3_setBooks_X3_requireCompany rfl rfl rfl (by decide +kernel) ⟨Nat.le_of_ble_eq_true rfl, Nat.le_of_ble_eq_true rfl⟩) ⟨PT.blind, PT.to⟩ rfl rfl hl.1 rfl (lv_room (Nat.le_of_ble_eq_true rfl)) dX3_setBooks_1 ⟨Nat.le_of_ble_eq_true rfl, Nat.le_of_ble_eq_true rfl⟩) (fun _ => ?_)
    refine lv_iload_n hx hb dX3_setBooks_4 rfl (lv_at hl 2 rfl) ?_
    refine lv_iconst (v := 0) hx hb dX3_setBooks_5 (by decide) ?_
    refine lv_ldc (v := 1000000) hx hb hown (hts (.constant RX3 61 (1000000)) (by decide +kernel)) dX3_setBooks_6 ?_
    by_cases q_2 : inB x1 0 ((1000000)) = true
    · refine va_csv (W.runS (As := [.int (x1), .int (0), .int ((1000000))]) (rest := []) ⟨hx, hb, hml, hown, hts⟩ (c_X3_requireRange_ok ll x1 0 ((1000000)) q_2) (va_cwS 3 hts gX3_setBooks_X3_requireRange rfl rfl rfl (by decide +kernel) ⟨Nat.le_of_ble_eq_true rfl, Nat.le_of_ble_eq_true rfl⟩) ⟨PT.blind, PT.to⟩ rfl rfl hl.1 rfl (lv_room (Nat.le_of_ble_eq_true rfl)) dX3_setBooks_8 ⟨Nat.le_of_ble_eq_true rfl, Nat.le_of_ble_eq_true rfl⟩) (fun _ => ?_)
      refine lv_iload_n hx hb dX3_setBooks_11 rfl (lv_at hl 3 rfl) ?_
      refine lv_iconst (v := 0) hx hb dX3_setBooks_12 (by decide) ?_
      refine lv_ldc (v := 1000000) hx hb hown (hts (.constant RX3 61 (1000000)) (by decide +kernel)) dX3_setBooks_13 ?_
      by_cases q_3 : inB x2 0 ((1000000)) = true
      · refine va_csv (W.runS (As := [.int (x2), .int (0), .int ((1000000))]) (rest := []) ⟨hx, hb, hml, hown, hts⟩ (c_X3_requireRange_ok ll x2 0 ((1000000)) q_3) (va_cwS 3 hts gX3_setBooks_X3_requireRange rfl rfl rfl (by decide +kernel) ⟨Nat.le_of_ble_eq_true rfl, Nat.le_of_ble_eq_true rfl⟩) ⟨PT.blind, PT.to⟩ rfl rfl hl.1 rfl (lv_room (Nat.le_of_ble_eq_true rfl)) dX3_setBooks_15 ⟨Nat.le_of_ble_eq_true rfl, Nat.le_of_ble_eq_true rfl⟩) (fun _ => ?_)
        refine lv_iload hx hb dX3_setBooks_18 (lv_at hl 4 rfl) ?_
        refine lv_ldc (v := -1000000) hx hb hown (hts (.constant RX3 89 (-1000000)) (by decide +kernel)) dX3_setBooks_20 ?_
        refine lv_ldc (v := 1000000) hx hb hown (hts (.constant RX3 61 (1000000)) (by decide +kernel)) dX3_setBooks_22 ?_
        by_cases q_4 : inB x3 ((-1000000)) ((1000000)) = true
        · refine va_csv (W.runS (As := [.int (x3), .int ((-1000000)), .int ((1000000))]) (rest := []) ⟨hx, hb, hml, hown, hts⟩ (c_X3_requireRange_ok ll x3 ((-1000000)) ((1000000)) q_4) (va_cwS 3 hts gX3_setBooks_X3_requireRange rfl rfl rfl (by decide +kernel) ⟨Nat.le_of_ble_eq_true rfl, Nat.le_of_ble_eq_true rfl⟩) ⟨PT.blind, PT.to⟩ rfl rfl hl.1 rfl (lv_room (Nat.le_of_ble_eq_true rfl)) dX3_setBooks_24 ⟨Nat.le_of_ble_eq_true rfl, Nat.le_of_ble_eq_true rfl⟩) (fun _ => ?_)
          refine lv_iload hx hb dX3_setBooks_27 (lv_at hl 5 rfl) ?_
          refine lv_ldc (v := -1000000) hx hb hown (hts (.constant RX3 89 (-1000000)) (by decide +kernel)) dX3_setBooks_29 ?_
          refine lv_ldc (v := 1000000) hx hb hown (hts (.constant RX3 61 (1000000)) (by decide +kernel)) dX3_setBooks_31 ?_
          by_cases q_5 : inB x4 ((-1000000)) ((1000000)) = true
          · refine va_csv (W.runS (As := [.int (x4), .int ((-1000000)), .int ((1000000))]) (rest := []) ⟨hx, hb, hml, hown, hts⟩ (c_X3_requireRange_ok ll x4 ((-1000000)) ((1000000)) q_5) (va_cwS 3 hts gX3_setBooks_X3_requireRange rfl rfl rfl (by decide +kernel) ⟨Nat.le_of_ble_eq_true rfl, Nat.le_of_ble_eq_true rfl⟩) ⟨PT.blind, PT.to⟩ rfl rfl hl.1 rfl (lv_room (Nat.le_of_ble_eq_true rfl)) dX3_setBooks_33 ⟨Nat.le_of_ble_eq_true rfl, Nat.le_of_ble_eq_true rfl⟩) (fun _ => ?_)
            refine lv_iload_n hx hb dX3_setBooks_36 rfl (lv_at hl 2 rfl) ?_
            refine lv_iload_n hx hb dX3_setBooks_37 rfl (lv_at hl 3 rfl) ?_
            refine lv_iload hx hb dX3_setBooks_38 (lv_at hl 4 rfl) ?_
            refine lv_iadd hx hb dX3_setBooks_40 ?_
            refine lv_iload hx hb dX3_setBooks_41 (lv_at hl 5 rfl) ?_
            refine lv_iadd hx hb dX3_setBooks_43 ?_
            by_cases q_6 : x1 = (((x2) + (x3)) + (x4))
            · refine va_csv (W.runS (As := [.int (x1), .int (((x2) + (x3)) + (x4))]) (rest := []) ⟨hx, hb, hml, hown, hts⟩ (c_X3_requireBalance_ok ll x1 (((x2) + (x3)) + (x4)) q_6) (va_cwS 2 hts gX3_setBooks_X3_requireBalance rfl rfl rfl (by decide +kernel) ⟨Nat.le_of_ble_eq_true rfl, Nat.le_of_ble_eq_true rfl⟩) ⟨PT.blind, PT.to⟩ rfl rfl hl.1 rfl (lv_room (Nat.le_of_ble_eq_true rfl)) dX3_setBooks_44 ⟨Nat.le_of_ble_eq_true rfl, Nat.le_of_ble_eq_true rfl⟩) (fun _ => ?_)
              exact absurd ⟨q_1, q_2, q_3, q_4, q_5, q_6⟩ hbad
            · refine b_bad (S := Unit) () rfl hno hlocks hP hK hD hS hA (vx_runS (As := [.int (x1), .int (((x2) + (x3)) + (x4))]) (rest := []) ⟨hx, hb, hml, hown, hts⟩ (c_X3_requireBalance_bad ll hst D _ x1 (((x2) + (x3)) + (x4)) q_6) (va_cwS 2 hts gX3_setBooks_X3_requireBalance rfl rfl rfl (by decide +kernel) ⟨Nat.le_of_ble_eq_true rfl, Nat.le_of_ble_eq_true rfl⟩) ⟨PY.blind, PY.go0 hK hE hV hDC hS hA⟩ rfl rfl hl.1 rfl (lv_room (Nat.le_of_ble_eq_true rfl)) dX3_setBooks_44 ⟨Nat.le_of_ble_eq_true rfl, Nat.le_of_ble_eq_true rfl⟩)
          · refine b_bad (S := Unit) () rfl hno hlocks hP hK hD hS hA (vx_runS (As := [.int (x4), .int ((-1000000)), .int ((1000000))]) (rest := []) ⟨hx, hb, hml, hown, hts⟩ (c_X3_requireRange_bad ll hst D _ x4 ((-1000000)) ((1000000)) q_5) (va_cwS 3 hts gX3_setBooks_X3_requireRange rfl rfl rfl (by decide +kernel) ⟨Nat.le_of_ble_eq_true rfl, Nat.le_of_ble_eq_true rfl⟩) ⟨PY.blind, PY.go0 hK hE hV hDC hS hA⟩ rfl rfl hl.1 rfl (lv_room (Nat.le_of_ble_eq_true rfl)) dX3_setBooks_33 ⟨Nat.le_of_ble_eq_true rfl, Nat.le_of_ble_eq_true rfl⟩)
        · refine b_bad (S := Unit) () rfl hno hlocks hP hK hD hS hA (vx_runS (As := [.int (x3), .int ((-1000000)), .int ((1000000))]) (rest := []) ⟨hx, hb, hml, hown, hts⟩ (c_X3_requireRange_bad ll hst D _ x3 ((-1000000)) ((1000000)) q_4) (va_cwS 3 hts gX3_setBooks_X3_requireRange rfl rfl rfl (by decide +kernel) ⟨Nat.le_of_ble_eq_true rfl, Nat.le_of_ble_eq_true rfl⟩) ⟨PY.blind, PY.go0 hK hE hV hDC hS hA⟩ rfl rfl hl.1 rfl (lv_room (Nat.le_of_ble_eq_true rfl)) dX3_setBooks_24 ⟨Nat.le_of_ble_eq_true rfl, Nat.le_of_ble_eq_true rfl⟩)
      · refine b_bad (S := Unit) () rfl hno hlocks hP hK hD hS hA (vx_runS (As := [.int (x2), .int (0), .int ((1000000))]) (rest := []) ⟨hx, hb, hml, hown, hts⟩ (c_X3_requireRange_bad ll hst D _ x2 0 ((1000000)) q_3) (va_cwS 3 hts gX3_setBooks_X3_requireRange rfl rfl rfl (by decide +kernel) ⟨Nat.le_of_ble_eq_true rfl, Nat.le_of_ble_eq_true rfl⟩) ⟨PY.blind, PY.go0 hK hE hV hDC hS hA⟩ rfl rfl hl.1 rfl (lv_room (Nat.le_of_ble_eq_true rfl)) dX3_setBooks_15 ⟨Nat.le_of_ble_eq_true rfl, Nat.le_of_ble_eq_true rfl⟩)
    · refine b_bad (S := Unit) () rfl hno hlocks hP hK hD hS hA (vx_runS (As := [.int (x1), .int (0), .int ((1000000))]) (rest := []) ⟨hx, hb, hml, hown, hts⟩ (c_X3_requireRange_bad ll hst D _ x1 0 ((1000000)) q_2) (va_cwS 3 hts gX3_setBooks_X3_requireRange rfl rfl rfl (by decide +kernel) ⟨Nat.le_of_ble_eq_true rfl, Nat.le_of_ble_eq_true rfl⟩) ⟨PY.blind, PY.go0 hK hE hV hDC hS hA⟩ rfl rfl hl.1 rfl (lv_room (Nat.le_of_ble_eq_true rfl)) dX3_setBooks_8 ⟨Nat.le_of_ble_eq_true rfl, Nat.le_of_ble_eq_true rfl⟩)
  · refine b_bad (S := Unit) () rfl hno hlocks hP hK hD hS hA (vx_runS (As := [.int (x0)]) (rest := []) ⟨hx, hb, hml, hown, hts⟩ (c_X3_requireCompany_bad ll hst D _ x0 q_1) (va_cwS 1 hts gX3_setBooks_X3_requireCompany rfl rfl rfl (by decide +kernel) ⟨Nat.le_of_ble_eq_true rfl, Nat.le_of_ble_eq_true rfl⟩) ⟨PY.blind, PY.go0 hK hE hV hDC hS hA⟩ rfl rfl hl.1 rfl (lv_room (Nat.le_of_ble_eq_true rfl)) dX3_setBooks_1 ⟨Nat.le_of_ble_eq_true rfl, Nat.le_of_ble_eq_true rfl⟩)

abbrev rmX3_setRates : Room := ({ frames := 2, cells := 0, slots := 0, locals := 42 } : Room)
set_option maxHeartbeats 4000000 in
set_option maxRecDepth 100000 in
theorem c_X3_setRates (ll : Launch) (D : va_G) (a : Nat → Nat) (cI cJ : ClassId) (sz : Nat) (p : Nat → Int32) (nu de eq : Nat → Int64) (am nx oA oD oE oP cR aR hR cl ad gw pr : Nat → Int32) (n : Int32) (c : Nat) (x1 x2 x3 : Int32) (hc : c < 6) (h1 : inB x1 1 1000 = true) (h2 : inB x2 1 1000 = true) (h3 : inB x3 1 1000 = true) : Met ll yX3_setRates wsX3_setRates rmX3_setRates (va_Pc [.ref (a 0), .int (nI (c)), .int (x1), .int (x2), .int (x3)] (PW D (tyG cI cJ) (GW a cI cJ p nu de eq am nx oA oD oE oP cR aR hR cl ad gw pr n) sz)) (va_Qv (fun (u : Unit) => True) (fun (u : Unit) t => AW D (tyG cI cJ) (va_A (GW a cI cJ p nu de eq am nx oA oD oE oP cR aR hR cl ad gw pr n) sz) (GW a cI cJ p nu de eq am nx oA oD oE oP (upd cR c x1) (upd aR c x2) (upd hR c x3) cl ad gw pr n) t) (va_A (GW a cI cJ p nu de eq am nx oA oD oE oP cR aR hR cl ad gw pr n) sz)) 0 0 (va_A (GW a cI cJ p nu de eq am nx oA oD oE oP cR aR hR cl ad gw pr n) sz) := by
  refine Met.ofW (cc := cX3_setRates) (maxL := 5) (ret := none) (by decide) rfl ?_
  intro pp ee ss mm ar bel mth cde s₁ B hml hv
  obtain ⟨rfl, hsz, hP, hK, hD0, hE⟩ := hv
  have hx := B.exec
  have hb := B.bytes
  have hr := B.returns
  have hts := atoms_spec (ws := wsX3_setRates) B.pre
  have hown : ss.vm.findClass RX3 = some mm.cls := findClass_of_methodNamed B.named
  have hlocks := B.notSynchronized
  subst hsz
  have hD := hD0.self (sz := ss.heap.size)
  generalize hAe : va_A (GW a cI cJ p nu de eq am nx oA oD oE oP cR aR hR cl ad gw pr n) ss.heap.size = A at hD ⊢
  have hA : ∀ q : Nat, ss.heap.size ≤ q → A q := fun q h => by rw [← hAe]; exact Or.inr h
  have hS : va_S A ss.heap ss.heap [] := va_S.rf
  have hin : ∀ w ∈ wsX30, w.before ([.ref (a 0), .int (nI (c)), .int (x1), .int (x2), .int (x3)] : List Value).toArray ss = true := fun w h => hts w ((by decide +kernel : ∀ w ∈ wsX30, w ∈ wsX3_setRates) w h)
  have hl := lv_entry [.ref (a 0), .int (nI (c)), .int (x1), .int (x2), .int (x3)] (n := 5) (Nat.le_of_ble_eq_true rfl)
  rw [lg_entry_eq]
  generalize (lg_sl [.ref (a 0), .int (nI (c)), .int (x1), .int (x2), .int (x3)] ++ List.replicate (5 - (lg_sl [.ref (a 0), .int (nI (c)), .int (x1), .int (x2), .int (x3)]).length) Slot.unset).toArray = ls at hl ⊢
  have hl : lv_has ls 5 [(0, .ref (a 0)), (1, .int (nI (c))), (2, .int (x1)), (3, .int (x2)), (4, .int (x3))] := hl
  refine lv_iload_n hx hb dX3_setRates_0 rfl (lv_at hl 1 rfl) ?_
  refine va_csv (W.runS (As := [.int (nI (c))]) (rest := []) ⟨hx, hb, hml, hown, hts⟩ (c_X3_requireCompany_ok ll (nI (c)) (inB_c c hc)) (va_cwS 1 hts gX3_setRates_X3_requireCompany rfl rfl rfl (by decide +kernel) ⟨Nat.le_of_ble_eq_true rfl, Nat.le_of_ble_eq_true rfl⟩) ⟨PT.blind, PT.to⟩ rfl rfl hl.1 rfl (lv_room (Nat.le_of_ble_eq_true rfl)) dX3_setRates_1 ⟨Nat.le_of_ble_eq_true rfl, Nat.le_of_ble_eq_true rfl⟩) (fun _ => ?_)
  refine lv_iload_n hx hb dX3_setRates_4 rfl (lv_at hl 2 rfl) ?_
  refine lv_iconst (v := 1) hx hb dX3_setRates_5 (by decide) ?_
  refine lv_sipush (v := 1000) hx hb dX3_setRates_6 (by decide) ?_
  refine va_csv (W.runS (As := [.int (x1), .int (1), .int (1000)]) (rest := []) ⟨hx, hb, hml, hown, hts⟩ (c_X3_requireRange_ok ll x1 1 1000 h1) (va_cwS 3 hts gX3_setRates_X3_requireRange rfl rfl rfl (by decide +kernel) ⟨Nat.le_of_ble_eq_true rfl, Nat.le_of_ble_eq_true rfl⟩) ⟨PT.blind, PT.to⟩ rfl rfl hl.1 rfl (lv_room (Nat.le_of_ble_eq_true rfl)) dX3_setRates_9 ⟨Nat.le_of_ble_eq_true rfl, Nat.le_of_ble_eq_true rfl⟩) (fun _ => ?_)
  refine lv_iload_n hx hb dX3_setRates_12 rfl (lv_at hl 3 rfl) ?_
  refine lv_iconst (v := 1) hx hb dX3_setRates_13 (by decide) ?_
  refine lv_sipush (v := 1000) hx hb dX3_setRates_14 (by decide) ?_
  refine va_csv (W.runS (As := [.int (x2), .int (1), .int (1000)]) (rest := []) ⟨hx, hb, hml, hown, hts⟩ (c_X3_requireRange_ok ll x2 1 1000 h2) (va_cwS 3 hts gX3_setRates_X3_requireRange rfl rfl rfl (by decide +kernel) ⟨Nat.le_of_ble_eq_true rfl, Nat.le_of_ble_eq_true rfl⟩) ⟨PT.blind, PT.to⟩ rfl rfl hl.1 rfl (lv_room (Nat.le_of_ble_eq_true rfl)) dX3_setRates_17 ⟨Nat.le_of_ble_eq_true rfl, Nat.le_of_ble_eq_true rfl⟩) (fun _ => ?_)
  refine lv_iload hx hb dX3_setRates_20 (lv_at hl 4 rfl) ?_
  refine lv_iconst (v := 1) hx hb dX3_setRates_22 (by decide) ?_
  refine lv_sipush (v := 1000) hx hb dX3_setRates_23 (by decide) ?_
  refine va_csv (W.runS (As := [.int (x3), .int (1), .int (1000)]) (rest := []) ⟨hx, hb, hml, hown, hts⟩ (c_X3_requireRange_ok ll x3 1 1000 h3) (va_cwS 3 hts gX3_setRates_X3_requireRange rfl rfl rfl (by decide +kernel) ⟨Nat.le_of_ble_eq_true rfl, Nat.le_of_ble_eq_true rfl⟩) ⟨PT.blind, PT.to⟩ rfl rfl hl.1 rfl (lv_room (Nat.le_of_ble_eq_true rfl)) dX3_setRates_26 ⟨Nat.le_of_ble_eq_true rfl, Nat.le_of_ble_eq_true rfl⟩) (fun _ => ?_)
  refine lv_aload_n hx hb dX3_setRates_29 rfl (lv_at hl 0 rfl) ?_
  refine va_get (D := D) (ci := 3) (v := .ref (a 2)) (C := RX3) (T := TX3) (N := 6) (Ts := wsX30) hx hb hin (fun _ h9 => h9) hown hK hP 0 rfl rfl 1 (by decide) (hts (.fieldLink RX3 19 "Groupbooks" "books" "LGroupbooks$Books;") (by decide +kernel)) (fun _ h9 => h9) rfl dX3_setRates_30 ?_
  refine lv_iload_n hx hb dX3_setRates_33 rfl (lv_at hl 1 rfl) ?_
  refine lv_iload_n hx hb dX3_setRates_34 rfl (lv_at hl 2 rfl) ?_
  refine lv_iload_n hx hb dX3_setRates_35 rfl (lv_at hl 3 rfl) ?_
  refine lv_iload hx hb dX3_setRates_36 (lv_at hl 4 rfl) ?_
  refine b_callv0 (S := Unit) (w' := fun u => GW a cI cJ p nu de eq am nx oA oD oE oP (upd cR c x1) (upd aR c x2) (upd hR c x3) cl ad gw pr n) hP hD hS hA (va_runVN (As := [.int (nI (c)), .int (x1), .int (x2), .int (x3)]) (rest := []) ⟨hx, hb, hml, hown, hts⟩ (c_X1_enterRates ll D a cI cJ _ p nu de eq am nx oA oD oE oP cR aR hR cl ad gw pr n c x1 x2 x3 (by omega)) ⟨va_cnB 4 hts gX3_setRates_X1_enterRates_n97 rfl rfl rfl (hE.nest 21 rfl) (hts (.initialized RX1) (by decide +kernel)) (by decide +kernel) ⟨Nat.le_of_ble_eq_true rfl, Nat.le_of_ble_eq_true rfl⟩, hts (.instanceMethod yX1_enterRates) (by decide +kernel), hts (.selects RX1 yX1_enterRates yX1_enterRates) (by decide +kernel)⟩ ⟨PW.blind, va_recv hK hP (ci := 1) (q0 := 2) rfl rfl, PW.go hP hK hD hE⟩ rfl rfl hl.1 rfl (lv_room (Nat.le_of_ble_eq_true rfl)) dX3_setRates_38 ⟨Nat.le_of_ble_eq_true rfl, Nat.le_of_ble_eq_true rfl⟩) (fun u H locs h_1 hP hD hS => ?_)
  exact W.vret hx hb hr (fun t ht hW => ⟨⟨(), rfl, trivial, (by rw [ht]; exact hP), va_K.moved hW.alike hK, hD⟩, hS.F ht⟩) hS.2.2 dX3_setRates_41

abbrev rmX3_setRates_bad : Room := ({ frames := 8, cells := 1, slots := 6, locals := 124 } : Room)
set_option maxHeartbeats 4000000 in
set_option maxRecDepth 100000 in
theorem c_X3_setRates_bad (ll : Launch) (hst : ll.stackTraces = false) (D : va_G) (a : Nat → Nat) (cI cJ : ClassId) (sz : Nat) (p : Nat → Int32) (nu de eq : Nat → Int64) (am nx oA oD oE oP cR aR hR cl ad gw pr : Nat → Int32) (n : Int32) (x0 x1 x2 x3 : Int32) (hbad : ¬ (inB x0 0 5 = true ∧ inB x1 1 1000 = true ∧ inB x2 1 1000 = true ∧ inB x3 1 1000 = true)) : vx_Met ll yX3_setRates wsX3_setRates rmX3_setRates_bad (va_Pc [.ref (a 0), .int (x0), .int (x1), .int (x2), .int (x3)] (PY D (tyG cI cJ) (GW a cI cJ p nu de eq am nx oA oD oE oP cR aR hR cl ad gw pr n) sz)) (va_Qv (fun (_ : Unit) => False) (fun _ _ => True) (va_A (GW a cI cJ p nu de eq am nx oA oD oE oP cR aR hR cl ad gw pr n) sz)) (XEA D (tyG cI cJ) (va_A (GW a cI cJ p nu de eq am nx oA oD oE oP cR aR hR cl ad gw pr n) sz) (fun u : Unit => GW a cI cJ p nu de eq am nx oA oD oE oP cR aR hR cl ad gw pr n) RIA) 1 6 (va_A (GW a cI cJ p nu de eq am nx oA oD oE oP cR aR hR cl ad gw pr n) sz) := by
  refine vx_ofW (cc := cX3_setRates) (maxL := 5) (ret := none) (by decide) rfl ?_
  intro pp ee ss mm ar bel mth cde s₁ B hml hno hv
  obtain ⟨rfl, ⟨hsz, hP, hK, hD0, hE, hV⟩, hDC⟩ := hv
  have hx := B.exec
  have hb := B.bytes
  have hr := B.returns
  have hts := atoms_spec (ws := wsX3_setRates) B.pre
  have hown : ss.vm.findClass RX3 = some mm.cls := findClass_of_methodNamed B.named
  have hlocks := B.notSynchronized
  subst hsz
  have hD := hD0.self (sz := ss.heap.size)
  generalize hAe : va_A (GW a cI cJ p nu de eq am nx oA oD oE oP cR aR hR cl ad gw pr n) ss.heap.size = A at hD hV ⊢
  have hA : ∀ q : Nat, ss.heap.size ≤ q → A q := fun q h => by rw [← hAe]; exact Or.inr h
  have hS : va_S A ss.heap ss.heap [] := va_S.rf
  have hin : ∀ w ∈ wsX30, w.before ([.ref (a 0), .int (x0), .int (x1), .int (x2), .int (x3)] : List Value).toArray ss = true := fun w h => hts w ((by decide +kernel : ∀ w ∈ wsX30, w ∈ wsX3_setRates) w h)
  have hl := lv_entry [.ref (a 0), .int (x0), .int (x1), .int (x2), .int (x3)] (n := 5) (Nat.le_of_ble_eq_true rfl)
  rw [lg_entry_eq]
  generalize (lg_sl [.ref (a 0), .int (x0), .int (x1), .int (x2), .int (x3)] ++ List.replicate (5 - (lg_sl [.ref (a 0), .int (x0), .int (x1), .int (x2), .int (x3)]).length) Slot.unset).toArray = ls at hl ⊢
  have hl : lv_has ls 5 [(0, .ref (a 0)), (1, .int (x0)), (2, .int (x1)), (3, .int (x2)), (4, .int (x3))] := hl
  refine lv_iload_n hx hb dX3_setRates_0 rfl (lv_at hl 1 rfl) ?_
  by_cases q_1 : inB x0 0 5 = true
  · refine va_csv (W.runS (As := [.int (x0)]) (rest := []) ⟨hx, hb, hml, hown, hts⟩ (c_X3_requireCompany_ok ll x0 q_1) (va_cwS 1 hts gX3_setRates_X3_requireCompany rfl rfl rfl (by decide +kernel) ⟨Nat.le_of_ble_eq_true rfl, Nat.le_of_ble_eq_true rfl⟩) ⟨PT.blind, PT.to⟩ rfl rfl hl.1 rfl (lv_room (Nat.le_of_ble_eq_true rfl)) dX3_setRates_1 ⟨Nat.le_of_ble_eq_true rfl, Nat.le_of_ble_eq_true rfl⟩) (fun _ => ?_)
    refine lv_iload_n hx hb dX3_setRates_4 rfl (lv_at hl 2 rfl) ?_
    refine lv_iconst (v := 1) hx hb dX3_setRates_5 (by decide) ?_
    refine lv_sipush (v := 1000) hx hb dX3_setRates_6 (by decide) ?_
    by_cases q_2 : inB x1 1 1000 = true
    · refine va_csv (W.runS (As := [.int (x1), .int (1), .int (1000)]) (rest := []) ⟨hx, hb, hml, hown, hts⟩ (c_X3_requireRange_ok ll x1 1 1000 q_2) (va_cwS 3 hts gX3_setRates_X3_requireRange rfl rfl rfl (by decide +kernel) ⟨Nat.le_of_ble_eq_true rfl, Nat.le_of_ble_eq_true rfl⟩) ⟨PT.blind, PT.to⟩ rfl rfl hl.1 rfl (lv_room (Nat.le_of_ble_eq_true rfl)) dX3_setRates_9 ⟨Nat.le_of_ble_eq_true rfl, Nat.le_of_ble_eq_true rfl⟩) (fun _ => ?_)
      refine lv_iload_n hx hb dX3_setRates_12 rfl (lv_at hl 3 rfl) ?_
      refine lv_iconst (v := 1) hx hb dX3_setRates_13 (by decide) ?_
      refine lv_sipush (v := 1000) hx hb dX3_setRates_14 (by decide) ?_
      by_cases q_3 : inB x2 1 1000 = true
      · refine va_csv (W.runS (As := [.int (x2), .int (1), .int (1000)]) (rest := []) ⟨hx, hb, hml, hown, hts⟩ (c_X3_requireRange_ok ll x2 1 1000 q_3) (va_cwS 3 hts gX3_setRates_X3_requireRange rfl rfl rfl (by decide +kernel) ⟨Nat.le_of_ble_eq_true rfl, Nat.le_of_ble_eq_true rfl⟩) ⟨PT.blind, PT.to⟩ rfl rfl hl.1 rfl (lv_room (Nat.le_of_ble_eq_true rfl)) dX3_setRates_17 ⟨Nat.le_of_ble_eq_true rfl, Nat.le_of_ble_eq_true rfl⟩) (fun _ => ?_)
        refine lv_iload hx hb dX3_setRates_20 (lv_at hl 4 rfl) ?_
        refine lv_iconst (v := 1) hx hb dX3_setRates_22 (by decide) ?_
        refine lv_sipush (v := 1000) hx hb dX3_setRates_23 (by decide) ?_
        by_cases q_4 : inB x3 1 1000 = true
        · refine va_csv (W.runS (As := [.int (x3), .int (1), .int (1000)]) (rest := []) ⟨hx, hb, hml, hown, hts⟩ (c_X3_requireRange_ok ll x3 1 1000 q_4) (va_cwS 3 hts gX3_setRates_X3_requireRange rfl rfl rfl (by decide +kernel) ⟨Nat.le_of_ble_eq_true rfl, Nat.le_of_ble_eq_true rfl⟩) ⟨PT.blind, PT.to⟩ rfl rfl hl.1 rfl (lv_room (Nat.le_of_ble_eq_true rfl)) dX3_setRates_26 ⟨Nat.le_of_ble_eq_true rfl, Nat.le_of_ble_eq_true rfl⟩) (fun _ => ?_)
          exact absurd ⟨q_1, q_2, q_3, q_4⟩ hbad
        · refine b_bad (S := Unit) () rfl hno hlocks hP hK hD hS hA (vx_runS (As := [.int (x3), .int (1), .int (1000)]) (rest := []) ⟨hx, hb, hml, hown, hts⟩ (c_X3_requireRange_bad ll hst D _ x3 1 1000 q_4) (va_cwS 3 hts gX3_setRates_X3_requireRange rfl rfl rfl (by decide +kernel) ⟨Nat.le_of_ble_eq_true rfl, Nat.le_of_ble_eq_true rfl⟩) ⟨PY.blind, PY.go0 hK hE hV hDC hS hA⟩ rfl rfl hl.1 rfl (lv_room (Nat.le_of_ble_eq_true rfl)) dX3_setRates_26 ⟨Nat.le_of_ble_eq_true rfl, Nat.le_of_ble_eq_true rfl⟩)
      · refine b_bad (S := Unit) () rfl hno hlocks hP hK hD hS hA (vx_runS (As := [.int (x2), .int (1), .int (1000)]) (rest := []) ⟨hx, hb, hml, hown, hts⟩ (c_X3_requireRange_bad ll hst D _ x2 1 1000 q_3) (va_cwS 3 hts gX3_setRates_X3_requireRange rfl rfl rfl (by decide +kernel) ⟨Nat.le_of_ble_eq_true rfl, Nat.le_of_ble_eq_true rfl⟩) ⟨PY.blind, PY.go0 hK hE hV hDC hS hA⟩ rfl rfl hl.1 rfl (lv_room (Nat.le_of_ble_eq_true rfl)) dX3_setRates_17 ⟨Nat.le_of_ble_eq_true rfl, Nat.le_of_ble_eq_true rfl⟩)
    · refine b_bad (S := Unit) () rfl hno hlocks hP hK hD hS hA (vx_runS (As := [.int (x1), .int (1), .int (1000)]) (rest := []) ⟨hx, hb, hml, hown, hts⟩ (c_X3_requireRange_bad ll hst D _ x1 1 1000 q_2) (va_cwS 3 hts gX3_setRates_X3_requireRange rfl rfl rfl (by decide +kernel) ⟨Nat.le_of_ble_eq_true rfl, Nat.le_of_ble_eq_true rfl⟩) ⟨PY.blind, PY.go0 hK hE hV hDC hS hA⟩ rfl rfl hl.1 rfl (lv_room (Nat.le_of_ble_eq_true rfl)) dX3_setRates_9 ⟨Nat.le_of_ble_eq_true rfl, Nat.le_of_ble_eq_true rfl⟩)
  · refine b_bad (S := Unit) () rfl hno hlocks hP hK hD hS hA (vx_runS (As := [.int (x0)]) (rest := []) ⟨hx, hb, hml, hown, hts⟩ (c_X3_requireCompany_bad ll hst D _ x0 q_1) (va_cwS 1 hts gX3_setRates_X3_requireCompany rfl rfl rfl (by decide +kernel) ⟨Nat.le_of_ble_eq_true rfl, Nat.le_of_ble_eq_true rfl⟩) ⟨PY.blind, PY.go0 hK hE hV hDC hS hA⟩ rfl rfl hl.1 rfl (lv_room (Nat.le_of_ble_eq_true rfl)) dX3_setRates_1 ⟨Nat.le_of_ble_eq_true rfl, Nat.le_of_ble_eq_true rfl⟩)

abbrev rmX3_claim : Room := ({ frames := 3, cells := 0, slots := 0, locals := 63 } : Room)
set_option maxHeartbeats 4000000 in
set_option maxRecDepth 100000 in
theorem c_X3_claim (ll : Launch) (D : va_G) (a : Nat → Nat) (cI cJ : ClassId) (sz : Nat) (p : Nat → Int32) (nu de eq : Nat → Int64) (am nx oA oD oE oP cR aR hR cl ad gw pr : Nat → Int32) (n : Int32) (o c : Nat) (x : Int32) (ho : o < 6) (hc : c < 6) (hpr : prB (nI o) (nI c) = true) (hqx : inB x 0 1000000 = true) : Met ll yX3_claim wsX3_claim rmX3_claim (va_Pc [.ref (a 0), .int (nI (o)), .int (nI (c)), .int (x)] (PW D (tyG cI cJ) (GW a cI cJ p nu de eq am nx oA oD oE oP cR aR hR cl ad gw pr n) sz)) (va_Qi (fun (rr : Int32) (u : Unit) => rr = cl (6 * o + c)) (fun (u : Unit) t => AW D (tyG cI cJ) (va_A (GW a cI cJ p nu de eq am nx oA oD oE oP cR aR hR cl ad gw pr n) sz) (GW a cI cJ p nu de eq am nx oA oD oE oP cR aR hR (upd cl (6 * o + c) x) ad gw pr n) t) (va_A (GW a cI cJ p nu de eq am nx oA oD oE oP cR aR hR cl ad gw pr n) sz)) 0 0 (va_A (GW a cI cJ p nu de eq am nx oA oD oE oP cR aR hR cl ad gw pr n) sz) := by
  refine Met.ofW (cc := cX3_claim) (maxL := 4) (ret := (some .int)) (by decide) rfl ?_
  intro pp ee ss mm ar bel mth cde s₁ B hml hv
  obtain ⟨rfl, hsz, hP, hK, hD0, hE⟩ := hv
  have hx := B.exec
  have hb := B.bytes
  have hr := B.returns
  have hts := atoms_spec (ws := wsX3_claim) B.pre
  have hown : ss.vm.findClass RX3 = some mm.cls := findClass_of_methodNamed B.named
  have hlocks := B.notSynchronized
  subst hsz
  have hD := hD0.self (sz := ss.heap.size)
  generalize hAe : va_A (GW a cI cJ p nu de eq am nx oA oD oE oP cR aR hR cl ad gw pr n) ss.heap.size = A at hD ⊢
  have hA : ∀ q : Nat, ss.heap.size ≤ q → A q := fun q h => by rw [← hAe]; exact Or.inr h
  have hS : va_S A ss.heap ss.heap [] := va_S.rf
  have hin : ∀ w ∈ wsX30, w.before ([.ref (a 0), .int (nI (o)), .int (nI (c)), .int (x)] : List Value).toArray ss = true := fun w h => hts w ((by decide +kernel : ∀ w ∈ wsX30, w ∈ wsX3_claim) w h)
  have hl := lv_entry [.ref (a 0), .int (nI (o)), .int (nI (c)), .int (x)] (n := 4) (Nat.le_of_ble_eq_true rfl)
  rw [lg_entry_eq]
  generalize (lg_sl [.ref (a 0), .int (nI (o)), .int (nI (c)), .int (x)] ++ List.replicate (4 - (lg_sl [.ref (a 0), .int (nI (o)), .int (nI (c)), .int (x)]).length) Slot.unset).toArray = ls at hl ⊢
  have hl : lv_has ls 4 [(0, .ref (a 0)), (1, .int (nI (o))), (2, .int (nI (c))), (3, .int (x))] := hl
  refine lv_iload_n hx hb dX3_claim_0 rfl (lv_at hl 1 rfl) ?_
  refine lv_iload_n hx hb dX3_claim_1 rfl (lv_at hl 2 rfl) ?_
  refine va_csv (W.runS (As := [.int (nI (o)), .int (nI (c))]) (rest := []) ⟨hx, hb, hml, hown, hts⟩ (c_X3_requireTwoCompanies_ok ll (nI (o)) (nI (c)) hpr) (va_cwS 2 hts gX3_claim_X3_requireTwoCompanies rfl rfl rfl (by decide +kernel) ⟨Nat.le_of_ble_eq_true rfl, Nat.le_of_ble_eq_true rfl⟩) ⟨PT.blind, PT.to⟩ rfl rfl hl.1 rfl (lv_room (Nat.le_of_ble_eq_true rfl)) dX3_claim_2 ⟨Nat.le_of_ble_eq_true rfl, Nat.le_of_ble_eq_true rfl⟩) (fun _ => ?_)
  refine lv_iload_n hx hb dX3_claim_5 rfl (lv_at hl 3 rfl) ?_
  refine lv_iconst (v := 0) hx hb dX3_claim_6 (by decide) ?_
  refine lv_ldc (v := 1000000) hx hb hown (hts (.constant RX3 61 (1000000)) (by decide +kernel)) dX3_claim_7 ?_
  refine va_csv (W.runS (As := [.int (x), .int (0), .int ((1000000))]) (rest := []) ⟨hx, hb, hml, hown, hts⟩ (c_X3_requireRange_ok ll x 0 ((1000000)) hqx) (va_cwS 3 hts gX3_claim_X3_requireRange rfl rfl rfl (by decide +kernel) ⟨Nat.le_of_ble_eq_true rfl, Nat.le_of_ble_eq_true rfl⟩) ⟨PT.blind, PT.to⟩ rfl rfl hl.1 rfl (lv_room (Nat.le_of_ble_eq_true rfl)) dX3_claim_9 ⟨Nat.le_of_ble_eq_true rfl, Nat.le_of_ble_eq_true rfl⟩) (fun _ => ?_)
  refine lv_aload_n hx hb dX3_claim_12 rfl (lv_at hl 0 rfl) ?_
  refine va_get (D := D) (ci := 3) (v := .ref (a 3)) (C := RX3) (T := TX3) (N := 6) (Ts := wsX30) hx hb hin (fun _ h9 => h9) hown hK hP 0 rfl rfl 2 (by decide) (hts (.fieldLink RX3 26 "Groupbooks" "balances" "LGroupbooks$Balances;") (by decide +kernel)) (fun _ h9 => h9) rfl dX3_claim_13 ?_
  refine lv_iload_n hx hb dX3_claim_16 rfl (lv_at hl 1 rfl) ?_
  refine lv_iload_n hx hb dX3_claim_17 rfl (lv_at hl 2 rfl) ?_
  refine lv_iload_n hx hb dX3_claim_18 rfl (lv_at hl 3 rfl) ?_
  refine b_calli0 (S := Unit) (w' := fun u => GW a cI cJ p nu de eq am nx oA oD oE oP cR aR hR (upd cl (6 * o + c) x) ad gw pr n) hP hD hS hA (va_runVN (As := [.int (nI (o)), .int (nI (c)), .int (x)]) (rest := []) ⟨hx, hb, hml, hown, hts⟩ (c_X0_replaceClaim ll D a cI cJ _ p nu de eq am nx oA oD oE oP cR aR hR cl ad gw pr n o c x (by omega) (by omega)) ⟨va_cnB 3 hts gX3_claim_X0_replaceClaim_n107 rfl rfl rfl (hE.nest 23 rfl) (hts (.initialized RX0) (by decide +kernel)) (by decide +kernel) ⟨Nat.le_of_ble_eq_true rfl, Nat.le_of_ble_eq_true rfl⟩, hts (.instanceMethod yX0_replaceClaim) (by decide +kernel), hts (.selects RX0 yX0_replaceClaim yX0_replaceClaim) (by decide +kernel)⟩ ⟨PW.blind, va_recv hK hP (ci := 0) (q0 := 3) rfl rfl, PW.go hP hK hD hE⟩ rfl rfl hl.1 rfl (lv_room (Nat.le_of_ble_eq_true rfl)) dX3_claim_19 ⟨Nat.le_of_ble_eq_true rfl, Nat.le_of_ble_eq_true rfl⟩) (fun r_2 u H locs h_1 hP hD hS => ?_)
  have h_1 : r_2 = cl (6 * o + c) := h_1
  subst h_1
  exact W.iret hx hb hr (fun t ht hW => ⟨⟨_, (), rfl, rfl, (by rw [ht]; exact hP), va_K.moved hW.alike hK, hD⟩, hS.F ht⟩) hS.2.2 dX3_claim_22

abbrev rmX3_admit : Room := ({ frames := 3, cells := 0, slots := 0, locals := 63 } : Room)
set_option maxHeartbeats 4000000 in
set_option maxRecDepth 100000 in
theorem c_X3_admit (ll : Launch) (D : va_G) (a : Nat → Nat) (cI cJ : ClassId) (sz : Nat) (p : Nat → Int32) (nu de eq : Nat → Int64) (am nx oA oD oE oP cR aR hR cl ad gw pr : Nat → Int32) (n : Int32) (o c : Nat) (x : Int32) (ho : o < 6) (hc : c < 6) (hpr : prB (nI o) (nI c) = true) (hqx : inB x 0 1000000 = true) : Met ll yX3_admit wsX3_admit rmX3_admit (va_Pc [.ref (a 0), .int (nI (o)), .int (nI (c)), .int (x)] (PW D (tyG cI cJ) (GW a cI cJ p nu de eq am nx oA oD oE oP cR aR hR cl ad gw pr n) sz)) (va_Qi (fun (rr : Int32) (u : Unit) => rr = ad (6 * c + o)) (fun (u : Unit) t => AW D (tyG cI cJ) (va_A (GW a cI cJ p nu de eq am nx oA oD oE oP cR aR hR cl ad gw pr n) sz) (GW a cI cJ p nu de eq am nx oA oD oE oP cR aR hR cl (upd ad (6 * c + o) x) gw pr n) t) (va_A (GW a cI cJ p nu de eq am nx oA oD oE oP cR aR hR cl ad gw pr n) sz)) 0 0 (va_A (GW a cI cJ p nu de eq am nx oA oD oE oP cR aR hR cl ad gw pr n) sz) := by
  refine Met.ofW (cc := cX3_admit) (maxL := 4) (ret := (some .int)) (by decide) rfl ?_
  intro pp ee ss mm ar bel mth cde s₁ B hml hv
  obtain ⟨rfl, hsz, hP, hK, hD0, hE⟩ := hv
  have hx := B.exec
  have hb := B.bytes
  have hr := B.returns
  have hts := atoms_spec (ws := wsX3_admit) B.pre
  have hown : ss.vm.findClass RX3 = some mm.cls := findClass_of_methodNamed B.named
  have hlocks := B.notSynchronized
  subst hsz
  have hD := hD0.self (sz := ss.heap.size)
  generalize hAe : va_A (GW a cI cJ p nu de eq am nx oA oD oE oP cR aR hR cl ad gw pr n) ss.heap.size = A at hD ⊢
  have hA : ∀ q : Nat, ss.heap.size ≤ q → A q := fun q h => by rw [← hAe]; exact Or.inr h
  have hS : va_S A ss.heap ss.heap [] := va_S.rf
  have hin : ∀ w ∈ wsX30, w.before ([.ref (a 0), .int (nI (o)), .int (nI (c)), .int (x)] : List Value).toArray ss = true := fun w h => hts w ((by decide +kernel : ∀ w ∈ wsX30, w ∈ wsX3_admit) w h)
  have hl := lv_entry [.ref (a 0), .int (nI (o)), .int (nI (c)), .int (x)] (n := 4) (Nat.le_of_ble_eq_true rfl)
  rw [lg_entry_eq]
  generalize (lg_sl [.ref (a 0), .int (nI (o)), .int (nI (c)), .int (x)] ++ List.replicate (4 - (lg_sl [.ref (a 0), .int (nI (o)), .int (nI (c)), .int (x)]).length) Slot.unset).toArray = ls at hl ⊢
  have hl : lv_has ls 4 [(0, .ref (a 0)), (1, .int (nI (o))), (2, .int (nI (c))), (3, .int (x))] := hl
  refine lv_iload_n hx hb dX3_admit_0 rfl (lv_at hl 1 rfl) ?_
  refine lv_iload_n hx hb dX3_admit_1 rfl (lv_at hl 2 rfl) ?_
  refine va_csv (W.runS (As := [.int (nI (o)), .int (nI (c))]) (rest := []) ⟨hx, hb, hml, hown, hts⟩ (c_X3_requireTwoCompanies_ok ll (nI (o)) (nI (c)) hpr) (va_cwS 2 hts gX3_admit_X3_requireTwoCompanies rfl rfl rfl (by decide +kernel) ⟨Nat.le_of_ble_eq_true rfl, Nat.le_of_ble_eq_true rfl⟩) ⟨PT.blind, PT.to⟩ rfl rfl hl.1 rfl (lv_room (Nat.le_of_ble_eq_true rfl)) dX3_admit_2 ⟨Nat.le_of_ble_eq_true rfl, Nat.le_of_ble_eq_true rfl⟩) (fun _ => ?_)
  refine lv_iload_n hx hb dX3_admit_5 rfl (lv_at hl 3 rfl) ?_
  refine lv_iconst (v := 0) hx hb dX3_admit_6 (by decide) ?_
  refine lv_ldc (v := 1000000) hx hb hown (hts (.constant RX3 61 (1000000)) (by decide +kernel)) dX3_admit_7 ?_
  refine va_csv (W.runS (As := [.int (x), .int (0), .int ((1000000))]) (rest := []) ⟨hx, hb, hml, hown, hts⟩ (c_X3_requireRange_ok ll x 0 ((1000000)) hqx) (va_cwS 3 hts gX3_admit_X3_requireRange rfl rfl rfl (by decide +kernel) ⟨Nat.le_of_ble_eq_true rfl, Nat.le_of_ble_eq_true rfl⟩) ⟨PT.blind, PT.to⟩ rfl rfl hl.1 rfl (lv_room (Nat.le_of_ble_eq_true rfl)) dX3_admit_9 ⟨Nat.le_of_ble_eq_true rfl, Nat.le_of_ble_eq_true rfl⟩) (fun _ => ?_)
  refine lv_aload_n hx hb dX3_admit_12 rfl (lv_at hl 0 rfl) ?_
  refine va_get (D := D) (ci := 3) (v := .ref (a 3)) (C := RX3) (T := TX3) (N := 6) (Ts := wsX30) hx hb hin (fun _ h9 => h9) hown hK hP 0 rfl rfl 2 (by decide) (hts (.fieldLink RX3 26 "Groupbooks" "balances" "LGroupbooks$Balances;") (by decide +kernel)) (fun _ h9 => h9) rfl dX3_admit_13 ?_
  refine lv_iload_n hx hb dX3_admit_16 rfl (lv_at hl 2 rfl) ?_
  refine lv_iload_n hx hb dX3_admit_17 rfl (lv_at hl 1 rfl) ?_
  refine lv_iload_n hx hb dX3_admit_18 rfl (lv_at hl 3 rfl) ?_
  refine b_calli0 (S := Unit) (w' := fun u => GW a cI cJ p nu de eq am nx oA oD oE oP cR aR hR cl (upd ad (6 * c + o) x) gw pr n) hP hD hS hA (va_runVN (As := [.int (nI (c)), .int (nI (o)), .int (x)]) (rest := []) ⟨hx, hb, hml, hown, hts⟩ (c_X0_replaceAdmitted ll D a cI cJ _ p nu de eq am nx oA oD oE oP cR aR hR cl ad gw pr n c o x (by omega) (by omega)) ⟨va_cnB 3 hts gX3_admit_X0_replaceAdmitted_n111 rfl rfl rfl (hE.nest 24 rfl) (hts (.initialized RX0) (by decide +kernel)) (by decide +kernel) ⟨Nat.le_of_ble_eq_true rfl, Nat.le_of_ble_eq_true rfl⟩, hts (.instanceMethod yX0_replaceAdmitted) (by decide +kernel), hts (.selects RX0 yX0_replaceAdmitted yX0_replaceAdmitted) (by decide +kernel)⟩ ⟨PW.blind, va_recv hK hP (ci := 0) (q0 := 3) rfl rfl, PW.go hP hK hD hE⟩ rfl rfl hl.1 rfl (lv_room (Nat.le_of_ble_eq_true rfl)) dX3_admit_19 ⟨Nat.le_of_ble_eq_true rfl, Nat.le_of_ble_eq_true rfl⟩) (fun r_2 u H locs h_1 hP hD hS => ?_)
  have h_1 : r_2 = ad (6 * c + o) := h_1
  subst h_1
  exact W.iret hx hb hr (fun t ht hW => ⟨⟨_, (), rfl, rfl, (by rw [ht]; exact hP), va_K.moved hW.alike hK, hD⟩, hS.F ht⟩) hS.2.2 dX3_admit_22

abbrev rmX3_claim_bad : Room := ({ frames := 9, cells := 1, slots := 6, locals := 145 } : Room)
set_option maxHeartbeats 4000000 in
set_option maxRecDepth 100000 in
theorem c_X3_claim_bad (ll : Launch) (hst : ll.stackTraces = false) (D : va_G) (a : Nat → Nat) (cI cJ : ClassId) (sz : Nat) (p : Nat → Int32) (nu de eq : Nat → Int64) (am nx oA oD oE oP cR aR hR cl ad gw pr : Nat → Int32) (n : Int32) (x0 x1 x : Int32) (hbad : ¬ (prB x0 x1 = true ∧ inB x 0 1000000 = true)) : vx_Met ll yX3_claim wsX3_claim rmX3_claim_bad (va_Pc [.ref (a 0), .int (x0), .int (x1), .int (x)] (PY D (tyG cI cJ) (GW a cI cJ p nu de eq am nx oA oD oE oP cR aR hR cl ad gw pr n) sz)) (va_Qi (fun (_ : Int32) (_ : Unit) => False) (fun _ _ => True) (va_A (GW a cI cJ p nu de eq am nx oA oD oE oP cR aR hR cl ad gw pr n) sz)) (XEA D (tyG cI cJ) (va_A (GW a cI cJ p nu de eq am nx oA oD oE oP cR aR hR cl ad gw pr n) sz) (fun u : Unit => GW a cI cJ p nu de eq am nx oA oD oE oP cR aR hR cl ad gw pr n) RIA) 1 6 (va_A (GW a cI cJ p nu de eq am nx oA oD oE oP cR aR hR cl ad gw pr n) sz) := by
  refine vx_ofW (cc := cX3_claim) (maxL := 4) (ret := (some .int)) (by decide) rfl ?_
  intro pp ee ss mm ar bel mth cde s₁ B hml hno hv
  obtain ⟨rfl, ⟨hsz, hP, hK, hD0, hE, hV⟩, hDC⟩ := hv
  have hx := B.exec
  have hb := B.bytes
  have hr := B.returns
  have hts := atoms_spec (ws := wsX3_claim) B.pre
  have hown : ss.vm.findClass RX3 = some mm.cls := findClass_of_methodNamed B.named
  have hlocks := B.notSynchronized
  subst hsz
  have hD := hD0.self (sz := ss.heap.size)
  generalize hAe : va_A (GW a cI cJ p nu de eq am nx oA oD oE oP cR aR hR cl ad gw pr n) ss.heap.size = A at hD hV ⊢
  have hA : ∀ q : Nat, ss.heap.size ≤ q → A q := fun q h => by rw [← hAe]; exact Or.inr h
  have hS : va_S A ss.heap ss.heap [] := va_S.rf
  have hin : ∀ w ∈ wsX30, w.before ([.ref (a 0), .int (x0), .int (x1), .int (x)] : List Value).toArray ss = true := fun w h => hts w ((by decide +kernel : ∀ w ∈ wsX30, w ∈ wsX3_claim) w h)
  have hl := lv_entry [.ref (a 0), .int (x0), .int (x1), .int (x)] (n := 4) (Nat.le_of_ble_eq_true rfl)
  rw [lg_entry_eq]
  generalize (lg_sl [.ref (a 0), .int (x0), .int (x1), .int (x)] ++ List.replicate (4 - (lg_sl [.ref (a 0), .int (x0), .int (x1), .int (x)]).length) Slot.unset).toArray = ls at hl ⊢
  have hl : lv_has ls 4 [(0, .ref (a 0)), (1, .int (x0)), (2, .int (x1)), (3, .int (x))] := hl
  refine lv_iload_n hx hb dX3_claim_0 rfl (lv_at hl 1 rfl) ?_
  refine lv_iload_n hx hb dX3_claim_1 rfl (lv_at hl 2 rfl) ?_
  by_cases q_1 : prB x0 x1 = true
  · refine va_csv (W.runS (As := [.int (x0), .int (x1)]) (rest := []) ⟨hx, hb, hml, hown, hts⟩ (c_X3_requireTwoCompanies_ok ll x0 x1 q_1) (va_cwS 2 hts gX3_claim_X3_requireTwoCompanies rfl rfl rfl (by decide +kernel) ⟨Nat.le_of_ble_eq_true rfl, Nat.le_of_ble_eq_true rfl⟩) ⟨PT.blind, PT.to⟩ rfl rfl hl.1 rfl (lv_room (Nat.le_of_ble_eq_true rfl)) dX3_claim_2 ⟨Nat.le_of_ble_eq_true rfl, Nat.le_of_ble_eq_true rfl⟩) (fun _ => ?_)
    refine lv_iload_n hx hb dX3_claim_5 rfl (lv_at hl 3 rfl) ?_
    refine lv_iconst (v := 0) hx hb dX3_claim_6 (by decide) ?_
    refine lv_ldc (v := 1000000) hx hb hown (hts (.constant RX3 61 (1000000)) (by decide +kernel)) dX3_claim_7 ?_
    by_cases q_2 : inB x 0 ((1000000)) = true
    · refine va_csv (W.runS (As := [.int (x), .int (0), .int ((1000000))]) (rest := []) ⟨hx, hb, hml, hown, hts⟩ (c_X3_requireRange_ok ll x 0 ((1000000)) q_2) (va_cwS 3 hts gX3_claim_X3_requireRange rfl rfl rfl (by decide +kernel) ⟨Nat.le_of_ble_eq_true rfl, Nat.le_of_ble_eq_true rfl⟩) ⟨PT.blind, PT.to⟩ rfl rfl hl.1 rfl (lv_room (Nat.le_of_ble_eq_true rfl)) dX3_claim_9 ⟨Nat.le_of_ble_eq_true rfl, Nat.le_of_ble_eq_true rfl⟩) (fun _ => ?_)
      exact absurd ⟨q_1, q_2⟩ hbad
    · refine b_bad (S := Unit) () rfl hno hlocks hP hK hD hS hA (vx_runS (As := [.int (x), .int (0), .int ((1000000))]) (rest := []) ⟨hx, hb, hml, hown, hts⟩ (c_X3_requireRange_bad ll hst D _ x 0 ((1000000)) q_2) (va_cwS 3 hts gX3_claim_X3_requireRange rfl rfl rfl (by decide +kernel) ⟨Nat.le_of_ble_eq_true rfl, Nat.le_of_ble_eq_true rfl⟩) ⟨PY.blind, PY.go0 hK hE hV hDC hS hA⟩ rfl rfl hl.1 rfl (lv_room (Nat.le_of_ble_eq_true rfl)) dX3_claim_9 ⟨Nat.le_of_ble_eq_true rfl, Nat.le_of_ble_eq_true rfl⟩)
  · refine b_bad (S := Unit) () rfl hno hlocks hP hK hD hS hA (vx_runS (As := [.int (x0), .int (x1)]) (rest := []) ⟨hx, hb, hml, hown, hts⟩ (c_X3_requireTwoCompanies_bad ll hst D _ x0 x1 q_1) (va_cwS 2 hts gX3_claim_X3_requireTwoCompanies rfl rfl rfl (by decide +kernel) ⟨Nat.le_of_ble_eq_true rfl, Nat.le_of_ble_eq_true rfl⟩) ⟨PY.blind, PY.go0 hK hE hV hDC hS hA⟩ rfl rfl hl.1 rfl (lv_room (Nat.le_of_ble_eq_true rfl)) dX3_claim_2 ⟨Nat.le_of_ble_eq_true rfl, Nat.le_of_ble_eq_true rfl⟩)

abbrev rmX3_admit_bad : Room := ({ frames := 9, cells := 1, slots := 6, locals := 145 } : Room)
set_option maxHeartbeats 4000000 in
set_option maxRecDepth 100000 in
theorem c_X3_admit_bad (ll : Launch) (hst : ll.stackTraces = false) (D : va_G) (a : Nat → Nat) (cI cJ : ClassId) (sz : Nat) (p : Nat → Int32) (nu de eq : Nat → Int64) (am nx oA oD oE oP cR aR hR cl ad gw pr : Nat → Int32) (n : Int32) (x0 x1 x : Int32) (hbad : ¬ (prB x0 x1 = true ∧ inB x 0 1000000 = true)) : vx_Met ll yX3_admit wsX3_admit rmX3_admit_bad (va_Pc [.ref (a 0), .int (x0), .int (x1), .int (x)] (PY D (tyG cI cJ) (GW a cI cJ p nu de eq am nx oA oD oE oP cR aR hR cl ad gw pr n) sz)) (va_Qi (fun (_ : Int32) (_ : Unit) => False) (fun _ _ => True) (va_A (GW a cI cJ p nu de eq am nx oA oD oE oP cR aR hR cl ad gw pr n) sz)) (XEA D (tyG cI cJ) (va_A (GW a cI cJ p nu de eq am nx oA oD oE oP cR aR hR cl ad gw pr n) sz) (fun u : Unit => GW a cI cJ p nu de eq am nx oA oD oE oP cR aR hR cl ad gw pr n) RIA) 1 6 (va_A (GW a cI cJ p nu de eq am nx oA oD oE oP cR aR hR cl ad gw pr n) sz) := by
  refine vx_ofW (cc := cX3_admit) (maxL := 4) (ret := (some .int)) (by decide) rfl ?_
  intro pp ee ss mm ar bel mth cde s₁ B hml hno hv
  obtain ⟨rfl, ⟨hsz, hP, hK, hD0, hE, hV⟩, hDC⟩ := hv
  have hx := B.exec
  have hb := B.bytes
  have hr := B.returns
  have hts := atoms_spec (ws := wsX3_admit) B.pre
  have hown : ss.vm.findClass RX3 = some mm.cls := findClass_of_methodNamed B.named
  have hlocks := B.notSynchronized
  subst hsz
  have hD := hD0.self (sz := ss.heap.size)
  generalize hAe : va_A (GW a cI cJ p nu de eq am nx oA oD oE oP cR aR hR cl ad gw pr n) ss.heap.size = A at hD hV ⊢
  have hA : ∀ q : Nat, ss.heap.size ≤ q → A q := fun q h => by rw [← hAe]; exact Or.inr h
  have hS : va_S A ss.heap ss.heap [] := va_S.rf
  have hin : ∀ w ∈ wsX30, w.before ([.ref (a 0), .int (x0), .int (x1), .int (x)] : List Value).toArray ss = true := fun w h => hts w ((by decide +kernel : ∀ w ∈ wsX30, w ∈ wsX3_admit) w h)
  have hl := lv_entry [.ref (a 0), .int (x0), .int (x1), .int (x)] (n := 4) (Nat.le_of_ble_eq_true rfl)
  rw [lg_entry_eq]
  generalize (lg_sl [.ref (a 0), .int (x0), .int (x1), .int (x)] ++ List.replicate (4 - (lg_sl [.ref (a 0), .int (x0), .int (x1), .int (x)]).length) Slot.unset).toArray = ls at hl ⊢
  have hl : lv_has ls 4 [(0, .ref (a 0)), (1, .int (x0)), (2, .int (x1)), (3, .int (x))] := hl
  refine lv_iload_n hx hb dX3_admit_0 rfl (lv_at hl 1 rfl) ?_
  refine lv_iload_n hx hb dX3_admit_1 rfl (lv_at hl 2 rfl) ?_
  by_cases q_1 : prB x0 x1 = true
  · refine va_csv (W.runS (As := [.int (x0), .int (x1)]) (rest := []) ⟨hx, hb, hml, hown, hts⟩ (c_X3_requireTwoCompanies_ok ll x0 x1 q_1) (va_cwS 2 hts gX3_admit_X3_requireTwoCompanies rfl rfl rfl (by decide +kernel) ⟨Nat.le_of_ble_eq_true rfl, Nat.le_of_ble_eq_true rfl⟩) ⟨PT.blind, PT.to⟩ rfl rfl hl.1 rfl (lv_room (Nat.le_of_ble_eq_true rfl)) dX3_admit_2 ⟨Nat.le_of_ble_eq_true rfl, Nat.le_of_ble_eq_true rfl⟩) (fun _ => ?_)
    refine lv_iload_n hx hb dX3_admit_5 rfl (lv_at hl 3 rfl) ?_
    refine lv_iconst (v := 0) hx hb dX3_admit_6 (by decide) ?_
    refine lv_ldc (v := 1000000) hx hb hown (hts (.constant RX3 61 (1000000)) (by decide +kernel)) dX3_admit_7 ?_
    by_cases q_2 : inB x 0 ((1000000)) = true
    · refine va_csv (W.runS (As := [.int (x), .int (0), .int ((1000000))]) (rest := []) ⟨hx, hb, hml, hown, hts⟩ (c_X3_requireRange_ok ll x 0 ((1000000)) q_2) (va_cwS 3 hts gX3_admit_X3_requireRange rfl rfl rfl (by decide +kernel) ⟨Nat.le_of_ble_eq_true rfl, Nat.le_of_ble_eq_true rfl⟩) ⟨PT.blind, PT.to⟩ rfl rfl hl.1 rfl (lv_room (Nat.le_of_ble_eq_true rfl)) dX3_admit_9 ⟨Nat.le_of_ble_eq_true rfl, Nat.le_of_ble_eq_true rfl⟩) (fun _ => ?_)
      exact absurd ⟨q_1, q_2⟩ hbad
    · refine b_bad (S := Unit) () rfl hno hlocks hP hK hD hS hA (vx_runS (As := [.int (x), .int (0), .int ((1000000))]) (rest := []) ⟨hx, hb, hml, hown, hts⟩ (c_X3_requireRange_bad ll hst D _ x 0 ((1000000)) q_2) (va_cwS 3 hts gX3_admit_X3_requireRange rfl rfl rfl (by decide +kernel) ⟨Nat.le_of_ble_eq_true rfl, Nat.le_of_ble_eq_true rfl⟩) ⟨PY.blind, PY.go0 hK hE hV hDC hS hA⟩ rfl rfl hl.1 rfl (lv_room (Nat.le_of_ble_eq_true rfl)) dX3_admit_9 ⟨Nat.le_of_ble_eq_true rfl, Nat.le_of_ble_eq_true rfl⟩)
  · refine b_bad (S := Unit) () rfl hno hlocks hP hK hD hS hA (vx_runS (As := [.int (x0), .int (x1)]) (rest := []) ⟨hx, hb, hml, hown, hts⟩ (c_X3_requireTwoCompanies_bad ll hst D _ x0 x1 q_1) (va_cwS 2 hts gX3_admit_X3_requireTwoCompanies rfl rfl rfl (by decide +kernel) ⟨Nat.le_of_ble_eq_true rfl, Nat.le_of_ble_eq_true rfl⟩) ⟨PY.blind, PY.go0 hK hE hV hDC hS hA⟩ rfl rfl hl.1 rfl (lv_room (Nat.le_of_ble_eq_true rfl)) dX3_admit_2 ⟨Nat.le_of_ble_eq_true rfl, Nat.le_of_ble_eq_true rfl⟩)

abbrev rmX3_difference : Room := ({ frames := 3, cells := 0, slots := 0, locals := 63 } : Room)
set_option maxHeartbeats 4000000 in
set_option maxRecDepth 100000 in
theorem c_X3_difference (ll : Launch) (D : va_G) (a : Nat → Nat) (cI cJ : ClassId) (p : Nat → Int32) (nu de eq : Nat → Int64) (am nx oA oD oE oP cR aR hR cl ad gw pr : Nat → Int32) (n : Int32) (o c : Nat) (ho : o < 6) (hc : c < 6) (hpr : prB (nI o) (nI c) = true) : Met ll yX3_difference wsX3_difference rmX3_difference (va_Pc [.ref (a 0), .int (nI (o)), .int (nI (c))] (PR D (tyG cI cJ) (GW a cI cJ p nu de eq am nx oA oD oE oP cR aR hR cl ad gw pr n))) (vp_Si (fun rr => rr = cl (6 * o + c) - ad (6 * o + c))) 0 0 (fun _ => False) := by
  refine Met.ofW (cc := cX3_difference) (maxL := 3) (ret := (some .int)) (by decide) rfl ?_
  intro pp ee ss mm ar bel mth cde s₁ B hml hv
  obtain ⟨rfl, hP, hK, hE⟩ := hv
  have hx := B.exec
  have hb := B.bytes
  have hr := B.returns
  have hts := atoms_spec (ws := wsX3_difference) B.pre
  have hown : ss.vm.findClass RX3 = some mm.cls := findClass_of_methodNamed B.named
  have hlocks := B.notSynchronized
  have hin : ∀ w ∈ wsX30, w.before ([.ref (a 0), .int (nI (o)), .int (nI (c))] : List Value).toArray ss = true := fun w h => hts w ((by decide +kernel : ∀ w ∈ wsX30, w ∈ wsX3_difference) w h)
  have hl := lv_entry [.ref (a 0), .int (nI (o)), .int (nI (c))] (n := 3) (Nat.le_of_ble_eq_true rfl)
  rw [lg_entry_eq]
  generalize (lg_sl [.ref (a 0), .int (nI (o)), .int (nI (c))] ++ List.replicate (3 - (lg_sl [.ref (a 0), .int (nI (o)), .int (nI (c))]).length) Slot.unset).toArray = ls at hl ⊢
  have hl : lv_has ls 3 [(0, .ref (a 0)), (1, .int (nI (o))), (2, .int (nI (c)))] := hl
  refine lv_iload_n hx hb dX3_difference_0 rfl (lv_at hl 1 rfl) ?_
  refine lv_iload_n hx hb dX3_difference_1 rfl (lv_at hl 2 rfl) ?_
  refine va_csv (W.runS (As := [.int (nI (o)), .int (nI (c))]) (rest := []) ⟨hx, hb, hml, hown, hts⟩ (c_X3_requireTwoCompanies_ok ll (nI (o)) (nI (c)) hpr) (va_cwS 2 hts gX3_difference_X3_requireTwoCompanies rfl rfl rfl (by decide +kernel) ⟨Nat.le_of_ble_eq_true rfl, Nat.le_of_ble_eq_true rfl⟩) ⟨PT.blind, PT.to⟩ rfl rfl hl.1 rfl (lv_room (Nat.le_of_ble_eq_true rfl)) dX3_difference_2 ⟨Nat.le_of_ble_eq_true rfl, Nat.le_of_ble_eq_true rfl⟩) (fun _ => ?_)
  refine lv_aload_n hx hb dX3_difference_5 rfl (lv_at hl 0 rfl) ?_
  refine va_get (D := D) (ci := 3) (v := .ref (a 3)) (C := RX3) (T := TX3) (N := 6) (Ts := wsX30) hx hb hin (fun _ h9 => h9) hown hK hP 0 rfl rfl 2 (by decide) (hts (.fieldLink RX3 26 "Groupbooks" "balances" "LGroupbooks$Balances;") (by decide +kernel)) (fun _ h9 => h9) rfl dX3_difference_6 ?_
  refine lv_iload_n hx hb dX3_difference_9 rfl (lv_at hl 1 rfl) ?_
  refine lv_iload_n hx hb dX3_difference_10 rfl (lv_at hl 2 rfl) ?_
  refine b_csi (v := cl (6 * o + c) - ad (6 * o + c)) ((va_runVN (As := [.int (nI (o)), .int (nI (c))]) (rest := []) ⟨hx, hb, hml, hown, hts⟩ (c_X0_disputed ll D a cI cJ p nu de eq am nx oA oD oE oP cR aR hR cl ad gw pr n o c (by omega) (by omega)) ⟨va_cnB 2 hts gX3_difference_X0_disputed_n114 rfl rfl rfl (hE.nest 25 rfl) (hts (.initialized RX0) (by decide +kernel)) (by decide +kernel) ⟨Nat.le_of_ble_eq_true rfl, Nat.le_of_ble_eq_true rfl⟩, hts (.instanceMethod yX0_disputed) (by decide +kernel), hts (.selects RX0 yX0_disputed yX0_disputed) (by decide +kernel)⟩ ⟨PR.blind, va_recv hK hP (ci := 0) (q0 := 3) rfl rfl, PR.go hP hK hE⟩ rfl rfl hl.1 rfl (lv_room (Nat.le_of_ble_eq_true rfl)) dX3_difference_11 ⟨Nat.le_of_ble_eq_true rfl, Nat.le_of_ble_eq_true rfl⟩).run) ?_
  exact W.iret hx hb hr (fun t ht _ => ⟨_, rfl, rfl, ht⟩) (fun _ h => nomatch h) dX3_difference_14

abbrev rmX3_difference_bad : Room := ({ frames := 9, cells := 1, slots := 6, locals := 145 } : Room)
set_option maxHeartbeats 4000000 in
set_option maxRecDepth 100000 in
theorem c_X3_difference_bad (ll : Launch) (hst : ll.stackTraces = false) (D : va_G) (a : Nat → Nat) (cI cJ : ClassId) (sz : Nat) (p : Nat → Int32) (nu de eq : Nat → Int64) (am nx oA oD oE oP cR aR hR cl ad gw pr : Nat → Int32) (n : Int32) (x0 x1 : Int32) (hbad : ¬ prB x0 x1 = true) : vx_Met ll yX3_difference wsX3_difference rmX3_difference_bad (va_Pc [.ref (a 0), .int (x0), .int (x1)] (PY D (tyG cI cJ) (GW a cI cJ p nu de eq am nx oA oD oE oP cR aR hR cl ad gw pr n) sz)) (va_Qi (fun (_ : Int32) (_ : Unit) => False) (fun _ _ => True) (va_A (GW a cI cJ p nu de eq am nx oA oD oE oP cR aR hR cl ad gw pr n) sz)) (XEA D (tyG cI cJ) (va_A (GW a cI cJ p nu de eq am nx oA oD oE oP cR aR hR cl ad gw pr n) sz) (fun u : Unit => GW a cI cJ p nu de eq am nx oA oD oE oP cR aR hR cl ad gw pr n) RIA) 1 6 (va_A (GW a cI cJ p nu de eq am nx oA oD oE oP cR aR hR cl ad gw pr n) sz) := by
  refine vx_ofW (cc := cX3_difference) (maxL := 3) (ret := (some .int)) (by decide) rfl ?_
  intro pp ee ss mm ar bel mth cde s₁ B hml hno hv
  obtain ⟨rfl, ⟨hsz, hP, hK, hD0, hE, hV⟩, hDC⟩ := hv
  have hx := B.exec
  have hb := B.bytes
  have hr := B.returns
  have hts := atoms_spec (ws := wsX3_difference) B.pre
  have hown : ss.vm.findClass RX3 = some mm.cls := findClass_of_methodNamed B.named
  have hlocks := B.notSynchronized
  subst hsz
  have hD := hD0.self (sz := ss.heap.size)
  generalize hAe : va_A (GW a cI cJ p nu de eq am nx oA oD oE oP cR aR hR cl ad gw pr n) ss.heap.size = A at hD hV ⊢
  have hA : ∀ q : Nat, ss.heap.size ≤ q → A q := fun q h => by rw [← hAe]; exact Or.inr h
  have hS : va_S A ss.heap ss.heap [] := va_S.rf
  have hin : ∀ w ∈ wsX30, w.before ([.ref (a 0), .int (x0), .int (x1)] : List Value).toArray ss = true := fun w h => hts w ((by decide +kernel : ∀ w ∈ wsX30, w ∈ wsX3_difference) w h)
  have hl := lv_entry [.ref (a 0), .int (x0), .int (x1)] (n := 3) (Nat.le_of_ble_eq_true rfl)
  rw [lg_entry_eq]
  generalize (lg_sl [.ref (a 0), .int (x0), .int (x1)] ++ List.replicate (3 - (lg_sl [.ref (a 0), .int (x0), .int (x1)]).length) Slot.unset).toArray = ls at hl ⊢
  have hl : lv_has ls 3 [(0, .ref (a 0)), (1, .int (x0)), (2, .int (x1))] := hl
  refine lv_iload_n hx hb dX3_difference_0 rfl (lv_at hl 1 rfl) ?_
  refine lv_iload_n hx hb dX3_difference_1 rfl (lv_at hl 2 rfl) ?_
  refine b_bad (S := Unit) () rfl hno hlocks hP hK hD hS hA (vx_runS (As := [.int (x0), .int (x1)]) (rest := []) ⟨hx, hb, hml, hown, hts⟩ (c_X3_requireTwoCompanies_bad ll hst D _ x0 x1 hbad) (va_cwS 2 hts gX3_difference_X3_requireTwoCompanies rfl rfl rfl (by decide +kernel) ⟨Nat.le_of_ble_eq_true rfl, Nat.le_of_ble_eq_true rfl⟩) ⟨PY.blind, PY.go0 hK hE hV hDC hS hA⟩ rfl rfl hl.1 rfl (lv_room (Nat.le_of_ble_eq_true rfl)) dX3_difference_2 ⟨Nat.le_of_ble_eq_true rfl, Nat.le_of_ble_eq_true rfl⟩)
