abbrev rmX3_hold : Room := ({ frames := 5, cells := 0, slots := 0, locals := 130 } : Room)
set_option maxHeartbeats 4000000 in
set_option maxRecDepth 100000 in
theorem c_X3_hold (ll : Launch) (D : va_G) (a : Nat → Nat) (cI cJ : ClassId) (sz : Nat) (p : Nat → Int32) (nu de eq : Nat → Int64) (am nx oA oD oE oP cR aR hR cl ad gw pr : Nat → Int32) (n : Int32) (o c : Nat) (x : Int32) (ho : o < 6) (hc : c < 6) (hpr : prB (nI o) (nI c) = true) (hqx : inB x 0 100 = true) (htk : tkOK p eq o c x) : Met ll yX3_hold wsX3_hold rmX3_hold (va_Pc [.ref (a 0), .int (nI (o)), .int (nI (c)), .int (x)] (PW D (tyG cI cJ) (GW a cI cJ p nu de eq am nx oA oD oE oP cR aR hR cl ad gw pr n) sz)) (va_Qi (fun (rr : Int32) (u : Nat → Int64) => rr = p (6 * o + c)) (fun (u : Nat → Int64) t => AW D (tyG cI cJ) (va_A (GW a cI cJ p nu de eq am nx oA oD oE oP cR aR hR cl ad gw pr n) sz) (GW a cI cJ (upd p (6 * o + c) x) (ksN (ds (weO (upd p (6 * o + c) x) eq 5) 5).1 (ds (weO (upd p (6 * o + c) x) eq 5) 5).2 nu 5) (ksD (ds (weO (upd p (6 * o + c) x) eq 5) 5).1 (ds (weO (upd p (6 * o + c) x) eq 5) 5).2 de 5) u am nx oA oD oE oP cR aR hR cl ad gw pr n) t) (va_A (GW a cI cJ p nu de eq am nx oA oD oE oP cR aR hR cl ad gw pr n) sz)) 0 0 (va_A (GW a cI cJ p nu de eq am nx oA oD oE oP cR aR hR cl ad gw pr n) sz) := by
  refine Met.ofW (cc := cX3_hold) (maxL := 5) (ret := (some .int)) (by decide) rfl ?_
  intro pp ee ss mm ar bel mth cde s₁ B hml hv
  obtain ⟨rfl, hsz, hP, hK, hD0, hE⟩ := hv
  have hx := B.exec
  have hb := B.bytes
  have hr := B.returns
  have hts := atoms_spec (ws := wsX3_hold) B.pre
  have hown : ss.vm.findClass RX3 = some mm.cls := findClass_of_methodNamed B.named
  have hlocks := B.notSynchronized
  subst hsz
  have hD := hD0.self (sz := ss.heap.size)
  generalize hAe : va_A (GW a cI cJ p nu de eq am nx oA oD oE oP cR aR hR cl ad gw pr n) ss.heap.size = A at hD ⊢
  have hA : ∀ q : Nat, ss.heap.size ≤ q → A q := fun q h => by rw [← hAe]; exact Or.inr h
  have hS : va_S A ss.heap ss.heap [] := va_S.rf
  have hin : ∀ w ∈ wsX30, w.before ([.ref (a 0), .int (nI (o)), .int (nI (c)), .int (x)] : List Value).toArray ss = true := fun w h => hts w ((by decide +kernel : ∀ w ∈ wsX30, w ∈ wsX3_hold) w h)
  have hl := lv_entry [.ref (a 0), .int (nI (o)), .int (nI (c)), .int (x)] (n := 5) (Nat.le_of_ble_eq_true rfl)
  rw [lg_entry_eq]
  generalize (lg_sl [.ref (a 0), .int (nI (o)), .int (nI (c)), .int (x)] ++ List.replicate (5 - (lg_sl [.ref (a 0), .int (nI (o)), .int (nI (c)), .int (x)]).length) Slot.unset).toArray = ls at hl ⊢
  have hl : lv_has ls 5 [(0, .ref (a 0)), (1, .int (nI (o))), (2, .int (nI (c))), (3, .int (x))] := hl
  refine lv_iload_n hx hb dX3_hold_0 rfl (lv_at hl 1 rfl) ?_
  refine lv_iload_n hx hb dX3_hold_1 rfl (lv_at hl 2 rfl) ?_
  refine va_csv (W.runS (As := [.int (nI (o)), .int (nI (c))]) (rest := []) ⟨hx, hb, hml, hown, hts⟩ (c_X3_requireTwoCompanies_ok ll (nI (o)) (nI (c)) hpr) (va_cwS 2 hts gX3_hold_X3_requireTwoCompanies rfl rfl rfl (by decide +kernel) ⟨Nat.le_of_ble_eq_true rfl, Nat.le_of_ble_eq_true rfl⟩) ⟨PT.blind, PT.to⟩ rfl rfl hl.1 rfl (lv_room (Nat.le_of_ble_eq_true rfl)) dX3_hold_2 ⟨Nat.le_of_ble_eq_true rfl, Nat.le_of_ble_eq_true rfl⟩) (fun _ => ?_)
  refine lv_iload_n hx hb dX3_hold_5 rfl (lv_at hl 3 rfl) ?_
  refine lv_iconst (v := 0) hx hb dX3_hold_6 (by decide) ?_
  refine lv_bipush (v := 100) hx hb dX3_hold_7 (by decide) ?_
  refine va_csv (W.runS (As := [.int (x), .int (0), .int (100)]) (rest := []) ⟨hx, hb, hml, hown, hts⟩ (c_X3_requireRange_ok ll x 0 100 hqx) (va_cwS 3 hts gX3_hold_X3_requireRange rfl rfl rfl (by decide +kernel) ⟨Nat.le_of_ble_eq_true rfl, Nat.le_of_ble_eq_true rfl⟩) ⟨PT.blind, PT.to⟩ rfl rfl hl.1 rfl (lv_room (Nat.le_of_ble_eq_true rfl)) dX3_hold_9 ⟨Nat.le_of_ble_eq_true rfl, Nat.le_of_ble_eq_true rfl⟩) (fun _ => ?_)
  refine lv_aload_n hx hb dX3_hold_12 rfl (lv_at hl 0 rfl) ?_
  refine va_get (D := D) (ci := 3) (v := .ref (a 1)) (C := RX3) (T := TX3) (N := 6) (Ts := wsX30) hx hb hin (fun _ h9 => h9) hown hK hP 0 rfl rfl 0 (by decide) (hts (.fieldLink RX3 10 "Groupbooks" "holdings" "LGroupbooks$Holdings;") (by decide +kernel)) (fun _ h9 => h9) rfl dX3_hold_13 ?_
  refine lv_iload_n hx hb dX3_hold_16 rfl (lv_at hl 1 rfl) ?_
  refine lv_iload_n hx hb dX3_hold_17 rfl (lv_at hl 2 rfl) ?_
  refine b_csi (v := p (6 * o + c)) ((va_runVN (As := [.int (nI (o)), .int (nI (c))]) (rest := []) ⟨hx, hb, hml, hown, hts⟩ (c_X2_percentOf ll D a cI cJ p nu de eq am nx oA oD oE oP cR aR hR cl ad gw pr n o c ho hc) ⟨va_cnB 2 hts gX3_hold_X2_percentOf_n49 rfl rfl rfl (hE.nest 15 rfl) (hts (.initialized RX2) (by decide +kernel)) (by decide +kernel) ⟨Nat.le_of_ble_eq_true rfl, Nat.le_of_ble_eq_true rfl⟩, hts (.instanceMethod yX2_percentOf) (by decide +kernel), hts (.selects RX2 yX2_percentOf yX2_percentOf) (by decide +kernel)⟩ ⟨PR.blind, va_recv hK hP (ci := 2) (q0 := 1) rfl rfl, PR.go hP hK hE⟩ rfl rfl hl.1 rfl (lv_room (Nat.le_of_ble_eq_true rfl)) dX3_hold_18 ⟨Nat.le_of_ble_eq_true rfl, Nat.le_of_ble_eq_true rfl⟩).run) ?_
  refine lv_istore (lv' := [(4, .int (p (6 * o + c))), (0, .ref (a 0)), (1, .int (nI (o))), (2, .int (nI (c))), (3, .int (x))]) hx hb dX3_hold_21 hl (by decide) rfl (fun ls hl => ?_)
  refine lv_aload_n hx hb dX3_hold_23 rfl (lv_at hl 1 rfl) ?_
  refine va_get (D := D) (ci := 3) (v := .ref (a 1)) (C := RX3) (T := TX3) (N := 6) (Ts := wsX30) hx hb hin (fun _ h9 => h9) hown hK hP 0 rfl rfl 0 (by decide) (hts (.fieldLink RX3 10 "Groupbooks" "holdings" "LGroupbooks$Holdings;") (by decide +kernel)) (fun _ h9 => h9) rfl dX3_hold_24 ?_
  refine lv_iload_n hx hb dX3_hold_27 rfl (lv_at hl 2 rfl) ?_
  refine lv_iload_n hx hb dX3_hold_28 rfl (lv_at hl 3 rfl) ?_
  refine lv_iload_n hx hb dX3_hold_29 rfl (lv_at hl 4 rfl) ?_
  refine b_calli0 (S := (Nat → Int32) × (Nat → Int64) × (Nat → Int64) × (Nat → Int64)) (w' := fun u_1 => GW a cI cJ (u_1.1) (u_1.2.2.1) (u_1.2.2.2) (u_1.2.1) am nx oA oD oE oP cR aR hR cl ad gw pr n) hP hD hS hA (va_runVN (As := [.int (nI (o)), .int (nI (c)), .int (x)]) (rest := []) ⟨hx, hb, hml, hown, hts⟩ (c_X2_take ll D a cI cJ _ p nu de eq am nx oA oD oE oP cR aR hR cl ad gw pr n o c x ho hc) ⟨va_cnB 3 hts gX3_hold_X2_take_n53 rfl rfl rfl (hE.nest 16 rfl) (hts (.initialized RX2) (by decide +kernel)) (by decide +kernel) ⟨Nat.le_of_ble_eq_true rfl, Nat.le_of_ble_eq_true rfl⟩, hts (.instanceMethod yX2_take) (by decide +kernel), hts (.selects RX2 yX2_take yX2_take) (by decide +kernel)⟩ ⟨PW.blind, va_recv hK hP (ci := 2) (q0 := 1) rfl rfl, PW.go hP hK hD hE⟩ rfl rfl hl.1 rfl (lv_room (Nat.le_of_ble_eq_true rfl)) dX3_hold_30 ⟨Nat.le_of_ble_eq_true rfl, Nat.le_of_ble_eq_true rfl⟩) (fun r_3 u_1 H locs h_2 hP hD hS => ?_)
  obtain ⟨p9, e9, n9, d9⟩ := u_1
  rcases h_2 with ⟨h9a, h9b, h9c, h9d, h9e⟩ | ⟨h9a, h9b, h9c, h9d, h9e⟩
  · dsimp only at h9c h9d h9e hP hD
    subst h9a; rw [h9c, h9d, h9e] at hP hD
    refine va_csv (W.runS (As := [.int (1)]) (rest := []) ⟨hx, hb, hml, hown, hts⟩ (c_X3_requireTaken_ok ll  ) (va_cwS 1 hts gX3_hold_X3_requireTaken rfl rfl rfl (by decide +kernel) ⟨Nat.le_of_ble_eq_true rfl, Nat.le_of_ble_eq_true rfl⟩) ⟨PT.blind, PT.to⟩ rfl rfl hl.1 rfl (lv_room (Nat.le_of_ble_eq_true rfl)) dX3_hold_33 ⟨Nat.le_of_ble_eq_true rfl, Nat.le_of_ble_eq_true rfl⟩) (fun _ => ?_)
    refine lv_iload hx hb dX3_hold_36 (lv_at hl 0 rfl) ?_
    refine W.iret hx hb hr (fun t ht hW => ?_) hS.2.2 dX3_hold_38
    refine ⟨⟨_, (e9), rfl, ?_, ?_, va_K.moved hW.alike hK, ?_⟩, hS.F ht⟩
    · try dsimp only
      all_goals exact rfl
    · rw [ht]
      try dsimp only
      exact hP
    · try dsimp only
      exact hD
  · exact absurd htk h9b

abbrev rmX3_hold_no : Room := ({ frames := 7, cells := 1, slots := 6, locals := 130 } : Room)
set_option maxHeartbeats 4000000 in
set_option maxRecDepth 100000 in
theorem c_X3_hold_no (ll : Launch) (hst : ll.stackTraces = false) (D : va_G) (a : Nat → Nat) (cI cJ : ClassId) (sz : Nat) (p : Nat → Int32) (nu de eq : Nat → Int64) (am nx oA oD oE oP cR aR hR cl ad gw pr : Nat → Int32) (n : Int32) (o c : Nat) (x : Int32) (ho : o < 6) (hc : c < 6) (hpr : prB (nI o) (nI c) = true) (hqx : inB x 0 100 = true) (htk : ¬ tkOK p eq o c x) : vx_Met ll yX3_hold wsX3_hold rmX3_hold_no (va_Pc [.ref (a 0), .int (nI (o)), .int (nI (c)), .int (x)] (PY D (tyG cI cJ) (GW a cI cJ p nu de eq am nx oA oD oE oP cR aR hR cl ad gw pr n) sz)) (va_Qi (fun (_ : Int32) (_ : Unit) => False) (fun _ _ => True) (va_A (GW a cI cJ p nu de eq am nx oA oD oE oP cR aR hR cl ad gw pr n) sz)) (XEA D (tyG cI cJ) (va_A (GW a cI cJ p nu de eq am nx oA oD oE oP cR aR hR cl ad gw pr n) sz) (fun u : Nat → Int64 => GW a cI cJ p nu de u am nx oA oD oE oP cR aR hR cl ad gw pr n) RIS) 1 6 (va_A (GW a cI cJ p nu de eq am nx oA oD oE oP cR aR hR cl ad gw pr n) sz) := by
  refine vx_ofW (cc := cX3_hold) (maxL := 5) (ret := (some .int)) (by decide) rfl ?_
  intro pp ee ss mm ar bel mth cde s₁ B hml hno hv
  obtain ⟨rfl, ⟨hsz, hP, hK, hD0, hE, hV⟩, hDC⟩ := hv
  have hx := B.exec
  have hb := B.bytes
  have hr := B.returns
  have hts := atoms_spec (ws := wsX3_hold) B.pre
  have hown : ss.vm.findClass RX3 = some mm.cls := findClass_of_methodNamed B.named
  have hlocks := B.notSynchronized
  subst hsz
  have hD := hD0.self (sz := ss.heap.size)
  generalize hAe : va_A (GW a cI cJ p nu de eq am nx oA oD oE oP cR aR hR cl ad gw pr n) ss.heap.size = A at hD hV ⊢
  have hA : ∀ q : Nat, ss.heap.size ≤ q → A q := fun q h => by rw [← hAe]; exact Or.inr h
  have hS : va_S A ss.heap ss.heap [] := va_S.rf
  have hin : ∀ w ∈ wsX30, w.before ([.ref (a 0), .int (nI (o)), .int (nI (c)), .int (x)] : List Value).toArray ss = true := fun w h => hts w ((by decide +kernel : ∀ w ∈ wsX30, w ∈ wsX3_hold) w h)
  have hl := lv_entry [.ref (a 0), .int (nI (o)), .int (nI (c)), .int (x)] (n := 5) (Nat.le_of_ble_eq_true rfl)
  rw [lg_entry_eq]
  generalize (lg_sl [.ref (a 0), .int (nI (o)), .int (nI (c)), .int (x)] ++ List.replicate (5 - (lg_sl [.ref (a 0), .int (nI (o)), .int (nI (c)), .int (x)]).length) Slot.unset).toArray = ls at hl ⊢
  have hl : lv_has ls 5 [(0, .ref (a 0)), (1, .int (nI (o))), (2, .int (nI (c))), (3, .int (x))] := hl
  refine lv_iload_n hx hb dX3_hold_0 rfl (lv_at hl 1 rfl) ?_
  refine lv_iload_n hx hb dX3_hold_1 rfl (lv_at hl 2 rfl) ?_
  refine va_csv (W.runS (As := [.int (nI (o)), .int (nI (c))]) (rest := []) ⟨hx, hb, hml, hown, hts⟩ (c_X3_requireTwoCompanies_ok ll (nI (o)) (nI (c)) hpr) (va_cwS 2 hts gX3_hold_X3_requireTwoCompanies rfl rfl rfl (by decide +kernel) ⟨Nat.le_of_ble_eq_true rfl, Nat.le_of_ble_eq_true rfl⟩) ⟨PT.blind, PT.to⟩ rfl rfl hl.1 rfl (lv_room (Nat.le_of_ble_eq_true rfl)) dX3_hold_2 ⟨Nat.le_of_ble_eq_true rfl, Nat.le_of_ble_eq_true rfl⟩) (fun _ => ?_)
  refine lv_iload_n hx hb dX3_hold_5 rfl (lv_at hl 3 rfl) ?_
  refine lv_iconst (v := 0) hx hb dX3_hold_6 (by decide) ?_
  refine lv_bipush (v := 100) hx hb dX3_hold_7 (by decide) ?_
  refine va_csv (W.runS (As := [.int (x), .int (0), .int (100)]) (rest := []) ⟨hx, hb, hml, hown, hts⟩ (c_X3_requireRange_ok ll x 0 100 hqx) (va_cwS 3 hts gX3_hold_X3_requireRange rfl rfl rfl (by decide +kernel) ⟨Nat.le_of_ble_eq_true rfl, Nat.le_of_ble_eq_true rfl⟩) ⟨PT.blind, PT.to⟩ rfl rfl hl.1 rfl (lv_room (Nat.le_of_ble_eq_true rfl)) dX3_hold_9 ⟨Nat.le_of_ble_eq_true rfl, Nat.le_of_ble_eq_true rfl⟩) (fun _ => ?_)
  refine lv_aload_n hx hb dX3_hold_12 rfl (lv_at hl 0 rfl) ?_
  refine va_get (D := D) (ci := 3) (v := .ref (a 1)) (C := RX3) (T := TX3) (N := 6) (Ts := wsX30) hx hb hin (fun _ h9 => h9) hown hK hP 0 rfl rfl 0 (by decide) (hts (.fieldLink RX3 10 "Groupbooks" "holdings" "LGroupbooks$Holdings;") (by decide +kernel)) (fun _ h9 => h9) rfl dX3_hold_13 ?_
  refine lv_iload_n hx hb dX3_hold_16 rfl (lv_at hl 1 rfl) ?_
  refine lv_iload_n hx hb dX3_hold_17 rfl (lv_at hl 2 rfl) ?_
  refine b_csi (v := p (6 * o + c)) ((va_runVN (As := [.int (nI (o)), .int (nI (c))]) (rest := []) ⟨hx, hb, hml, hown, hts⟩ (c_X2_percentOf ll D a cI cJ p nu de eq am nx oA oD oE oP cR aR hR cl ad gw pr n o c ho hc) ⟨va_cnB 2 hts gX3_hold_X2_percentOf_n49 rfl rfl rfl (hE.nest 15 rfl) (hts (.initialized RX2) (by decide +kernel)) (by decide +kernel) ⟨Nat.le_of_ble_eq_true rfl, Nat.le_of_ble_eq_true rfl⟩, hts (.instanceMethod yX2_percentOf) (by decide +kernel), hts (.selects RX2 yX2_percentOf yX2_percentOf) (by decide +kernel)⟩ ⟨PR.blind, va_recv hK hP (ci := 2) (q0 := 1) rfl rfl, PR.go hP hK hE⟩ rfl rfl hl.1 rfl (lv_room (Nat.le_of_ble_eq_true rfl)) dX3_hold_18 ⟨Nat.le_of_ble_eq_true rfl, Nat.le_of_ble_eq_true rfl⟩).run) ?_
  refine lv_istore (lv' := [(4, .int (p (6 * o + c))), (0, .ref (a 0)), (1, .int (nI (o))), (2, .int (nI (c))), (3, .int (x))]) hx hb dX3_hold_21 hl (by decide) rfl (fun ls hl => ?_)
  refine lv_aload_n hx hb dX3_hold_23 rfl (lv_at hl 1 rfl) ?_
  refine va_get (D := D) (ci := 3) (v := .ref (a 1)) (C := RX3) (T := TX3) (N := 6) (Ts := wsX30) hx hb hin (fun _ h9 => h9) hown hK hP 0 rfl rfl 0 (by decide) (hts (.fieldLink RX3 10 "Groupbooks" "holdings" "LGroupbooks$Holdings;") (by decide +kernel)) (fun _ h9 => h9) rfl dX3_hold_24 ?_
  refine lv_iload_n hx hb dX3_hold_27 rfl (lv_at hl 2 rfl) ?_
  refine lv_iload_n hx hb dX3_hold_28 rfl (lv_at hl 3 rfl) ?_
  refine lv_iload_n hx hb dX3_hold_29 rfl (lv_at hl 4 rfl) ?_
  refine b_calli0 (S := (Nat → Int32) × (Nat → Int64) × (Nat → Int64) × (Nat → Int64)) (w' := fun u_1 => GW a cI cJ (u_1.1) (u_1.2.2.1) (u_1.2.2.2) (u_1.2.1) am nx oA oD oE oP cR aR hR cl ad gw pr n) hP hD hS hA (va_runVN (As := [.int (nI (o)), .int (nI (c)), .int (x)]) (rest := []) ⟨hx, hb, hml, hown, hts⟩ (c_X2_take ll D a cI cJ _ p nu de eq am nx oA oD oE oP cR aR hR cl ad gw pr n o c x ho hc) ⟨va_cnB 3 hts gX3_hold_X2_take_n53 rfl rfl rfl (hE.nest 16 rfl) (hts (.initialized RX2) (by decide +kernel)) (by decide +kernel) ⟨Nat.le_of_ble_eq_true rfl, Nat.le_of_ble_eq_true rfl⟩, hts (.instanceMethod yX2_take) (by decide +kernel), hts (.selects RX2 yX2_take yX2_take) (by decide +kernel)⟩ ⟨PW.blind, va_recv hK hP (ci := 2) (q0 := 1) rfl rfl, PW.go hP hK hD hE⟩ rfl rfl hl.1 rfl (lv_room (Nat.le_of_ble_eq_true rfl)) dX3_hold_30 ⟨Nat.le_of_ble_eq_true rfl, Nat.le_of_ble_eq_true rfl⟩) (fun r_3 u_1 H locs h_2 hP hD hS => ?_)
  obtain ⟨p9, e9, n9, d9⟩ := u_1
  rcases h_2 with ⟨h9a, h9b, h9c, h9d, h9e⟩ | ⟨h9a, h9b, h9c, h9d, h9e⟩
  · exact absurd h9b htk
  · dsimp only at h9c h9d h9e hP hD
    subst h9a; rw [h9c, h9d, h9e] at hP hD
    refine b_bad (S := Nat → Int64) e9 rfl hno hlocks hP hK hD hS hA (vx_runS (As := [.int (0)]) (rest := []) ⟨hx, hb, hml, hown, hts⟩ (c_X3_requireTaken_bad ll hst D _  ) (va_cwS 1 hts gX3_hold_X3_requireTaken rfl rfl rfl (by decide +kernel) ⟨Nat.le_of_ble_eq_true rfl, Nat.le_of_ble_eq_true rfl⟩) ⟨PY.blind, PY.go0 hK hE hV hDC hS hA⟩ rfl rfl hl.1 rfl (lv_room (Nat.le_of_ble_eq_true rfl)) dX3_hold_33 ⟨Nat.le_of_ble_eq_true rfl, Nat.le_of_ble_eq_true rfl⟩)

abbrev rmX3_hold_bad : Room := ({ frames := 9, cells := 1, slots := 6, locals := 145 } : Room)
set_option maxHeartbeats 4000000 in
set_option maxRecDepth 100000 in
theorem c_X3_hold_bad (ll : Launch) (hst : ll.stackTraces = false) (D : va_G) (a : Nat → Nat) (cI cJ : ClassId) (sz : Nat) (p : Nat → Int32) (nu de eq : Nat → Int64) (am nx oA oD oE oP cR aR hR cl ad gw pr : Nat → Int32) (n : Int32) (x0 x1 x : Int32) (hbad : ¬ (prB x0 x1 = true ∧ inB x 0 100 = true)) : vx_Met ll yX3_hold wsX3_hold rmX3_hold_bad (va_Pc [.ref (a 0), .int (x0), .int (x1), .int (x)] (PY D (tyG cI cJ) (GW a cI cJ p nu de eq am nx oA oD oE oP cR aR hR cl ad gw pr n) sz)) (va_Qi (fun (_ : Int32) (_ : Unit) => False) (fun _ _ => True) (va_A (GW a cI cJ p nu de eq am nx oA oD oE oP cR aR hR cl ad gw pr n) sz)) (XEA D (tyG cI cJ) (va_A (GW a cI cJ p nu de eq am nx oA oD oE oP cR aR hR cl ad gw pr n) sz) (fun u : Unit => GW a cI cJ p nu de eq am nx oA oD oE oP cR aR hR cl ad gw pr n) RIA) 1 6 (va_A (GW a cI cJ p nu de eq am nx oA oD oE oP cR aR hR cl ad gw pr n) sz) := by
  refine vx_ofW (cc := cX3_hold) (maxL := 5) (ret := (some .int)) (by decide) rfl ?_
  intro pp ee ss mm ar bel mth cde s₁ B hml hno hv
  obtain ⟨rfl, ⟨hsz, hP, hK, hD0, hE, hV⟩, hDC⟩ := hv
  have hx := B.exec
  have hb := B.bytes
  have hr := B.returns
  have hts := atoms_spec (ws := wsX3_hold) B.pre
  have hown : ss.vm.findClass RX3 = some mm.cls := findClass_of_methodNamed B.named
  have hlocks := B.notSynchronized
  subst hsz
  have hD := hD0.self (sz := ss.heap.size)
  generalize hAe : va_A (GW a cI cJ p nu de eq am nx oA oD oE oP cR aR hR cl ad gw pr n) ss.heap.size = A at hD hV ⊢
  have hA : ∀ q : Nat, ss.heap.size ≤ q → A q := fun q h => by rw [← hAe]; exact Or.inr h
  have hS : va_S A ss.heap ss.heap [] := va_S.rf
  have hin : ∀ w ∈ wsX30, w.before ([.ref (a 0), .int (x0), .int (x1), .int (x)] : List Value).toArray ss = true := fun w h => hts w ((by decide +kernel : ∀ w ∈ wsX30, w ∈ wsX3_hold) w h)
  have hl := lv_entry [.ref (a 0), .int (x0), .int (x1), .int (x)] (n := 5) (Nat.le_of_ble_eq_true rfl)
  rw [lg_entry_eq]
  generalize (lg_sl [.ref (a 0), .int (x0), .int (x1), .int (x)] ++ List.replicate (5 - (lg_sl [.ref (a 0), .int (x0), .int (x1), .int (x)]).length) Slot.unset).toArray = ls at hl ⊢
  have hl : lv_has ls 5 [(0, .ref (a 0)), (1, .int (x0)), (2, .int (x1)), (3, .int (x))] := hl
  refine lv_iload_n hx hb dX3_hold_0 rfl (lv_at hl 1 rfl) ?_
  refine lv_iload_n hx hb dX3_hold_1 rfl (lv_at hl 2 rfl) ?_
  by_cases q_1 : prB x0 x1 = true
  · refine va_csv (W.runS (As := [.int (x0), .int (x1)]) (rest := []) ⟨hx, hb, hml, hown, hts⟩ (c_X3_requireTwoCompanies_ok ll x0 x1 q_1) (va_cwS 2 hts gX3_hold_X3_requireTwoCompanies rfl rfl rfl (by decide +kernel) ⟨Nat.le_of_ble_eq_true rfl, Nat.le_of_ble_eq_true rfl⟩) ⟨PT.blind, PT.to⟩ rfl rfl hl.1 rfl (lv_room (Nat.le_of_ble_eq_true rfl)) dX3_hold_2 ⟨Nat.le_of_ble_eq_true rfl, Nat.le_of_ble_eq_true rfl⟩) (fun _ => ?_)
    refine lv_iload_n hx hb dX3_hold_5 rfl (lv_at hl 3 rfl) ?_
    refine lv_iconst (v := 0) hx hb dX3_hold_6 (by decide) ?_
    refine lv_bipush (v := 100) hx hb dX3_hold_7 (by decide) ?_
    by_cases q_2 : inB x 0 100 = true
    · refine va_csv (W.runS (As := [.int (x), .int (0), .int (100)]) (rest := []) ⟨hx, hb, hml, hown, hts⟩ (c_X3_requireRange_ok ll x 0 100 q_2) (va_cwS 3 hts gX3_hold_X3_requireRange rfl rfl rfl (by decide +kernel) ⟨Nat.le_of_ble_eq_true rfl, Nat.le_of_ble_eq_true rfl⟩) ⟨PT.blind, PT.to⟩ rfl rfl hl.1 rfl (lv_room (Nat.le_of_ble_eq_true rfl)) dX3_hold_9 ⟨Nat.le_of_ble_eq_true rfl, Nat.le_of_ble_eq_true rfl⟩) (fun _ => ?_)
      exact absurd ⟨q_1, q_2⟩ hbad
    · refine b_bad (S := Unit) () rfl hno hlocks hP hK hD hS hA (vx_runS (As := [.int (x), .int (0), .int (100)]) (rest := []) ⟨hx, hb, hml, hown, hts⟩ (c_X3_requireRange_bad ll hst D _ x 0 100 q_2) (va_cwS 3 hts gX3_hold_X3_requireRange rfl rfl rfl (by decide +kernel) ⟨Nat.le_of_ble_eq_true rfl, Nat.le_of_ble_eq_true rfl⟩) ⟨PY.blind, PY.go0 hK hE hV hDC hS hA⟩ rfl rfl hl.1 rfl (lv_room (Nat.le_of_ble_eq_true rfl)) dX3_hold_9 ⟨Nat.le_of_ble_eq_true rfl, Nat.le_of_ble_eq_true rfl⟩)
  · refine b_bad (S := Unit) () rfl hno hlocks hP hK hD hS hA (vx_runS (As := [.int (x0), .int (x1)]) (rest := []) ⟨hx, hb, hml, hown, hts⟩ (c_X3_requireTwoCompanies_bad ll hst D _ x0 x1 q_1) (va_cwS 2 hts gX3_hold_X3_requireTwoCompanies rfl rfl rfl (by decide +kernel) ⟨Nat.le_of_ble_eq_true rfl, Nat.le_of_ble_eq_true rfl⟩) ⟨PY.blind, PY.go0 hK hE hV hDC hS hA⟩ rfl rfl hl.1 rfl (lv_room (Nat.le_of_ble_eq_true rfl)) dX3_hold_2 ⟨Nat.le_of_ble_eq_true rfl, Nat.le_of_ble_eq_true rfl⟩)

abbrev rmX3_acquire : Room := ({ frames := 5, cells := 0, slots := 0, locals := 130 } : Room)
set_option maxHeartbeats 4000000 in
set_option maxRecDepth 100000 in
theorem c_X3_acquire (ll : Launch) (D : va_G) (a : Nat → Nat) (cI cJ : ClassId) (sz : Nat) (p : Nat → Int32) (nu de eq : Nat → Int64) (am nx oA oD oE oP cR aR hR cl ad gw pr : Nat → Int32) (n : Int32) (o c : Nat) (x pz : Int32) (ho : o < 6) (hc : c < 6) (hpr : prB (nI o) (nI c) = true) (hqx : inB x 1 100 = true) (hz : inB pz 0 1000000 = true) (htk : tkOK p eq o c (p (6 * o + c) + x)) : Met ll yX3_acquire wsX3_acquire rmX3_acquire (va_Pc [.ref (a 0), .int (nI (o)), .int (nI (c)), .int (x), .int (pz)] (PW D (tyG cI cJ) (GW a cI cJ p nu de eq am nx oA oD oE oP cR aR hR cl ad gw pr n) sz)) (va_Qi (fun (rr : Int32) (u : Nat → Int64) => rr = p (6 * o + c) + x) (fun (u : Nat → Int64) t => AW D (tyG cI cJ) (va_A (GW a cI cJ p nu de eq am nx oA oD oE oP cR aR hR cl ad gw pr n) sz) (GW a cI cJ (upd p (6 * o + c) (p (6 * o + c) + x)) (ksN (ds (weO (upd p (6 * o + c) (p (6 * o + c) + x)) eq 5) 5).1 (ds (weO (upd p (6 * o + c) (p (6 * o + c) + x)) eq 5) 5).2 nu 5) (ksD (ds (weO (upd p (6 * o + c) (p (6 * o + c) + x)) eq 5) 5).1 (ds (weO (upd p (6 * o + c) (p (6 * o + c) + x)) eq 5) 5).2 de 5) u am nx oA oD oE oP cR aR hR cl ad (upd gw c (gw c + (pz - fdI (x * (tr (oA c) (cR c) - tr (oD c) (cR c))) 100))) pr n) t) (va_A (GW a cI cJ p nu de eq am nx oA oD oE oP cR aR hR cl ad gw pr n) sz)) 0 0 (va_A (GW a cI cJ p nu de eq am nx oA oD oE oP cR aR hR cl ad gw pr n) sz) := by
  refine Met.ofW (cc := cX3_acquire) (maxL := 6) (ret := (some .int)) (by decide) rfl ?_
  intro pp ee ss mm ar bel mth cde s₁ B hml hv
  obtain ⟨rfl, hsz, hP, hK, hD0, hE⟩ := hv
  have hx := B.exec
  have hb := B.bytes
  have hr := B.returns
  have hts := atoms_spec (ws := wsX3_acquire) B.pre
  have hown : ss.vm.findClass RX3 = some mm.cls := findClass_of_methodNamed B.named
  have hlocks := B.notSynchronized
  subst hsz
  have hD := hD0.self (sz := ss.heap.size)
  generalize hAe : va_A (GW a cI cJ p nu de eq am nx oA oD oE oP cR aR hR cl ad gw pr n) ss.heap.size = A at hD ⊢
  have hA : ∀ q : Nat, ss.heap.size ≤ q → A q := fun q h => by rw [← hAe]; exact Or.inr h
  have hS : va_S A ss.heap ss.heap [] := va_S.rf
  have hin : ∀ w ∈ wsX30, w.before ([.ref (a 0), .int (nI (o)), .int (nI (c)), .int (x), .int (pz)] : List Value).toArray ss = true := fun w h => hts w ((by decide +kernel : ∀ w ∈ wsX30, w ∈ wsX3_acquire) w h)
  have hl := lv_entry [.ref (a 0), .int (nI (o)), .int (nI (c)), .int (x), .int (pz)] (n := 6) (Nat.le_of_ble_eq_true rfl)
  rw [lg_entry_eq]
  generalize (lg_sl [.ref (a 0), .int (nI (o)), .int (nI (c)), .int (x), .int (pz)] ++ List.replicate (6 - (lg_sl [.ref (a 0), .int (nI (o)), .int (nI (c)), .int (x), .int (pz)]).length) Slot.unset).toArray = ls at hl ⊢
  have hl : lv_has ls 6 [(0, .ref (a 0)), (1, .int (nI (o))), (2, .int (nI (c))), (3, .int (x)), (4, .int (pz))] := hl
  refine lv_iload_n hx hb dX3_acquire_0 rfl (lv_at hl 1 rfl) ?_
  refine lv_iload_n hx hb dX3_acquire_1 rfl (lv_at hl 2 rfl) ?_
  refine va_csv (W.runS (As := [.int (nI (o)), .int (nI (c))]) (rest := []) ⟨hx, hb, hml, hown, hts⟩ (c_X3_requireTwoCompanies_ok ll (nI (o)) (nI (c)) hpr) (va_cwS 2 hts gX3_acquire_X3_requireTwoCompanies rfl rfl rfl (by decide +kernel) ⟨Nat.le_of_ble_eq_true rfl, Nat.le_of_ble_eq_true rfl⟩) ⟨PT.blind, PT.to⟩ rfl rfl hl.1 rfl (lv_room (Nat.le_of_ble_eq_true rfl)) dX3_acquire_2 ⟨Nat.le_of_ble_eq_true rfl, Nat.le_of_ble_eq_true rfl⟩) (fun _ => ?_)
  refine lv_iload_n hx hb dX3_acquire_5 rfl (lv_at hl 3 rfl) ?_
  refine lv_iconst (v := 1) hx hb dX3_acquire_6 (by decide) ?_
  refine lv_bipush (v := 100) hx hb dX3_acquire_7 (by decide) ?_
  refine va_csv (W.runS (As := [.int (x), .int (1), .int (100)]) (rest := []) ⟨hx, hb, hml, hown, hts⟩ (c_X3_requireRange_ok ll x 1 100 hqx) (va_cwS 3 hts gX3_acquire_X3_requireRange rfl rfl rfl (by decide +kernel) ⟨Nat.le_of_ble_eq_true rfl, Nat.le_of_ble_eq_true rfl⟩) ⟨PT.blind, PT.to⟩ rfl rfl hl.1 rfl (lv_room (Nat.le_of_ble_eq_true rfl)) dX3_acquire_9 ⟨Nat.le_of_ble_eq_true rfl, Nat.le_of_ble_eq_true rfl⟩) (fun _ => ?_)
  refine lv_iload hx hb dX3_acquire_12 (lv_at hl 4 rfl) ?_
  refine lv_iconst (v := 0) hx hb dX3_acquire_14 (by decide) ?_
  refine lv_ldc (v := 1000000) hx hb hown (hts (.constant RX3 61 (1000000)) (by decide +kernel)) dX3_acquire_15 ?_
  refine va_csv (W.runS (As := [.int (pz), .int (0), .int ((1000000))]) (rest := []) ⟨hx, hb, hml, hown, hts⟩ (c_X3_requireRange_ok ll pz 0 ((1000000)) hz) (va_cwS 3 hts gX3_acquire_X3_requireRange rfl rfl rfl (by decide +kernel) ⟨Nat.le_of_ble_eq_true rfl, Nat.le_of_ble_eq_true rfl⟩) ⟨PT.blind, PT.to⟩ rfl rfl hl.1 rfl (lv_room (Nat.le_of_ble_eq_true rfl)) dX3_acquire_17 ⟨Nat.le_of_ble_eq_true rfl, Nat.le_of_ble_eq_true rfl⟩) (fun _ => ?_)
  refine lv_aload_n hx hb dX3_acquire_20 rfl (lv_at hl 0 rfl) ?_
  refine va_get (D := D) (ci := 3) (v := .ref (a 1)) (C := RX3) (T := TX3) (N := 6) (Ts := wsX30) hx hb hin (fun _ h9 => h9) hown hK hP 0 rfl rfl 0 (by decide) (hts (.fieldLink RX3 10 "Groupbooks" "holdings" "LGroupbooks$Holdings;") (by decide +kernel)) (fun _ h9 => h9) rfl dX3_acquire_21 ?_
  refine lv_iload_n hx hb dX3_acquire_24 rfl (lv_at hl 1 rfl) ?_
  refine lv_iload_n hx hb dX3_acquire_25 rfl (lv_at hl 2 rfl) ?_
  refine b_csi (v := p (6 * o + c)) ((va_runVN (As := [.int (nI (o)), .int (nI (c))]) (rest := []) ⟨hx, hb, hml, hown, hts⟩ (c_X2_percentOf ll D a cI cJ p nu de eq am nx oA oD oE oP cR aR hR cl ad gw pr n o c ho hc) ⟨va_cnB 2 hts gX3_acquire_X2_percentOf_n49 rfl rfl rfl (hE.nest 15 rfl) (hts (.initialized RX2) (by decide +kernel)) (by decide +kernel) ⟨Nat.le_of_ble_eq_true rfl, Nat.le_of_ble_eq_true rfl⟩, hts (.instanceMethod yX2_percentOf) (by decide +kernel), hts (.selects RX2 yX2_percentOf yX2_percentOf) (by decide +kernel)⟩ ⟨PR.blind, va_recv hK hP (ci := 2) (q0 := 1) rfl rfl, PR.go hP hK hE⟩ rfl rfl hl.1 rfl (lv_room (Nat.le_of_ble_eq_true rfl)) dX3_acquire_26 ⟨Nat.le_of_ble_eq_true rfl, Nat.le_of_ble_eq_true rfl⟩).run) ?_
  refine lv_iload_n hx hb dX3_acquire_29 rfl (lv_at hl 3 rfl) ?_
  refine lv_iadd hx hb dX3_acquire_30 ?_
  refine lv_istore (lv' := [(5, .int ((p (6 * o + c)) + (x))), (0, .ref (a 0)), (1, .int (nI (o))), (2, .int (nI (c))), (3, .int (x)), (4, .int (pz))]) hx hb dX3_acquire_31 hl (by decide) rfl (fun ls hl => ?_)
  refine lv_aload_n hx hb dX3_acquire_33 rfl (lv_at hl 1 rfl) ?_
  refine va_get (D := D) (ci := 3) (v := .ref (a 1)) (C := RX3) (T := TX3) (N := 6) (Ts := wsX30) hx hb hin (fun _ h9 => h9) hown hK hP 0 rfl rfl 0 (by decide) (hts (.fieldLink RX3 10 "Groupbooks" "holdings" "LGroupbooks$Holdings;") (by decide +kernel)) (fun _ h9 => h9) rfl dX3_acquire_34 ?_
  refine lv_iload_n hx hb dX3_acquire_37 rfl (lv_at hl 2 rfl) ?_
  refine lv_iload_n hx hb dX3_acquire_38 rfl (lv_at hl 3 rfl) ?_
  refine lv_iload hx hb dX3_acquire_39 (lv_at hl 0 rfl) ?_
  refine b_calli0 (S := (Nat → Int32) × (Nat → Int64) × (Nat → Int64) × (Nat → Int64)) (w' := fun u_1 => GW a cI cJ (u_1.1) (u_1.2.2.1) (u_1.2.2.2) (u_1.2.1) am nx oA oD oE oP cR aR hR cl ad gw pr n) hP hD hS hA (va_runVN (As := [.int (nI (o)), .int (nI (c)), .int ((p (6 * o + c)) + (x))]) (rest := []) ⟨hx, hb, hml, hown, hts⟩ (c_X2_take ll D a cI cJ _ p nu de eq am nx oA oD oE oP cR aR hR cl ad gw pr n o c ((p (6 * o + c)) + (x)) ho hc) ⟨va_cnB 3 hts gX3_acquire_X2_take_n53 rfl rfl rfl (hE.nest 16 rfl) (hts (.initialized RX2) (by decide +kernel)) (by decide +kernel) ⟨Nat.le_of_ble_eq_true rfl, Nat.le_of_ble_eq_true rfl⟩, hts (.instanceMethod yX2_take) (by decide +kernel), hts (.selects RX2 yX2_take yX2_take) (by decide +kernel)⟩ ⟨PW.blind, va_recv hK hP (ci := 2) (q0 := 1) rfl rfl, PW.go hP hK hD hE⟩ rfl rfl hl.1 rfl (lv_room (Nat.le_of_ble_eq_true rfl)) dX3_acquire_41 ⟨Nat.le_of_ble_eq_true rfl, Nat.le_of_ble_eq_true rfl⟩) (fun r_3 u_1 H locs h_2 hP hD hS => ?_)
  obtain ⟨p9, e9, n9, d9⟩ := u_1
  rcases h_2 with ⟨h9a, h9b, h9c, h9d, h9e⟩ | ⟨h9a, h9b, h9c, h9d, h9e⟩
  · dsimp only at h9c h9d h9e hP hD
    subst h9a; rw [h9c, h9d, h9e] at hP hD
    refine va_csv (W.runS (As := [.int (1)]) (rest := []) ⟨hx, hb, hml, hown, hts⟩ (c_X3_requireTaken_ok ll  ) (va_cwS 1 hts gX3_acquire_X3_requireTaken rfl rfl rfl (by decide +kernel) ⟨Nat.le_of_ble_eq_true rfl, Nat.le_of_ble_eq_true rfl⟩) ⟨PT.blind, PT.to⟩ rfl rfl hl.1 rfl (lv_room (Nat.le_of_ble_eq_true rfl)) dX3_acquire_44 ⟨Nat.le_of_ble_eq_true rfl, Nat.le_of_ble_eq_true rfl⟩) (fun _ => ?_)
    refine lv_aload_n hx hb dX3_acquire_47 rfl (lv_at hl 1 rfl) ?_
    refine va_get (D := D) (ci := 3) (v := .ref (a 4)) (C := RX3) (T := TX3) (N := 6) (Ts := wsX30) hx hb hin (fun _ h9 => h9) hown hK hP 0 rfl rfl 3 (by decide) (hts (.fieldLink RX3 30 "Groupbooks" "goodwills" "[I") (by decide +kernel)) (fun _ h9 => h9) rfl dX3_acquire_48 ?_
    refine lv_iload_n hx hb dX3_acquire_51 rfl (lv_at hl 3 rfl) ?_
    refine lv_dup2_11 hx hb dX3_acquire_52 rfl rfl ?_
    refine b_iald hx hb hK hP 4 0 (f := gw) rfl rfl (j := c) (by omega) (by decide) dX3_acquire_53 ?_
    refine lv_iload hx hb dX3_acquire_54 (lv_at hl 5 rfl) ?_
    refine lv_iload_n hx hb dX3_acquire_56 rfl (lv_at hl 4 rfl) ?_
    refine lv_aload_n hx hb dX3_acquire_57 rfl (lv_at hl 1 rfl) ?_
    refine va_get (D := D) (ci := 3) (v := .ref (a 2)) (C := RX3) (T := TX3) (N := 6) (Ts := wsX30) hx hb hin (fun _ h9 => h9) hown hK hP 0 rfl rfl 1 (by decide) (hts (.fieldLink RX3 19 "Groupbooks" "books" "LGroupbooks$Books;") (by decide +kernel)) (fun _ h9 => h9) rfl dX3_acquire_58 ?_
    refine lv_iload_n hx hb dX3_acquire_61 rfl (lv_at hl 3 rfl) ?_
    refine b_csi (v := tr (oA c) (cR c) - tr (oD c) (cR c)) ((va_runVN (As := [.int (nI (c))]) (rest := [.int (x), .int (pz), .int (gw (c)), .int (nI (c)), .ref (a 4)]) ⟨hx, hb, hml, hown, hts⟩ (c_X1_netOf ll D a cI cJ (upd p (6 * o + c) (p (6 * o + c) + x)) (ksN (ds (weO (upd p (6 * o + c) (p (6 * o + c) + x)) eq 5) 5).1 (ds (weO (upd p (6 * o + c) (p (6 * o + c) + x)) eq 5) 5).2 nu 5) (ksD (ds (weO (upd p (6 * o + c) (p (6 * o + c) + x)) eq 5) 5).1 (ds (weO (upd p (6 * o + c) (p (6 * o + c) + x)) eq 5) 5).2 de 5) e9 am nx oA oD oE oP cR aR hR cl ad gw pr n c hc) ⟨va_cnB 1 hts gX3_acquire_X1_netOf_n62 rfl rfl rfl (hE.nest 11 rfl) (hts (.initialized RX1) (by decide +kernel)) (by decide +kernel) ⟨Nat.le_of_ble_eq_true rfl, Nat.le_of_ble_eq_true rfl⟩, hts (.instanceMethod yX1_netOf) (by decide +kernel), hts (.selects RX1 yX1_netOf yX1_netOf) (by decide +kernel)⟩ ⟨PR.blind, va_recv hK hP (ci := 1) (q0 := 2) rfl rfl, PR.go hP hK hE⟩ rfl rfl hl.1 rfl (lv_room (Nat.le_of_ble_eq_true rfl)) dX3_acquire_62 ⟨Nat.le_of_ble_eq_true rfl, Nat.le_of_ble_eq_true rfl⟩).run) ?_
    refine lv_imul hx hb dX3_acquire_65 ?_
    refine lv_bipush (v := 100) hx hb dX3_acquire_66 (by decide) ?_
    refine b_csi (v := fdI ((x) * (tr (oA c) (cR c) - tr (oD c) (cR c))) 100) (W.runS (As := [.int ((x) * (tr (oA c) (cR c) - tr (oD c) (cR c))), .int (100)]) (rest := [.int (pz), .int (gw (c)), .int (nI (c)), .ref (a 4)]) ⟨hx, hb, hml, hown, hts⟩ (c_J9_floorDiv_7cf53 ll ((x) * (tr (oA c) (cR c) - tr (oD c) (cR c))) 100 (by decide)) (va_cwS 2 hts gX3_acquire_J9_floorDiv_7cf53 rfl rfl rfl (by decide +kernel) ⟨Nat.le_of_ble_eq_true rfl, Nat.le_of_ble_eq_true rfl⟩) ⟨PT.blind, PT.to⟩ rfl rfl hl.1 rfl (lv_room (Nat.le_of_ble_eq_true rfl)) dX3_acquire_68 ⟨Nat.le_of_ble_eq_true rfl, Nat.le_of_ble_eq_true rfl⟩) ?_
    refine lv_isub hx hb dX3_acquire_71 ?_
    refine lv_iadd hx hb dX3_acquire_72 ?_
    refine b_iast (w' := GW a cI cJ (upd p (6 * o + c) (p (6 * o + c) + x)) (ksN (ds (weO (upd p (6 * o + c) (p (6 * o + c) + x)) eq 5) 5).1 (ds (weO (upd p (6 * o + c) (p (6 * o + c) + x)) eq 5) 5).2 nu 5) (ksD (ds (weO (upd p (6 * o + c) (p (6 * o + c) + x)) eq 5) 5).1 (ds (weO (upd p (6 * o + c) (p (6 * o + c) + x)) eq 5) 5).2 de 5) e9 am nx oA oD oE oP cR aR hR cl ad (upd gw (c) ((gw (c)) + ((pz) - (fdI ((x) * (tr (oA c) (cR c) - tr (oD c) (cR c))) 100)))) pr n) hx hb hK hP hD hS 4 0 (f := gw) rfl rfl (j := c) (by omega) (by decide) rfl dX3_acquire_73 (fun H locs hP hD hS => ?_)
    refine lv_iload hx hb dX3_acquire_74 (lv_at hl 0 rfl) ?_
    have e_4 : (upd gw c (gw c + (pz - fdI (x * (tr (oA c) (cR c) - tr (oD c) (cR c))) 100))) = (upd gw (c) ((gw (c)) + ((pz) - (fdI ((x) * (tr (oA c) (cR c) - tr (oD c) (cR c))) 100)))) := by first | rfl | exact if_pos (by assumption) | exact if_neg (by assumption) | (simp only [tr, Bool.false_eq_true, ↓reduceIte])
    have hP := (congrArg (fun z9 => va_P D vwCl (GW a cI cJ (upd p (6 * o + c) (p (6 * o + c) + x)) (ksN (ds (weO (upd p (6 * o + c) (p (6 * o + c) + x)) eq 5) 5).1 (ds (weO (upd p (6 * o + c) (p (6 * o + c) + x)) eq 5) 5).2 nu 5) (ksD (ds (weO (upd p (6 * o + c) (p (6 * o + c) + x)) eq 5) 5).1 (ds (weO (upd p (6 * o + c) (p (6 * o + c) + x)) eq 5) 5).2 de 5) e9 am nx oA oD oE oP cR aR hR cl ad z9 pr n) _) e_4).mpr hP
    have hD := (congrArg (fun z9 => va_D A (GW a cI cJ (upd p (6 * o + c) (p (6 * o + c) + x)) (ksN (ds (weO (upd p (6 * o + c) (p (6 * o + c) + x)) eq 5) 5).1 (ds (weO (upd p (6 * o + c) (p (6 * o + c) + x)) eq 5) 5).2 nu 5) (ksD (ds (weO (upd p (6 * o + c) (p (6 * o + c) + x)) eq 5) 5).1 (ds (weO (upd p (6 * o + c) (p (6 * o + c) + x)) eq 5) 5).2 de 5) e9 am nx oA oD oE oP cR aR hR cl ad z9 pr n)) e_4).mpr hD
    refine W.iret hx hb hr (fun t ht hW => ?_) hS.2.2 dX3_acquire_76
    refine ⟨⟨_, (e9), rfl, ?_, ?_, va_K.moved hW.alike hK, ?_⟩, hS.F ht⟩
    · try dsimp only
      all_goals exact rfl
    · rw [ht]
      try dsimp only
      exact hP
    · try dsimp only
      exact hD
  · exact absurd htk h9b

abbrev rmX3_acquire_no : Room := ({ frames := 7, cells := 1, slots := 6, locals := 130 } : Room)
set_option maxHeartbeats 4000000 in
set_option maxRecDepth 100000 in
theorem c_X3_acquire_no (ll : Launch) (hst : ll.stackTraces = false) (D : va_G) (a : Nat → Nat) (cI cJ : ClassId) (sz : Nat) (p : Nat → Int32) (nu de eq : Nat → Int64) (am nx oA oD oE oP cR aR hR cl ad gw pr : Nat → Int32) (n : Int32) (o c : Nat) (x pz : Int32) (ho : o < 6) (hc : c < 6) (hpr : prB (nI o) (nI c) = true) (hqx : inB x 1 100 = true) (hz : inB pz 0 1000000 = true) (htk : ¬ tkOK p eq o c (p (6 * o + c) + x)) : vx_Met ll yX3_acquire wsX3_acquire rmX3_acquire_no (va_Pc [.ref (a 0), .int (nI (o)), .int (nI (c)), .int (x), .int (pz)] (PY D (tyG cI cJ) (GW a cI cJ p nu de eq am nx oA oD oE oP cR aR hR cl ad gw pr n) sz)) (va_Qi (fun (_ : Int32) (_ : Unit) => False) (fun _ _ => True) (va_A (GW a cI cJ p nu de eq am nx oA oD oE oP cR aR hR cl ad gw pr n) sz)) (XEA D (tyG cI cJ) (va_A (GW a cI cJ p nu de eq am nx oA oD oE oP cR aR hR cl ad gw pr n) sz) (fun u : Nat → Int64 => GW a cI cJ p nu de u am nx oA oD oE oP cR aR hR cl ad gw pr n) RIS) 1 6 (va_A (GW a cI cJ p nu de eq am nx oA oD oE oP cR aR hR cl ad gw pr n) sz) := by
  refine vx_ofW (cc := cX3_acquire) (maxL := 6) (ret := (some .int)) (by decide) rfl ?_
  intro pp ee ss mm ar bel mth cde s₁ B hml hno hv
  obtain ⟨rfl, ⟨hsz, hP, hK, hD0, hE, hV⟩, hDC⟩ := hv
  have hx := B.exec
  have hb := B.bytes
  have hr := B.returns
  have hts := atoms_spec (ws := wsX3_acquire) B.pre
  have hown : ss.vm.findClass RX3 = some mm.cls := findClass_of_methodNamed B.named
  have hlocks := B.notSynchronized
  subst hsz
  have hD := hD0.self (sz := ss.heap.size)
  generalize hAe : va_A (GW a cI cJ p nu de eq am nx oA oD oE oP cR aR hR cl ad gw pr n) ss.heap.size = A at hD hV ⊢
  have hA : ∀ q : Nat, ss.heap.size ≤ q → A q := fun q h => by rw [← hAe]; exact Or.inr h
  have hS : va_S A ss.heap ss.heap [] := va_S.rf
  have hin : ∀ w ∈ wsX30, w.before ([.ref (a 0), .int (nI (o)), .int (nI (c)), .int (x), .int (pz)] : List Value).toArray ss = true := fun w h => hts w ((by decide +kernel : ∀ w ∈ wsX30, w ∈ wsX3_acquire) w h)
  have hl := lv_entry [.ref (a 0), .int (nI (o)), .int (nI (c)), .int (x), .int (pz)] (n := 6) (Nat.le_of_ble_eq_true rfl)
  rw [lg_entry_eq]
  generalize (lg_sl [.ref (a 0), .int (nI (o)), .int (nI (c)), .int (x), .int (pz)] ++ List.replicate (6 - (lg_sl [.ref (a 0), .int (nI (o)), .int (nI (c)), .int (x), .int (pz)]).length) Slot.unset).toArray = ls at hl ⊢
  have hl : lv_has ls 6 [(0, .ref (a 0)), (1, .int (nI (o))), (2, .int (nI (c))), (3, .int (x)), (4, .int (pz))] := hl
  refine lv_iload_n hx hb dX3_acquire_0 rfl (lv_at hl 1 rfl) ?_
  refine lv_iload_n hx hb dX3_acquire_1 rfl (lv_at hl 2 rfl) ?_
  refine va_csv (W.runS (As := [.int (nI (o)), .int (nI (c))]) (rest := []) ⟨hx, hb, hml, hown, hts⟩ (c_X3_requireTwoCompanies_ok ll (nI (o)) (nI (c)) hpr) (va_cwS 2 hts gX3_acquire_X3_requireTwoCompanies rfl rfl rfl (by decide +kernel) ⟨Nat.le_of_ble_eq_true rfl, Nat.le_of_ble_eq_true rfl⟩) ⟨PT.blind, PT.to⟩ rfl rfl hl.1 rfl (lv_room (Nat.le_of_ble_eq_true rfl)) dX3_acquire_2 ⟨Nat.le_of_ble_eq_true rfl, Nat.le_of_ble_eq_true rfl⟩) (fun _ => ?_)
  refine lv_iload_n hx hb dX3_acquire_5 rfl (lv_at hl 3 rfl) ?_
  refine lv_iconst (v := 1) hx hb dX3_acquire_6 (by decide) ?_
  refine lv_bipush (v := 100) hx hb dX3_acquire_7 (by decide) ?_
  refine va_csv (W.runS (As := [.int (x), .int (1), .int (100)]) (rest := []) ⟨hx, hb, hml, hown, hts⟩ (c_X3_requireRange_ok ll x 1 100 hqx) (va_cwS 3 hts gX3_acquire_X3_requireRange rfl rfl rfl (by decide +kernel) ⟨Nat.le_of_ble_eq_true rfl, Nat.le_of_ble_eq_true rfl⟩) ⟨PT.blind, PT.to⟩ rfl rfl hl.1 rfl (lv_room (Nat.le_of_ble_eq_true rfl)) dX3_acquire_9 ⟨Nat.le_of_ble_eq_true rfl, Nat.le_of_ble_eq_true rfl⟩) (fun _ => ?_)
  refine lv_iload hx hb dX3_acquire_12 (lv_at hl 4 rfl) ?_
  refine lv_iconst (v := 0) hx hb dX3_acquire_14 (by decide) ?_
  refine lv_ldc (v := 1000000) hx hb hown (hts (.constant RX3 61 (1000000)) (by decide +kernel)) dX3_acquire_15 ?_
  refine va_csv (W.runS (As := [.int (pz), .int (0), .int ((1000000))]) (rest := []) ⟨hx, hb, hml, hown, hts⟩ (c_X3_requireRange_ok ll pz 0 ((1000000)) hz) (va_cwS 3 hts gX3_acquire_X3_requireRange rfl rfl rfl (by decide +kernel) ⟨Nat.le_of_ble_eq_true rfl, Nat.le_of_ble_eq_true rfl⟩) ⟨PT.blind, PT.to⟩ rfl rfl hl.1 rfl (lv_room (Nat.le_of_ble_eq_true rfl)) dX3_acquire_17 ⟨Nat.le_of_ble_eq_true rfl, Nat.le_of_ble_eq_true rfl⟩) (fun _ => ?_)
  refine lv_aload_n hx hb dX3_acquire_20 rfl (lv_at hl 0 rfl) ?_
  refine va_get (D := D) (ci := 3) (v := .ref (a 1)) (C := RX3) (T := TX3) (N := 6) (Ts := wsX30) hx hb hin (fun _ h9 => h9) hown hK hP 0 rfl rfl 0 (by decide) (hts (.fieldLink RX3 10 "Groupbooks" "holdings" "LGroupbooks$Holdings;") (by decide +kernel)) (fun _ h9 => h9) rfl dX3_acquire_21 ?_
  refine lv_iload_n hx hb dX3_acquire_24 rfl (lv_at hl 1 rfl) ?_
  refine lv_iload_n hx hb dX3_acquire_25 rfl (lv_at hl 2 rfl) ?_
  refine b_csi (v := p (6 * o + c)) ((va_runVN (As := [.int (nI (o)), .int (nI (c))]) (rest := []) ⟨hx, hb, hml, hown, hts⟩ (c_X2_percentOf ll D a cI cJ p nu de eq am nx oA oD oE oP cR aR hR cl ad gw pr n o c ho hc) ⟨va_cnB 2 hts gX3_acquire_X2_percentOf_n49 rfl rfl rfl (hE.nest 15 rfl) (hts (.initialized RX2) (by decide +kernel)) (by decide +kernel) ⟨Nat.le_of_ble_eq_true rfl, Nat.le_of_ble_eq_true rfl⟩, hts (.instanceMethod yX2_percentOf) (by decide +kernel), hts (.selects RX2 yX2_percentOf yX2_percentOf) (by decide +kernel)⟩ ⟨PR.blind, va_recv hK hP (ci := 2) (q0 := 1) rfl rfl, PR.go hP hK hE⟩ rfl rfl hl.1 rfl (lv_room (Nat.le_of_ble_eq_true rfl)) dX3_acquire_26 ⟨Nat.le_of_ble_eq_true rfl, Nat.le_of_ble_eq_true rfl⟩).run) ?_
  refine lv_iload_n hx hb dX3_acquire_29 rfl (lv_at hl 3 rfl) ?_
  refine lv_iadd hx hb dX3_acquire_30 ?_
  refine lv_istore (lv' := [(5, .int ((p (6 * o + c)) + (x))), (0, .ref (a 0)), (1, .int (nI (o))), (2, .int (nI (c))), (3, .int (x)), (4, .int (pz))]) hx hb dX3_acquire_31 hl (by decide) rfl (fun ls hl => ?_)
  refine lv_aload_n hx hb dX3_acquire_33 rfl (lv_at hl 1 rfl) ?_
  refine va_get (D := D) (ci := 3) (v := .ref (a 1)) (C := RX3) (T := TX3) (N := 6) (Ts := wsX30) hx hb hin (fun _ h9 => h9) hown hK hP 0 rfl rfl 0 (by decide) (hts (.fieldLink RX3 10 "Groupbooks" "holdings" "LGroupbooks$Holdings;") (by decide +kernel)) (fun _ h9 => h9) rfl dX3_acquire_34 ?_
  refine lv_iload_n hx hb dX3_acquire_37 rfl (lv_at hl 2 rfl) ?_
  refine lv_iload_n hx hb dX3_acquire_38 rfl (lv_at hl 3 rfl) ?_
  refine lv_iload hx hb dX3_acquire_39 (lv_at hl 0 rfl) ?_
  refine b_calli0 (S := (Nat → Int32) × (Nat → Int64) × (Nat → Int64) × (Nat → Int64)) (w' := fun u_1 => GW a cI cJ (u_1.1) (u_1.2.2.1) (u_1.2.2.2) (u_1.2.1) am nx oA oD oE oP cR aR hR cl ad gw pr n) hP hD hS hA (va_runVN (As := [.int (nI (o)), .int (nI (c)), .int ((p (6 * o + c)) + (x))]) (rest := []) ⟨hx, hb, hml, hown, hts⟩ (c_X2_take ll D a cI cJ _ p nu de eq am nx oA oD oE oP cR aR hR cl ad gw pr n o c ((p (6 * o + c)) + (x)) ho hc) ⟨va_cnB 3 hts gX3_acquire_X2_take_n53 rfl rfl rfl (hE.nest 16 rfl) (hts (.initialized RX2) (by decide +kernel)) (by decide +kernel) ⟨Nat.le_of_ble_eq_true rfl, Nat.le_of_ble_eq_true rfl⟩, hts (.instanceMethod yX2_take) (by decide +kernel), hts (.selects RX2 yX2_take yX2_take) (by decide +kernel)⟩ ⟨PW.blind, va_recv hK hP (ci := 2) (q0 := 1) rfl rfl, PW.go hP hK hD hE⟩ rfl rfl hl.1 rfl (lv_room (Nat.le_of_ble_eq_true rfl)) dX3_acquire_41 ⟨Nat.le_of_ble_eq_true rfl, Nat.le_of_ble_eq_true rfl⟩) (fun r_3 u_1 H locs h_2 hP hD hS => ?_)
  obtain ⟨p9, e9, n9, d9⟩ := u_1
  rcases h_2 with ⟨h9a, h9b, h9c, h9d, h9e⟩ | ⟨h9a, h9b, h9c, h9d, h9e⟩
  · exact absurd h9b htk
  · dsimp only at h9c h9d h9e hP hD
    subst h9a; rw [h9c, h9d, h9e] at hP hD
    refine b_bad (S := Nat → Int64) e9 rfl hno hlocks hP hK hD hS hA (vx_runS (As := [.int (0)]) (rest := []) ⟨hx, hb, hml, hown, hts⟩ (c_X3_requireTaken_bad ll hst D _  ) (va_cwS 1 hts gX3_acquire_X3_requireTaken rfl rfl rfl (by decide +kernel) ⟨Nat.le_of_ble_eq_true rfl, Nat.le_of_ble_eq_true rfl⟩) ⟨PY.blind, PY.go0 hK hE hV hDC hS hA⟩ rfl rfl hl.1 rfl (lv_room (Nat.le_of_ble_eq_true rfl)) dX3_acquire_44 ⟨Nat.le_of_ble_eq_true rfl, Nat.le_of_ble_eq_true rfl⟩)

abbrev rmX3_acquire_bad : Room := ({ frames := 9, cells := 1, slots := 6, locals := 145 } : Room)
set_option maxHeartbeats 4000000 in
set_option maxRecDepth 100000 in
theorem c_X3_acquire_bad (ll : Launch) (hst : ll.stackTraces = false) (D : va_G) (a : Nat → Nat) (cI cJ : ClassId) (sz : Nat) (p : Nat → Int32) (nu de eq : Nat → Int64) (am nx oA oD oE oP cR aR hR cl ad gw pr : Nat → Int32) (n : Int32) (x0 x1 x pz : Int32) (hbad : ¬ (prB x0 x1 = true ∧ inB x 1 100 = true ∧ inB pz 0 1000000 = true)) : vx_Met ll yX3_acquire wsX3_acquire rmX3_acquire_bad (va_Pc [.ref (a 0), .int (x0), .int (x1), .int (x), .int (pz)] (PY D (tyG cI cJ) (GW a cI cJ p nu de eq am nx oA oD oE oP cR aR hR cl ad gw pr n) sz)) (va_Qi (fun (_ : Int32) (_ : Unit) => False) (fun _ _ => True) (va_A (GW a cI cJ p nu de eq am nx oA oD oE oP cR aR hR cl ad gw pr n) sz)) (XEA D (tyG cI cJ) (va_A (GW a cI cJ p nu de eq am nx oA oD oE oP cR aR hR cl ad gw pr n) sz) (fun u : Unit => GW a cI cJ p nu de eq am nx oA oD oE oP cR aR hR cl ad gw pr n) RIA) 1 6 (va_A (GW a cI cJ p nu de eq am nx oA oD oE oP cR aR hR cl ad gw pr n) sz) := by
  refine vx_ofW (cc := cX3_acquire) (maxL := 6) (ret := (some .int)) (by decide) rfl ?_
  intro pp ee ss mm ar bel mth cde s₁ B hml hno hv
  obtain ⟨rfl, ⟨hsz, hP, hK, hD0, hE, hV⟩, hDC⟩ := hv
  have hx := B.exec
  have hb := B.bytes
  have hr := B.returns
  have hts := atoms_spec (ws := wsX3_acquire) B.pre
  have hown : ss.vm.findClass RX3 = some mm.cls := findClass_of_methodNamed B.named
  have hlocks := B.notSynchronized
  subst hsz
  have hD := hD0.self (sz := ss.heap.size)
  generalize hAe : va_A (GW a cI cJ p nu de eq am nx oA oD oE oP cR aR hR cl ad gw pr n) ss.heap.size = A at hD hV ⊢
  have hA : ∀ q : Nat, ss.heap.size ≤ q → A q := fun q h => by rw [← hAe]; exact Or.inr h
  have hS : va_S A ss.heap ss.heap [] := va_S.rf
  have hin : ∀ w ∈ wsX30, w.before ([.ref (a 0), .int (x0), .int (x1), .int (x), .int (pz)] : List Value).toArray ss = true := fun w h => hts w ((by decide +kernel : ∀ w ∈ wsX30, w ∈ wsX3_acquire) w h)
  have hl := lv_entry [.ref (a 0), .int (x0), .int (x1), .int (x), .int (pz)] (n := 6) (Nat.le_of_ble_eq_true rfl)
  rw [lg_entry_eq]
  generalize (lg_sl [.ref (a 0), .int (x0), .int (x1), .int (x), .int (pz)] ++ List.replicate (6 - (lg_sl [.ref (a 0), .int (x0), .int (x1), .int (x), .int (pz)]).length) Slot.unset).toArray = ls at hl ⊢
  have hl : lv_has ls 6 [(0, .ref (a 0)), (1, .int (x0)), (2, .int (x1)), (3, .int (x)), (4, .int (pz))] := hl
  refine lv_iload_n hx hb dX3_acquire_0 rfl (lv_at hl 1 rfl) ?_
  refine lv_iload_n hx hb dX3_acquire_1 rfl (lv_at hl 2 rfl) ?_
  by_cases q_1 : prB x0 x1 = true
  · refine va_csv (W.runS (As := [.int (x0), .int (x1)]) (rest := []) ⟨hx, hb, hml, hown, hts⟩ (c_X3_requireTwoCompanies_ok ll x0 x1 q_1) (va_cwS 2 hts gX3_acquire_X3_requireTwoCompanies rfl rfl rfl (by decide +kernel) ⟨Nat.le_of_ble_eq_true rfl, Nat.le_of_ble_eq_true rfl⟩) ⟨PT.blind, PT.to⟩ rfl rfl hl.1 rfl (lv_room (Nat.le_of_ble_eq_true rfl)) dX3_acquire_2 ⟨Nat.le_of_ble_eq_true rfl, Nat.le_of_ble_eq_true rfl⟩) (fun _ => ?_)
    refine lv_iload_n hx hb dX3_acquire_5 rfl (lv_at hl 3 rfl) ?_
    refine lv_iconst (v := 1) hx hb dX3_acquire_6 (by decide) ?_
    refine lv_bipush (v := 100) hx hb dX3_acquire_7 (by decide) ?_
    by_cases q_2 : inB x 1 100 = true
    · refine va_csv (W.runS (As := [.int (x), .int (1), .int (100)]) (rest := []) ⟨hx, hb, hml, hown, hts⟩ (c_X3_requireRange_ok ll x 1 100 q_2) (va_cwS 3 hts gX3_acquire_X3_requireRange rfl rfl rfl (by decide +kernel) ⟨Nat.le_of_ble_eq_true rfl, Nat.le_of_ble_eq_true rfl⟩) ⟨PT.blind, PT.to⟩ rfl rfl hl.1 rfl (lv_room (Nat.le_of_ble_eq_true rfl)) dX3_acquire_9 ⟨Nat.le_of_ble_eq_true rfl, Nat.le_of_ble_eq_true rfl⟩) (fun _ => ?_)
      refine lv_iload hx hb dX3_acquire_12 (lv_at hl 4 rfl) ?_
      refine lv_iconst (v := 0) hx hb dX3_acquire_14 (by decide) ?_
      refine lv_ldc (v := 1000000) hx hb hown (hts (.constant RX3 61 (1000000)) (by decide +kernel)) dX3_acquire_15 ?_
      by_cases q_3 : inB pz 0 ((1000000)) = true
      · refine va_csv (W.runS (As := [.int (pz), .int (0), .int ((1000000))]) (rest := []) ⟨hx, hb, hml, hown, hts⟩ (c_X3_requireRange_ok ll pz 0 ((1000000)) q_3) (va_cwS 3 hts gX3_acquire_X3_requireRange rfl rfl rfl (by decide +kernel) ⟨Nat.le_of_ble_eq_true rfl, Nat.le_of_ble_eq_true rfl⟩) ⟨PT.blind, PT.to⟩ rfl rfl hl.1 rfl (lv_room (Nat.le_of_ble_eq_true rfl)) dX3_acquire_17 ⟨Nat.le_of_ble_eq_true rfl, Nat.le_of_ble_eq_true rfl⟩) (fun _ => ?_)
        exact absurd ⟨q_1, q_2, q_3⟩ hbad
      · refine b_bad (S := Unit) () rfl hno hlocks hP hK hD hS hA (vx_runS (As := [.int (pz), .int (0), .int ((1000000))]) (rest := []) ⟨hx, hb, hml, hown, hts⟩ (c_X3_requireRange_bad ll hst D _ pz 0 ((1000000)) q_3) (va_cwS 3 hts gX3_acquire_X3_requireRange rfl rfl rfl (by decide +kernel) ⟨Nat.le_of_ble_eq_true rfl, Nat.le_of_ble_eq_true rfl⟩) ⟨PY.blind, PY.go0 hK hE hV hDC hS hA⟩ rfl rfl hl.1 rfl (lv_room (Nat.le_of_ble_eq_true rfl)) dX3_acquire_17 ⟨Nat.le_of_ble_eq_true rfl, Nat.le_of_ble_eq_true rfl⟩)
    · refine b_bad (S := Unit) () rfl hno hlocks hP hK hD hS hA (vx_runS (As := [.int (x), .int (1), .int (100)]) (rest := []) ⟨hx, hb, hml, hown, hts⟩ (c_X3_requireRange_bad ll hst D _ x 1 100 q_2) (va_cwS 3 hts gX3_acquire_X3_requireRange rfl rfl rfl (by decide +kernel) ⟨Nat.le_of_ble_eq_true rfl, Nat.le_of_ble_eq_true rfl⟩) ⟨PY.blind, PY.go0 hK hE hV hDC hS hA⟩ rfl rfl hl.1 rfl (lv_room (Nat.le_of_ble_eq_true rfl)) dX3_acquire_9 ⟨Nat.le_of_ble_eq_true rfl, Nat.le_of_ble_eq_true rfl⟩)
  · refine b_bad (S := Unit) () rfl hno hlocks hP hK hD hS hA (vx_runS (As := [.int (x0), .int (x1)]) (rest := []) ⟨hx, hb, hml, hown, hts⟩ (c_X3_requireTwoCompanies_bad ll hst D _ x0 x1 q_1) (va_cwS 2 hts gX3_acquire_X3_requireTwoCompanies rfl rfl rfl (by decide +kernel) ⟨Nat.le_of_ble_eq_true rfl, Nat.le_of_ble_eq_true rfl⟩) ⟨PY.blind, PY.go0 hK hE hV hDC hS hA⟩ rfl rfl hl.1 rfl (lv_room (Nat.le_of_ble_eq_true rfl)) dX3_acquire_2 ⟨Nat.le_of_ble_eq_true rfl, Nat.le_of_ble_eq_true rfl⟩)
