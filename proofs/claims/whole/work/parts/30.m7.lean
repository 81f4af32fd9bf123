abbrev rmX4_shareNumerator : Room := ({ frames := 3, cells := 0, slots := 0, locals := 80 } : Room)
set_option maxHeartbeats 4000000 in
set_option maxRecDepth 100000 in
theorem c_X4_shareNumerator (ll : Launch) (D : va_G) (a : Nat → Nat) (cI cJ : ClassId) (sz : Nat) (he cm ad gw as de eq re co av hi ke : Nat → Int32) (sq ab be : Nat → Int64) (nw tn : Nat → Int32) (th cd : Int32) (c : Nat) (hc : c < 6) (hB : okB he) (hW : ¬ dW he 0 = 0) : Met ll yX4_shareNumerator wsX4_shareNumerator rmX4_shareNumerator (va_Pc [.ref (a 0), .int (nI (c))] (PW D (tyG cI cJ) (MW a cI cJ he cm ad gw as de eq re co av hi ke sq ab be nw tn th cd) sz)) (va_Ql (fun (rr : Int64) (u : (Nat → Int64) × (Nat → Int64) × (Nat → Int64)) => rr = aF he c) (fun (u : (Nat → Int64) × (Nat → Int64) × (Nat → Int64)) t => AW D (tyG cI cJ) (va_A (MW a cI cJ he cm ad gw as de eq re co av hi ke sq ab be nw tn th cd) sz) (MW a cI cJ he cm ad gw as de eq re co av hi ke (u.1) (u.2.1) (u.2.2) nw tn 0 cd) t) (va_A (MW a cI cJ he cm ad gw as de eq re co av hi ke sq ab be nw tn th cd) sz)) 0 0 (va_A (MW a cI cJ he cm ad gw as de eq re co av hi ke sq ab be nw tn th cd) sz) := by
  refine Met.ofW (cc := cX4_shareNumerator) (maxL := 3) (ret := (some .long)) (by decide) rfl ?_
  intro pp ee ss mm ar bel mth cde s₁ B hml hv
  obtain ⟨rfl, hsz, hP, hK, hD0, hE⟩ := hv
  have hx := B.exec
  have hb := B.bytes
  have hr := B.returns
  have hts := atoms_spec (ws := wsX4_shareNumerator) B.pre
  have hown : ss.vm.findClass RX4 = some mm.cls := findClass_of_methodNamed B.named
  have hlocks := B.notSynchronized
  subst hsz
  have hD := hD0.self (sz := ss.heap.size)
  generalize hAe : va_A (MW a cI cJ he cm ad gw as de eq re co av hi ke sq ab be nw tn th cd) ss.heap.size = A at hD ⊢
  have hA : ∀ q : Nat, ss.heap.size ≤ q → A q := fun q h => by rw [← hAe]; exact Or.inr h
  have hS : va_S A ss.heap ss.heap [] := va_S.rf
  have hin : ∀ w ∈ wsX40, w.before ([.ref (a 0), .int (nI (c))] : List Value).toArray ss = true := fun w h => hts w ((by decide +kernel : ∀ w ∈ wsX40, w ∈ wsX4_shareNumerator) w h)
  have hl := lv_entry [.ref (a 0), .int (nI (c))] (n := 3) (Nat.le_of_ble_eq_true rfl)
  rw [lg_entry_eq]
  generalize (lg_sl [.ref (a 0), .int (nI (c))] ++ List.replicate (3 - (lg_sl [.ref (a 0), .int (nI (c))]).length) Slot.unset).toArray = ls at hl ⊢
  have hl : lv_has ls 3 [(0, .ref (a 0)), (1, .int (nI (c)))] := hl
  refine lv_aload_n hx hb dX4_shareNumerator_0 rfl (lv_at hl 0 rfl) ?_
  refine lv_iconst (v := 0) hx hb dX4_shareNumerator_1 (by decide) ?_
  refine va_put (D := D) (ci := 4) (v := .int (0)) (ty := .int) (C := RX4) (T := TX4) (N := 19) (Ts := wsX40) hx hb hin (fun _ h9 => h9) tyX4 tyX4_ok nmX4 hown hK hP hD hS 0 rfl rfl 0 (by decide) (hts (.fieldLink RX4 62 "GroupbooksModel" "thrown" "I") (by decide +kernel)) (fun _ h9 => h9) rfl (by decide +kernel) rfl rfl (Nat.le_of_ble_eq_true rfl) dX4_shareNumerator_2 (fun H locs hP hD hS => ?_)
  have hP : va_P D vwCl (MW a cI cJ he cm ad gw as de eq re co av hi ke sq ab be nw tn 0 cd) H := hP
  have hD : va_D A (MW a cI cJ he cm ad gw as de eq re co av hi ke sq ab be nw tn 0 cd) := hD
  refine lv_iload_n hx hb dX4_shareNumerator_5 rfl (lv_at hl 1 rfl) ?_
  refine b_csi (v := bI (inB (nI (c)) 0 5)) (W.runS (As := [.int (nI (c))]) (rest := []) ⟨hx, hb, hml, hown, hts⟩ (c_X4_isCompany ll (nI (c)) ) (va_cwS 1 hts gX4_shareNumerator_X4_isCompany rfl rfl rfl (by decide +kernel) ⟨Nat.le_of_ble_eq_true rfl, Nat.le_of_ble_eq_true rfl⟩) ⟨PT.blind, PT.to⟩ rfl rfl hl.1 rfl (lv_room (Nat.le_of_ble_eq_true rfl)) dX4_shareNumerator_6 ⟨Nat.le_of_ble_eq_true rfl, Nat.le_of_ble_eq_true rfl⟩) ?_
  refine lv_if_ne (tgt := 19) hx hb dX4_shareNumerator_9 (by decide) (fun c_1 => ?_) (fun c_1 => ?_)
  · have n_1 : (inB (nI (c)) 0 5) = true := bI1 c_1
    refine lv_aload_n hx hb dX4_shareNumerator_19 rfl (lv_at hl 0 rfl) ?_
    refine b_calli0 (S := Nat → Int64) (w' := fun u_2 => MW a cI cJ he cm ad gw as de eq re co av hi ke u_2 (abK he ab 5) (beK he be 5) nw tn 0 cd) hP hD hS hA (va_runV (As := []) (rest := []) ⟨hx, hb, hml, hown, hts⟩ (c_X4_layShares ll D a cI cJ _ he cm ad gw as de eq re co av hi ke sq ab be nw tn 0 cd  hB hW) (cwV 0 hts gX4_shareNumerator_X4_layShares rfl rfl rfl (by decide +kernel) ⟨Nat.le_of_ble_eq_true rfl, Nat.le_of_ble_eq_true rfl⟩) ⟨PW.blind, va_recv hK hP (ci := 4) (q0 := 0) rfl rfl, PW.go hP hK hD hE⟩ rfl rfl hl.1 rfl (lv_room (Nat.le_of_ble_eq_true rfl)) dX4_shareNumerator_20 ⟨Nat.le_of_ble_eq_true rfl, Nat.le_of_ble_eq_true rfl⟩) (fun r_4 u_2 H locs h_3 hP hD hS => ?_)
    have hz1 := h_3
    refine lv_istore_n (lv' := [(2, .int (r_4)), (0, .ref (a 0)), (1, .int (nI (c)))]) hx hb dX4_shareNumerator_23 rfl hl (by decide) rfl (fun ls hl => ?_)
    refine lv_aload_n hx hb dX4_shareNumerator_24 rfl (lv_at hl 1 rfl) ?_
    refine va_get (D := D) (ci := 4) (v := .ref (a 14)) (C := RX4) (T := TX4) (N := 19) (Ts := wsX40) hx hb hin (fun _ h9 => h9) hown hK hP 0 rfl rfl 15 (by decide) (hts (.fieldLink RX4 50 "GroupbooksModel" "above" "[J") (by decide +kernel)) (fun _ h9 => h9) rfl dX4_shareNumerator_25 ?_
    refine lv_iload_n hx hb dX4_shareNumerator_28 rfl (lv_at hl 2 rfl) ?_
    refine b_lald hx hb hK hP 14 1 (f := (abK he ab 5)) rfl rfl (j := c) (by omega) (by decide) dX4_shareNumerator_29 ?_
    refine b_tl (y := aF he c) (abK_at _ _ 5 c (by omega)) ?_
    refine W.lret hx hb hr (fun t ht hW => ?_) hS.2.2 dX4_shareNumerator_30
    refine ⟨⟨_, (u_2, abK he ab 5, beK he be 5), rfl, ?_, ?_, va_K.moved hW.alike hK, ?_⟩, hS.F ht⟩
    · try dsimp only
      all_goals exact rfl
    · rw [ht]
      try dsimp only
      exact hP
    · try dsimp only
      exact hD
  · have n_1 : ¬ (inB (nI (c)) 0 5) = true := bI0 c_1
    exact absurd (inB_c c hc) n_1

abbrev rmX4_shareNumerator_bad : Room := ({ frames := 2, cells := 0, slots := 0, locals := 42 } : Room)
set_option maxHeartbeats 4000000 in
set_option maxRecDepth 100000 in
theorem c_X4_shareNumerator_bad (ll : Launch) (D : va_G) (a : Nat → Nat) (cI cJ : ClassId) (sz : Nat) (he cm ad gw as de eq re co av hi ke : Nat → Int32) (sq ab be : Nat → Int64) (nw tn : Nat → Int32) (th cd : Int32) (x0 : Int32) (hbad : ¬ inB x0 0 5 = true) : Met ll yX4_shareNumerator wsX4_shareNumerator rmX4_shareNumerator_bad (va_Pc [.ref (a 0), .int (x0)] (PW D (tyG cI cJ) (MW a cI cJ he cm ad gw as de eq re co av hi ke sq ab be nw tn th cd) sz)) (va_Ql (fun (rr : Int64) (u : Unit) => rr = (0 : Int32).toInt64) (fun (u : Unit) t => AW D (tyG cI cJ) (va_A (MW a cI cJ he cm ad gw as de eq re co av hi ke sq ab be nw tn th cd) sz) (MW a cI cJ he cm ad gw as de eq re co av hi ke sq ab be nw tn 1 cd) t) (va_A (MW a cI cJ he cm ad gw as de eq re co av hi ke sq ab be nw tn th cd) sz)) 0 0 (va_A (MW a cI cJ he cm ad gw as de eq re co av hi ke sq ab be nw tn th cd) sz) := by
  refine Met.ofW (cc := cX4_shareNumerator) (maxL := 3) (ret := (some .long)) (by decide) rfl ?_
  intro pp ee ss mm ar bel mth cde s₁ B hml hv
  obtain ⟨rfl, hsz, hP, hK, hD0, hE⟩ := hv
  have hx := B.exec
  have hb := B.bytes
  have hr := B.returns
  have hts := atoms_spec (ws := wsX4_shareNumerator) B.pre
  have hown : ss.vm.findClass RX4 = some mm.cls := findClass_of_methodNamed B.named
  have hlocks := B.notSynchronized
  subst hsz
  have hD := hD0.self (sz := ss.heap.size)
  generalize hAe : va_A (MW a cI cJ he cm ad gw as de eq re co av hi ke sq ab be nw tn th cd) ss.heap.size = A at hD ⊢
  have hA : ∀ q : Nat, ss.heap.size ≤ q → A q := fun q h => by rw [← hAe]; exact Or.inr h
  have hS : va_S A ss.heap ss.heap [] := va_S.rf
  have hin : ∀ w ∈ wsX40, w.before ([.ref (a 0), .int (x0)] : List Value).toArray ss = true := fun w h => hts w ((by decide +kernel : ∀ w ∈ wsX40, w ∈ wsX4_shareNumerator) w h)
  have hl := lv_entry [.ref (a 0), .int (x0)] (n := 3) (Nat.le_of_ble_eq_true rfl)
  rw [lg_entry_eq]
  generalize (lg_sl [.ref (a 0), .int (x0)] ++ List.replicate (3 - (lg_sl [.ref (a 0), .int (x0)]).length) Slot.unset).toArray = ls at hl ⊢
  have hl : lv_has ls 3 [(0, .ref (a 0)), (1, .int (x0))] := hl
  refine lv_aload_n hx hb dX4_shareNumerator_0 rfl (lv_at hl 0 rfl) ?_
  refine lv_iconst (v := 0) hx hb dX4_shareNumerator_1 (by decide) ?_
  refine va_put (D := D) (ci := 4) (v := .int (0)) (ty := .int) (C := RX4) (T := TX4) (N := 19) (Ts := wsX40) hx hb hin (fun _ h9 => h9) tyX4 tyX4_ok nmX4 hown hK hP hD hS 0 rfl rfl 0 (by decide) (hts (.fieldLink RX4 62 "GroupbooksModel" "thrown" "I") (by decide +kernel)) (fun _ h9 => h9) rfl (by decide +kernel) rfl rfl (Nat.le_of_ble_eq_true rfl) dX4_shareNumerator_2 (fun H locs hP hD hS => ?_)
  have hP : va_P D vwCl (MW a cI cJ he cm ad gw as de eq re co av hi ke sq ab be nw tn 0 cd) H := hP
  have hD : va_D A (MW a cI cJ he cm ad gw as de eq re co av hi ke sq ab be nw tn 0 cd) := hD
  refine lv_iload_n hx hb dX4_shareNumerator_5 rfl (lv_at hl 1 rfl) ?_
  refine b_csi (v := bI (inB x0 0 5)) (W.runS (As := [.int (x0)]) (rest := []) ⟨hx, hb, hml, hown, hts⟩ (c_X4_isCompany ll x0 ) (va_cwS 1 hts gX4_shareNumerator_X4_isCompany rfl rfl rfl (by decide +kernel) ⟨Nat.le_of_ble_eq_true rfl, Nat.le_of_ble_eq_true rfl⟩) ⟨PT.blind, PT.to⟩ rfl rfl hl.1 rfl (lv_room (Nat.le_of_ble_eq_true rfl)) dX4_shareNumerator_6 ⟨Nat.le_of_ble_eq_true rfl, Nat.le_of_ble_eq_true rfl⟩) ?_
  refine lv_if_ne (tgt := 19) hx hb dX4_shareNumerator_9 (by decide) (fun c_1 => ?_) (fun c_1 => ?_)
  · have n_1 : (inB x0 0 5) = true := bI1 c_1
    exact absurd n_1 hbad
  · have n_1 : ¬ (inB x0 0 5) = true := bI0 c_1
    refine lv_aload_n hx hb dX4_shareNumerator_12 rfl (lv_at hl 0 rfl) ?_
    refine lv_iconst (v := 1) hx hb dX4_shareNumerator_13 (by decide) ?_
    refine b_calli0 (S := Unit) (w' := fun u => MW a cI cJ he cm ad gw as de eq re co av hi ke sq ab be nw tn 1 cd) hP hD hS hA (va_runV (As := [.int (1)]) (rest := []) ⟨hx, hb, hml, hown, hts⟩ (c_X4_fails ll D a cI cJ _ he cm ad gw as de eq re co av hi ke sq ab be nw tn 0 cd 1 ) (cwV 1 hts gX4_shareNumerator_X4_fails rfl rfl rfl (by decide +kernel) ⟨Nat.le_of_ble_eq_true rfl, Nat.le_of_ble_eq_true rfl⟩) ⟨PW.blind, va_recv hK hP (ci := 4) (q0 := 0) rfl rfl, PW.go hP hK hD hE⟩ rfl rfl hl.1 rfl (lv_room (Nat.le_of_ble_eq_true rfl)) dX4_shareNumerator_14 ⟨Nat.le_of_ble_eq_true rfl, Nat.le_of_ble_eq_true rfl⟩) (fun r_3 u H locs h_2 hP hD hS => ?_)
    have h_2 : r_3 = 0 := h_2
    subst h_2
    refine lv_i2l (v := ((0 : Int32)).toInt64) hx hb dX4_shareNumerator_17 rfl ?_
    exact W.lret hx hb hr (fun t ht hW => ⟨⟨_, (), rfl, rfl, (by rw [ht]; exact hP), va_K.moved hW.alike hK, hD⟩, hS.F ht⟩) hS.2.2 dX4_shareNumerator_18

abbrev rmX4_shareDenominator : Room := ({ frames := 3, cells := 0, slots := 0, locals := 80 } : Room)
set_option maxHeartbeats 4000000 in
set_option maxRecDepth 100000 in
theorem c_X4_shareDenominator (ll : Launch) (D : va_G) (a : Nat → Nat) (cI cJ : ClassId) (sz : Nat) (he cm ad gw as de eq re co av hi ke : Nat → Int32) (sq ab be : Nat → Int64) (nw tn : Nat → Int32) (th cd : Int32) (c : Nat) (hc : c < 6) (hB : okB he) (hW : ¬ dW he 0 = 0) : Met ll yX4_shareDenominator wsX4_shareDenominator rmX4_shareDenominator (va_Pc [.ref (a 0), .int (nI (c))] (PW D (tyG cI cJ) (MW a cI cJ he cm ad gw as de eq re co av hi ke sq ab be nw tn th cd) sz)) (va_Ql (fun (rr : Int64) (u : (Nat → Int64) × (Nat → Int64) × (Nat → Int64)) => rr = bF he c) (fun (u : (Nat → Int64) × (Nat → Int64) × (Nat → Int64)) t => AW D (tyG cI cJ) (va_A (MW a cI cJ he cm ad gw as de eq re co av hi ke sq ab be nw tn th cd) sz) (MW a cI cJ he cm ad gw as de eq re co av hi ke (u.1) (u.2.1) (u.2.2) nw tn 0 cd) t) (va_A (MW a cI cJ he cm ad gw as de eq re co av hi ke sq ab be nw tn th cd) sz)) 0 0 (va_A (MW a cI cJ he cm ad gw as de eq re co av hi ke sq ab be nw tn th cd) sz) := by
  refine Met.ofW (cc := cX4_shareDenominator) (maxL := 3) (ret := (some .long)) (by decide) rfl ?_
  intro pp ee ss mm ar bel mth cde s₁ B hml hv
  obtain ⟨rfl, hsz, hP, hK, hD0, hE⟩ := hv
  have hx := B.exec
  have hb := B.bytes
  have hr := B.returns
  have hts := atoms_spec (ws := wsX4_shareDenominator) B.pre
  have hown : ss.vm.findClass RX4 = some mm.cls := findClass_of_methodNamed B.named
  have hlocks := B.notSynchronized
  subst hsz
  have hD := hD0.self (sz := ss.heap.size)
  generalize hAe : va_A (MW a cI cJ he cm ad gw as de eq re co av hi ke sq ab be nw tn th cd) ss.heap.size = A at hD ⊢
  have hA : ∀ q : Nat, ss.heap.size ≤ q → A q := fun q h => by rw [← hAe]; exact Or.inr h
  have hS : va_S A ss.heap ss.heap [] := va_S.rf
  have hin : ∀ w ∈ wsX40, w.before ([.ref (a 0), .int (nI (c))] : List Value).toArray ss = true := fun w h => hts w ((by decide +kernel : ∀ w ∈ wsX40, w ∈ wsX4_shareDenominator) w h)
  have hl := lv_entry [.ref (a 0), .int (nI (c))] (n := 3) (Nat.le_of_ble_eq_true rfl)
  rw [lg_entry_eq]
  generalize (lg_sl [.ref (a 0), .int (nI (c))] ++ List.replicate (3 - (lg_sl [.ref (a 0), .int (nI (c))]).length) Slot.unset).toArray = ls at hl ⊢
  have hl : lv_has ls 3 [(0, .ref (a 0)), (1, .int (nI (c)))] := hl
  refine lv_aload_n hx hb dX4_shareDenominator_0 rfl (lv_at hl 0 rfl) ?_
  refine lv_iconst (v := 0) hx hb dX4_shareDenominator_1 (by decide) ?_
  refine va_put (D := D) (ci := 4) (v := .int (0)) (ty := .int) (C := RX4) (T := TX4) (N := 19) (Ts := wsX40) hx hb hin (fun _ h9 => h9) tyX4 tyX4_ok nmX4 hown hK hP hD hS 0 rfl rfl 0 (by decide) (hts (.fieldLink RX4 62 "GroupbooksModel" "thrown" "I") (by decide +kernel)) (fun _ h9 => h9) rfl (by decide +kernel) rfl rfl (Nat.le_of_ble_eq_true rfl) dX4_shareDenominator_2 (fun H locs hP hD hS => ?_)
  have hP : va_P D vwCl (MW a cI cJ he cm ad gw as de eq re co av hi ke sq ab be nw tn 0 cd) H := hP
  have hD : va_D A (MW a cI cJ he cm ad gw as de eq re co av hi ke sq ab be nw tn 0 cd) := hD
  refine lv_iload_n hx hb dX4_shareDenominator_5 rfl (lv_at hl 1 rfl) ?_
  refine b_csi (v := bI (inB (nI (c)) 0 5)) (W.runS (As := [.int (nI (c))]) (rest := []) ⟨hx, hb, hml, hown, hts⟩ (c_X4_isCompany ll (nI (c)) ) (va_cwS 1 hts gX4_shareDenominator_X4_isCompany rfl rfl rfl (by decide +kernel) ⟨Nat.le_of_ble_eq_true rfl, Nat.le_of_ble_eq_true rfl⟩) ⟨PT.blind, PT.to⟩ rfl rfl hl.1 rfl (lv_room (Nat.le_of_ble_eq_true rfl)) dX4_shareDenominator_6 ⟨Nat.le_of_ble_eq_true rfl, Nat.le_of_ble_eq_true rfl⟩) ?_
  refine lv_if_ne (tgt := 19) hx hb dX4_shareDenominator_9 (by decide) (fun c_1 => ?_) (fun c_1 => ?_)
  · have n_1 : (inB (nI (c)) 0 5) = true := bI1 c_1
    refine lv_aload_n hx hb dX4_shareDenominator_19 rfl (lv_at hl 0 rfl) ?_
    refine b_calli0 (S := Nat → Int64) (w' := fun u_2 => MW a cI cJ he cm ad gw as de eq re co av hi ke u_2 (abK he ab 5) (beK he be 5) nw tn 0 cd) hP hD hS hA (va_runV (As := []) (rest := []) ⟨hx, hb, hml, hown, hts⟩ (c_X4_layShares ll D a cI cJ _ he cm ad gw as de eq re co av hi ke sq ab be nw tn 0 cd  hB hW) (cwV 0 hts gX4_shareDenominator_X4_layShares rfl rfl rfl (by decide +kernel) ⟨Nat.le_of_ble_eq_true rfl, Nat.le_of_ble_eq_true rfl⟩) ⟨PW.blind, va_recv hK hP (ci := 4) (q0 := 0) rfl rfl, PW.go hP hK hD hE⟩ rfl rfl hl.1 rfl (lv_room (Nat.le_of_ble_eq_true rfl)) dX4_shareDenominator_20 ⟨Nat.le_of_ble_eq_true rfl, Nat.le_of_ble_eq_true rfl⟩) (fun r_4 u_2 H locs h_3 hP hD hS => ?_)
    have hz1 := h_3
    refine lv_istore_n (lv' := [(2, .int (r_4)), (0, .ref (a 0)), (1, .int (nI (c)))]) hx hb dX4_shareDenominator_23 rfl hl (by decide) rfl (fun ls hl => ?_)
    refine lv_aload_n hx hb dX4_shareDenominator_24 rfl (lv_at hl 1 rfl) ?_
    refine va_get (D := D) (ci := 4) (v := .ref (a 15)) (C := RX4) (T := TX4) (N := 19) (Ts := wsX40) hx hb hin (fun _ h9 => h9) hown hK hP 0 rfl rfl 16 (by decide) (hts (.fieldLink RX4 53 "GroupbooksModel" "below" "[J") (by decide +kernel)) (fun _ h9 => h9) rfl dX4_shareDenominator_25 ?_
    refine lv_iload_n hx hb dX4_shareDenominator_28 rfl (lv_at hl 2 rfl) ?_
    refine b_lald hx hb hK hP 15 1 (f := (beK he be 5)) rfl rfl (j := c) (by omega) (by decide) dX4_shareDenominator_29 ?_
    refine b_tl (y := bF he c) (beK_at _ _ 5 c (by omega)) ?_
    refine W.lret hx hb hr (fun t ht hW => ?_) hS.2.2 dX4_shareDenominator_30
    refine ⟨⟨_, (u_2, abK he ab 5, beK he be 5), rfl, ?_, ?_, va_K.moved hW.alike hK, ?_⟩, hS.F ht⟩
    · try dsimp only
      all_goals exact rfl
    · rw [ht]
      try dsimp only
      exact hP
    · try dsimp only
      exact hD
  · have n_1 : ¬ (inB (nI (c)) 0 5) = true := bI0 c_1
    exact absurd (inB_c c hc) n_1

abbrev rmX4_shareDenominator_bad : Room := ({ frames := 2, cells := 0, slots := 0, locals := 42 } : Room)
set_option maxHeartbeats 4000000 in
set_option maxRecDepth 100000 in
theorem c_X4_shareDenominator_bad (ll : Launch) (D : va_G) (a : Nat → Nat) (cI cJ : ClassId) (sz : Nat) (he cm ad gw as de eq re co av hi ke : Nat → Int32) (sq ab be : Nat → Int64) (nw tn : Nat → Int32) (th cd : Int32) (x0 : Int32) (hbad : ¬ inB x0 0 5 = true) : Met ll yX4_shareDenominator wsX4_shareDenominator rmX4_shareDenominator_bad (va_Pc [.ref (a 0), .int (x0)] (PW D (tyG cI cJ) (MW a cI cJ he cm ad gw as de eq re co av hi ke sq ab be nw tn th cd) sz)) (va_Ql (fun (rr : Int64) (u : Unit) => rr = (0 : Int32).toInt64) (fun (u : Unit) t => AW D (tyG cI cJ) (va_A (MW a cI cJ he cm ad gw as de eq re co av hi ke sq ab be nw tn th cd) sz) (MW a cI cJ he cm ad gw as de eq re co av hi ke sq ab be nw tn 1 cd) t) (va_A (MW a cI cJ he cm ad gw as de eq re co av hi ke sq ab be nw tn th cd) sz)) 0 0 (va_A (MW a cI cJ he cm ad gw as de eq re co av hi ke sq ab be nw tn th cd) sz) := by
  refine Met.ofW (cc := cX4_shareDenominator) (maxL := 3) (ret := (some .long)) (by decide) rfl ?_
  intro pp ee ss mm ar bel mth cde s₁ B hml hv
  obtain ⟨rfl, hsz, hP, hK, hD0, hE⟩ := hv
  have hx := B.exec
  have hb := B.bytes
  have hr := B.returns
  have hts := atoms_spec (ws := wsX4_shareDenominator) B.pre
  have hown : ss.vm.findClass RX4 = some mm.cls := findClass_of_methodNamed B.named
  have hlocks := B.notSynchronized
  subst hsz
  have hD := hD0.self (sz := ss.heap.size)
  generalize hAe : va_A (MW a cI cJ he cm ad gw as de eq re co av hi ke sq ab be nw tn th cd) ss.heap.size = A at hD ⊢
  have hA : ∀ q : Nat, ss.heap.size ≤ q → A q := fun q h => by rw [← hAe]; exact Or.inr h
  have hS : va_S A ss.heap ss.heap [] := va_S.rf
  have hin : ∀ w ∈ wsX40, w.before ([.ref (a 0), .int (x0)] : List Value).toArray ss = true := fun w h => hts w ((by decide +kernel : ∀ w ∈ wsX40, w ∈ wsX4_shareDenominator) w h)
  have hl := lv_entry [.ref (a 0), .int (x0)] (n := 3) (Nat.le_of_ble_eq_true rfl)
  rw [lg_entry_eq]
  generalize (lg_sl [.ref (a 0), .int (x0)] ++ List.replicate (3 - (lg_sl [.ref (a 0), .int (x0)]).length) Slot.unset).toArray = ls at hl ⊢
  have hl : lv_has ls 3 [(0, .ref (a 0)), (1, .int (x0))] := hl
  refine lv_aload_n hx hb dX4_shareDenominator_0 rfl (lv_at hl 0 rfl) ?_
  refine lv_iconst (v := 0) hx hb dX4_shareDenominator_1 (by decide) ?_
  refine va_put (D := D) (ci := 4) (v := .int (0)) (ty := .int) (C := RX4) (T := TX4) (N := 19) (Ts := wsX40) hx hb hin (fun _ h9 => h9) tyX4 tyX4_ok nmX4 hown hK hP hD hS 0 rfl rfl 0 (by decide) (hts (.fieldLink RX4 62 "GroupbooksModel" "thrown" "I") (by decide +kernel)) (fun _ h9 => h9) rfl (by decide +kernel) rfl rfl (Nat.le_of_ble_eq_true rfl) dX4_shareDenominator_2 (fun H locs hP hD hS => ?_)
  have hP : va_P D vwCl (MW a cI cJ he cm ad gw as de eq re co av hi ke sq ab be nw tn 0 cd) H := hP
  have hD : va_D A (MW a cI cJ he cm ad gw as de eq re co av hi ke sq ab be nw tn 0 cd) := hD
  refine lv_iload_n hx hb dX4_shareDenominator_5 rfl (lv_at hl 1 rfl) ?_
  refine b_csi (v := bI (inB x0 0 5)) (W.runS (As := [.int (x0)]) (rest := []) ⟨hx, hb, hml, hown, hts⟩ (c_X4_isCompany ll x0 ) (va_cwS 1 hts gX4_shareDenominator_X4_isCompany rfl rfl rfl (by decide +kernel) ⟨Nat.le_of_ble_eq_true rfl, Nat.le_of_ble_eq_true rfl⟩) ⟨PT.blind, PT.to⟩ rfl rfl hl.1 rfl (lv_room (Nat.le_of_ble_eq_true rfl)) dX4_shareDenominator_6 ⟨Nat.le_of_ble_eq_true rfl, Nat.le_of_ble_eq_true rfl⟩) ?_
  refine lv_if_ne (tgt := 19) hx hb dX4_shareDenominator_9 (by decide) (fun c_1 => ?_) (fun c_1 => ?_)
  · have n_1 : (inB x0 0 5) = true := bI1 c_1
    exact absurd n_1 hbad
  · have n_1 : ¬ (inB x0 0 5) = true := bI0 c_1
    refine lv_aload_n hx hb dX4_shareDenominator_12 rfl (lv_at hl 0 rfl) ?_
    refine lv_iconst (v := 1) hx hb dX4_shareDenominator_13 (by decide) ?_
    refine b_calli0 (S := Unit) (w' := fun u => MW a cI cJ he cm ad gw as de eq re co av hi ke sq ab be nw tn 1 cd) hP hD hS hA (va_runV (As := [.int (1)]) (rest := []) ⟨hx, hb, hml, hown, hts⟩ (c_X4_fails ll D a cI cJ _ he cm ad gw as de eq re co av hi ke sq ab be nw tn 0 cd 1 ) (cwV 1 hts gX4_shareDenominator_X4_fails rfl rfl rfl (by decide +kernel) ⟨Nat.le_of_ble_eq_true rfl, Nat.le_of_ble_eq_true rfl⟩) ⟨PW.blind, va_recv hK hP (ci := 4) (q0 := 0) rfl rfl, PW.go hP hK hD hE⟩ rfl rfl hl.1 rfl (lv_room (Nat.le_of_ble_eq_true rfl)) dX4_shareDenominator_14 ⟨Nat.le_of_ble_eq_true rfl, Nat.le_of_ble_eq_true rfl⟩) (fun r_3 u H locs h_2 hP hD hS => ?_)
    have h_2 : r_3 = 0 := h_2
    subst h_2
    refine lv_i2l (v := ((0 : Int32)).toInt64) hx hb dX4_shareDenominator_17 rfl ?_
    exact W.lret hx hb hr (fun t ht hW => ⟨⟨_, (), rfl, rfl, (by rw [ht]; exact hP), va_K.moved hW.alike hK, hD⟩, hS.F ht⟩) hS.2.2 dX4_shareDenominator_18

abbrev rmX4_group : Room := ({ frames := 1, cells := 0, slots := 0, locals := 25 } : Room)
set_option maxHeartbeats 4000000 in
set_option maxRecDepth 100000 in
theorem c_X4_group (ll : Launch) (D : va_G) (a : Nat → Nat) (cI cJ : ClassId) (sz : Nat) (he cm ad gw as de eq re co av hi ke : Nat → Int32) (sq ab be : Nat → Int64) (nw tn : Nat → Int32) (th cd : Int32)   : Met ll yX4_group wsX4_group rmX4_group (va_Pc [.ref (a 0)] (PW D (tyG cI cJ) (MW a cI cJ he cm ad gw as de eq re co av hi ke sq ab be nw tn th cd) sz)) (va_Qi (fun (rr : Int32) (u : Unit) => rr = nI (grp he)) (fun (u : Unit) t => AW D (tyG cI cJ) (va_A (MW a cI cJ he cm ad gw as de eq re co av hi ke sq ab be nw tn th cd) sz) (MW a cI cJ he cm ad gw as de eq re co av hi ke sq ab be nw tn 0 cd) t) (va_A (MW a cI cJ he cm ad gw as de eq re co av hi ke sq ab be nw tn th cd) sz)) 0 0 (va_A (MW a cI cJ he cm ad gw as de eq re co av hi ke sq ab be nw tn th cd) sz) := by
  refine Met.ofW (cc := cX4_group) (maxL := 1) (ret := (some .int)) (by decide) rfl ?_
  intro pp ee ss mm ar bel mth cde s₁ B hml hv
  obtain ⟨rfl, hsz, hP, hK, hD0, hE⟩ := hv
  have hx := B.exec
  have hb := B.bytes
  have hr := B.returns
  have hts := atoms_spec (ws := wsX4_group) B.pre
  have hown : ss.vm.findClass RX4 = some mm.cls := findClass_of_methodNamed B.named
  have hlocks := B.notSynchronized
  subst hsz
  have hD := hD0.self (sz := ss.heap.size)
  generalize hAe : va_A (MW a cI cJ he cm ad gw as de eq re co av hi ke sq ab be nw tn th cd) ss.heap.size = A at hD ⊢
  have hA : ∀ q : Nat, ss.heap.size ≤ q → A q := fun q h => by rw [← hAe]; exact Or.inr h
  have hS : va_S A ss.heap ss.heap [] := va_S.rf
  have hin : ∀ w ∈ wsX40, w.before ([.ref (a 0)] : List Value).toArray ss = true := fun w h => hts w ((by decide +kernel : ∀ w ∈ wsX40, w ∈ wsX4_group) w h)
  have hl := lv_entry [.ref (a 0)] (n := 1) (Nat.le_of_ble_eq_true rfl)
  rw [lg_entry_eq]
  generalize (lg_sl [.ref (a 0)] ++ List.replicate (1 - (lg_sl [.ref (a 0)]).length) Slot.unset).toArray = ls at hl ⊢
  have hl : lv_has ls 1 [(0, .ref (a 0))] := hl
  refine lv_aload_n hx hb dX4_group_0 rfl (lv_at hl 0 rfl) ?_
  refine lv_iconst (v := 0) hx hb dX4_group_1 (by decide) ?_
  refine va_put (D := D) (ci := 4) (v := .int (0)) (ty := .int) (C := RX4) (T := TX4) (N := 19) (Ts := wsX40) hx hb hin (fun _ h9 => h9) tyX4 tyX4_ok nmX4 hown hK hP hD hS 0 rfl rfl 0 (by decide) (hts (.fieldLink RX4 62 "GroupbooksModel" "thrown" "I") (by decide +kernel)) (fun _ h9 => h9) rfl (by decide +kernel) rfl rfl (Nat.le_of_ble_eq_true rfl) dX4_group_2 (fun H locs hP hD hS => ?_)
  have hP : va_P D vwCl (MW a cI cJ he cm ad gw as de eq re co av hi ke sq ab be nw tn 0 cd) H := hP
  have hD : va_D A (MW a cI cJ he cm ad gw as de eq re co av hi ke sq ab be nw tn 0 cd) := hD
  refine lv_aload_n hx hb dX4_group_5 rfl (lv_at hl 0 rfl) ?_
  refine b_csi (v := nI (grp he)) (W.runV (As := []) (rest := []) ⟨hx, hb, hml, hown, hts⟩ (c_X4_groupSet ll D a cI cJ he cm ad gw as de eq re co av hi ke sq ab be nw tn 0 cd  ) (cwV 0 hts gX4_group_X4_groupSet rfl rfl rfl (by decide +kernel) ⟨Nat.le_of_ble_eq_true rfl, Nat.le_of_ble_eq_true rfl⟩) ⟨PR.blind, va_recv hK hP (ci := 4) (q0 := 0) rfl rfl, PR.go hP hK hE⟩ rfl rfl hl.1 rfl (lv_room (Nat.le_of_ble_eq_true rfl)) dX4_group_6 ⟨Nat.le_of_ble_eq_true rfl, Nat.le_of_ble_eq_true rfl⟩) ?_
  exact W.iret hx hb hr (fun t ht hW => ⟨⟨_, (), rfl, rfl, (by rw [ht]; exact hP), va_K.moved hW.alike hK, hD⟩, hS.F ht⟩) hS.2.2 dX4_group_9

abbrev rmX4_goodwill : Room := ({ frames := 2, cells := 0, slots := 0, locals := 42 } : Room)
set_option maxHeartbeats 4000000 in
set_option maxRecDepth 100000 in
theorem c_X4_goodwill (ll : Launch) (D : va_G) (a : Nat → Nat) (cI cJ : ClassId) (sz : Nat) (he cm ad gw as de eq re co av hi ke : Nat → Int32) (sq ab be : Nat → Int64) (nw tn : Nat → Int32) (th cd : Int32) (c : Nat) (hc : c < 6) : Met ll yX4_goodwill wsX4_goodwill rmX4_goodwill (va_Pc [.ref (a 0), .int (nI (c))] (PW D (tyG cI cJ) (MW a cI cJ he cm ad gw as de eq re co av hi ke sq ab be nw tn th cd) sz)) (va_Qi (fun (rr : Int32) (u : Unit) => rr = gw c) (fun (u : Unit) t => AW D (tyG cI cJ) (va_A (MW a cI cJ he cm ad gw as de eq re co av hi ke sq ab be nw tn th cd) sz) (MW a cI cJ he cm ad gw as de eq re co av hi ke sq ab be nw tn 0 cd) t) (va_A (MW a cI cJ he cm ad gw as de eq re co av hi ke sq ab be nw tn th cd) sz)) 0 0 (va_A (MW a cI cJ he cm ad gw as de eq re co av hi ke sq ab be nw tn th cd) sz) := by
  refine Met.ofW (cc := cX4_goodwill) (maxL := 2) (ret := (some .int)) (by decide) rfl ?_
  intro pp ee ss mm ar bel mth cde s₁ B hml hv
  obtain ⟨rfl, hsz, hP, hK, hD0, hE⟩ := hv
  have hx := B.exec
  have hb := B.bytes
  have hr := B.returns
  have hts := atoms_spec (ws := wsX4_goodwill) B.pre
  have hown : ss.vm.findClass RX4 = some mm.cls := findClass_of_methodNamed B.named
  have hlocks := B.notSynchronized
  subst hsz
  have hD := hD0.self (sz := ss.heap.size)
  generalize hAe : va_A (MW a cI cJ he cm ad gw as de eq re co av hi ke sq ab be nw tn th cd) ss.heap.size = A at hD ⊢
  have hA : ∀ q : Nat, ss.heap.size ≤ q → A q := fun q h => by rw [← hAe]; exact Or.inr h
  have hS : va_S A ss.heap ss.heap [] := va_S.rf
  have hin : ∀ w ∈ wsX40, w.before ([.ref (a 0), .int (nI (c))] : List Value).toArray ss = true := fun w h => hts w ((by decide +kernel : ∀ w ∈ wsX40, w ∈ wsX4_goodwill) w h)
  have hl := lv_entry [.ref (a 0), .int (nI (c))] (n := 2) (Nat.le_of_ble_eq_true rfl)
  rw [lg_entry_eq]
  generalize (lg_sl [.ref (a 0), .int (nI (c))] ++ List.replicate (2 - (lg_sl [.ref (a 0), .int (nI (c))]).length) Slot.unset).toArray = ls at hl ⊢
  have hl : lv_has ls 2 [(0, .ref (a 0)), (1, .int (nI (c)))] := hl
  refine lv_aload_n hx hb dX4_goodwill_0 rfl (lv_at hl 0 rfl) ?_
  refine lv_iconst (v := 0) hx hb dX4_goodwill_1 (by decide) ?_
  refine va_put (D := D) (ci := 4) (v := .int (0)) (ty := .int) (C := RX4) (T := TX4) (N := 19) (Ts := wsX40) hx hb hin (fun _ h9 => h9) tyX4 tyX4_ok nmX4 hown hK hP hD hS 0 rfl rfl 0 (by decide) (hts (.fieldLink RX4 62 "GroupbooksModel" "thrown" "I") (by decide +kernel)) (fun _ h9 => h9) rfl (by decide +kernel) rfl rfl (Nat.le_of_ble_eq_true rfl) dX4_goodwill_2 (fun H locs hP hD hS => ?_)
  have hP : va_P D vwCl (MW a cI cJ he cm ad gw as de eq re co av hi ke sq ab be nw tn 0 cd) H := hP
  have hD : va_D A (MW a cI cJ he cm ad gw as de eq re co av hi ke sq ab be nw tn 0 cd) := hD
  refine lv_iload_n hx hb dX4_goodwill_5 rfl (lv_at hl 1 rfl) ?_
  refine b_csi (v := bI (inB (nI (c)) 0 5)) (W.runS (As := [.int (nI (c))]) (rest := []) ⟨hx, hb, hml, hown, hts⟩ (c_X4_isCompany ll (nI (c)) ) (va_cwS 1 hts gX4_goodwill_X4_isCompany rfl rfl rfl (by decide +kernel) ⟨Nat.le_of_ble_eq_true rfl, Nat.le_of_ble_eq_true rfl⟩) ⟨PT.blind, PT.to⟩ rfl rfl hl.1 rfl (lv_room (Nat.le_of_ble_eq_true rfl)) dX4_goodwill_6 ⟨Nat.le_of_ble_eq_true rfl, Nat.le_of_ble_eq_true rfl⟩) ?_
  refine lv_if_eq (tgt := 21) hx hb dX4_goodwill_9 (by decide) (fun c_1 => ?_) (fun c_1 => ?_)
  · have n_1 : ¬ (inB (nI (c)) 0 5) = true := bI0 c_1
    exact absurd (inB_c c hc) n_1
  · have n_1 : (inB (nI (c)) 0 5) = true := bI1 c_1
    refine lv_aload_n hx hb dX4_goodwill_12 rfl (lv_at hl 0 rfl) ?_
    refine va_get (D := D) (ci := 4) (v := .ref (a 4)) (C := RX4) (T := TX4) (N := 19) (Ts := wsX40) hx hb hin (fun _ h9 => h9) hown hK hP 0 rfl rfl 4 (by decide) (hts (.fieldLink RX4 19 "GroupbooksModel" "goodwill" "[I") (by decide +kernel)) (fun _ h9 => h9) rfl dX4_goodwill_13 ?_
    refine lv_iload_n hx hb dX4_goodwill_16 rfl (lv_at hl 1 rfl) ?_
    refine b_iald hx hb hK hP 4 0 (f := gw) rfl rfl (j := c) (by omega) (by decide) dX4_goodwill_17 ?_
    refine lv_goto (tgt := 26) hx hb dX4_goodwill_18 (by decide) ?_
    exact W.iret hx hb hr (fun t ht hW => ⟨⟨_, (), rfl, rfl, (by rw [ht]; exact hP), va_K.moved hW.alike hK, hD⟩, hS.F ht⟩) hS.2.2 dX4_goodwill_26

abbrev rmX4_goodwill_bad : Room := ({ frames := 2, cells := 0, slots := 0, locals := 42 } : Room)
set_option maxHeartbeats 4000000 in
set_option maxRecDepth 100000 in
theorem c_X4_goodwill_bad (ll : Launch) (D : va_G) (a : Nat → Nat) (cI cJ : ClassId) (sz : Nat) (he cm ad gw as de eq re co av hi ke : Nat → Int32) (sq ab be : Nat → Int64) (nw tn : Nat → Int32) (th cd : Int32) (x0 : Int32) (hbad : ¬ inB x0 0 5 = true) : Met ll yX4_goodwill wsX4_goodwill rmX4_goodwill_bad (va_Pc [.ref (a 0), .int (x0)] (PW D (tyG cI cJ) (MW a cI cJ he cm ad gw as de eq re co av hi ke sq ab be nw tn th cd) sz)) (va_Qi (fun (rr : Int32) (u : Unit) => rr = 0) (fun (u : Unit) t => AW D (tyG cI cJ) (va_A (MW a cI cJ he cm ad gw as de eq re co av hi ke sq ab be nw tn th cd) sz) (MW a cI cJ he cm ad gw as de eq re co av hi ke sq ab be nw tn 1 cd) t) (va_A (MW a cI cJ he cm ad gw as de eq re co av hi ke sq ab be nw tn th cd) sz)) 0 0 (va_A (MW a cI cJ he cm ad gw as de eq re co av hi ke sq ab be nw tn th cd) sz) := by
  refine Met.ofW (cc := cX4_goodwill) (maxL := 2) (ret := (some .int)) (by decide) rfl ?_
  intro pp ee ss mm ar bel mth cde s₁ B hml hv
  obtain ⟨rfl, hsz, hP, hK, hD0, hE⟩ := hv
  have hx := B.exec
  have hb := B.bytes
  have hr := B.returns
  have hts := atoms_spec (ws := wsX4_goodwill) B.pre
  have hown : ss.vm.findClass RX4 = some mm.cls := findClass_of_methodNamed B.named
  have hlocks := B.notSynchronized
  subst hsz
  have hD := hD0.self (sz := ss.heap.size)
  generalize hAe : va_A (MW a cI cJ he cm ad gw as de eq re co av hi ke sq ab be nw tn th cd) ss.heap.size = A at hD ⊢
  have hA : ∀ q : Nat, ss.heap.size ≤ q → A q := fun q h => by rw [← hAe]; exact Or.inr h
  have hS : va_S A ss.heap ss.heap [] := va_S.rf
  have hin : ∀ w ∈ wsX40, w.before ([.ref (a 0), .int (x0)] : List Value).toArray ss = true := fun w h => hts w ((by decide +kernel : ∀ w ∈ wsX40, w ∈ wsX4_goodwill) w h)
  have hl := lv_entry [.ref (a 0), .int (x0)] (n := 2) (Nat.le_of_ble_eq_true rfl)
  rw [lg_entry_eq]
  generalize (lg_sl [.ref (a 0), .int (x0)] ++ List.replicate (2 - (lg_sl [.ref (a 0), .int (x0)]).length) Slot.unset).toArray = ls at hl ⊢
  have hl : lv_has ls 2 [(0, .ref (a 0)), (1, .int (x0))] := hl
  refine lv_aload_n hx hb dX4_goodwill_0 rfl (lv_at hl 0 rfl) ?_
  refine lv_iconst (v := 0) hx hb dX4_goodwill_1 (by decide) ?_
  refine va_put (D := D) (ci := 4) (v := .int (0)) (ty := .int) (C := RX4) (T := TX4) (N := 19) (Ts := wsX40) hx hb hin (fun _ h9 => h9) tyX4 tyX4_ok nmX4 hown hK hP hD hS 0 rfl rfl 0 (by decide) (hts (.fieldLink RX4 62 "GroupbooksModel" "thrown" "I") (by decide +kernel)) (fun _ h9 => h9) rfl (by decide +kernel) rfl rfl (Nat.le_of_ble_eq_true rfl) dX4_goodwill_2 (fun H locs hP hD hS => ?_)
  have hP : va_P D vwCl (MW a cI cJ he cm ad gw as de eq re co av hi ke sq ab be nw tn 0 cd) H := hP
  have hD : va_D A (MW a cI cJ he cm ad gw as de eq re co av hi ke sq ab be nw tn 0 cd) := hD
  refine lv_iload_n hx hb dX4_goodwill_5 rfl (lv_at hl 1 rfl) ?_
  refine b_csi (v := bI (inB x0 0 5)) (W.runS (As := [.int (x0)]) (rest := []) ⟨hx, hb, hml, hown, hts⟩ (c_X4_isCompany ll x0 ) (va_cwS 1 hts gX4_goodwill_X4_isCompany rfl rfl rfl (by decide +kernel) ⟨Nat.le_of_ble_eq_true rfl, Nat.le_of_ble_eq_true rfl⟩) ⟨PT.blind, PT.to⟩ rfl rfl hl.1 rfl (lv_room (Nat.le_of_ble_eq_true rfl)) dX4_goodwill_6 ⟨Nat.le_of_ble_eq_true rfl, Nat.le_of_ble_eq_true rfl⟩) ?_
  refine lv_if_eq (tgt := 21) hx hb dX4_goodwill_9 (by decide) (fun c_1 => ?_) (fun c_1 => ?_)
  · have n_1 : ¬ (inB x0 0 5) = true := bI0 c_1
    refine lv_aload_n hx hb dX4_goodwill_21 rfl (lv_at hl 0 rfl) ?_
    refine lv_iconst (v := 1) hx hb dX4_goodwill_22 (by decide) ?_
    refine b_calli0 (S := Unit) (w' := fun u => MW a cI cJ he cm ad gw as de eq re co av hi ke sq ab be nw tn 1 cd) hP hD hS hA (va_runV (As := [.int (1)]) (rest := []) ⟨hx, hb, hml, hown, hts⟩ (c_X4_fails ll D a cI cJ _ he cm ad gw as de eq re co av hi ke sq ab be nw tn 0 cd 1 ) (cwV 1 hts gX4_goodwill_X4_fails rfl rfl rfl (by decide +kernel) ⟨Nat.le_of_ble_eq_true rfl, Nat.le_of_ble_eq_true rfl⟩) ⟨PW.blind, va_recv hK hP (ci := 4) (q0 := 0) rfl rfl, PW.go hP hK hD hE⟩ rfl rfl hl.1 rfl (lv_room (Nat.le_of_ble_eq_true rfl)) dX4_goodwill_23 ⟨Nat.le_of_ble_eq_true rfl, Nat.le_of_ble_eq_true rfl⟩) (fun r_3 u H locs h_2 hP hD hS => ?_)
    have h_2 : r_3 = 0 := h_2
    subst h_2
    exact W.iret hx hb hr (fun t ht hW => ⟨⟨_, (), rfl, rfl, (by rw [ht]; exact hP), va_K.moved hW.alike hK, hD⟩, hS.F ht⟩) hS.2.2 dX4_goodwill_26
  · have n_1 : (inB x0 0 5) = true := bI1 c_1
    exact absurd n_1 hbad

abbrev rmX4_netValue : Room := ({ frames := 3, cells := 0, slots := 0, locals := 67 } : Room)
set_option maxHeartbeats 4000000 in
set_option maxRecDepth 100000 in
theorem c_X4_netValue (ll : Launch) (D : va_G) (a : Nat → Nat) (cI cJ : ClassId) (sz : Nat) (he cm ad gw as de eq re co av hi ke : Nat → Int32) (sq ab be : Nat → Int64) (nw tn : Nat → Int32) (th cd : Int32) (c : Nat) (hc : c < 6) : Met ll yX4_netValue wsX4_netValue rmX4_netValue (va_Pc [.ref (a 0), .int (nI (c))] (PW D (tyG cI cJ) (MW a cI cJ he cm ad gw as de eq re co av hi ke sq ab be nw tn th cd) sz)) (va_Qi (fun (rr : Int32) (u : Unit) => rr = ntM as de co c) (fun (u : Unit) t => AW D (tyG cI cJ) (va_A (MW a cI cJ he cm ad gw as de eq re co av hi ke sq ab be nw tn th cd) sz) (MW a cI cJ he cm ad gw as de eq re co av hi ke sq ab be nw tn 0 cd) t) (va_A (MW a cI cJ he cm ad gw as de eq re co av hi ke sq ab be nw tn th cd) sz)) 0 0 (va_A (MW a cI cJ he cm ad gw as de eq re co av hi ke sq ab be nw tn th cd) sz) := by
  refine Met.ofW (cc := cX4_netValue) (maxL := 2) (ret := (some .int)) (by decide) rfl ?_
  intro pp ee ss mm ar bel mth cde s₁ B hml hv
  obtain ⟨rfl, hsz, hP, hK, hD0, hE⟩ := hv
  have hx := B.exec
  have hb := B.bytes
  have hr := B.returns
  have hts := atoms_spec (ws := wsX4_netValue) B.pre
  have hown : ss.vm.findClass RX4 = some mm.cls := findClass_of_methodNamed B.named
  have hlocks := B.notSynchronized
  subst hsz
  have hD := hD0.self (sz := ss.heap.size)
  generalize hAe : va_A (MW a cI cJ he cm ad gw as de eq re co av hi ke sq ab be nw tn th cd) ss.heap.size = A at hD ⊢
  have hA : ∀ q : Nat, ss.heap.size ≤ q → A q := fun q h => by rw [← hAe]; exact Or.inr h
  have hS : va_S A ss.heap ss.heap [] := va_S.rf
  have hin : ∀ w ∈ wsX40, w.before ([.ref (a 0), .int (nI (c))] : List Value).toArray ss = true := fun w h => hts w ((by decide +kernel : ∀ w ∈ wsX40, w ∈ wsX4_netValue) w h)
  have hl := lv_entry [.ref (a 0), .int (nI (c))] (n := 2) (Nat.le_of_ble_eq_true rfl)
  rw [lg_entry_eq]
  generalize (lg_sl [.ref (a 0), .int (nI (c))] ++ List.replicate (2 - (lg_sl [.ref (a 0), .int (nI (c))]).length) Slot.unset).toArray = ls at hl ⊢
  have hl : lv_has ls 2 [(0, .ref (a 0)), (1, .int (nI (c)))] := hl
  refine lv_aload_n hx hb dX4_netValue_0 rfl (lv_at hl 0 rfl) ?_
  refine lv_iconst (v := 0) hx hb dX4_netValue_1 (by decide) ?_
  refine va_put (D := D) (ci := 4) (v := .int (0)) (ty := .int) (C := RX4) (T := TX4) (N := 19) (Ts := wsX40) hx hb hin (fun _ h9 => h9) tyX4 tyX4_ok nmX4 hown hK hP hD hS 0 rfl rfl 0 (by decide) (hts (.fieldLink RX4 62 "GroupbooksModel" "thrown" "I") (by decide +kernel)) (fun _ h9 => h9) rfl (by decide +kernel) rfl rfl (Nat.le_of_ble_eq_true rfl) dX4_netValue_2 (fun H locs hP hD hS => ?_)
  have hP : va_P D vwCl (MW a cI cJ he cm ad gw as de eq re co av hi ke sq ab be nw tn 0 cd) H := hP
  have hD : va_D A (MW a cI cJ he cm ad gw as de eq re co av hi ke sq ab be nw tn 0 cd) := hD
  refine lv_iload_n hx hb dX4_netValue_5 rfl (lv_at hl 1 rfl) ?_
  refine b_csi (v := bI (inB (nI (c)) 0 5)) (W.runS (As := [.int (nI (c))]) (rest := []) ⟨hx, hb, hml, hown, hts⟩ (c_X4_isCompany ll (nI (c)) ) (va_cwS 1 hts gX4_netValue_X4_isCompany rfl rfl rfl (by decide +kernel) ⟨Nat.le_of_ble_eq_true rfl, Nat.le_of_ble_eq_true rfl⟩) ⟨PT.blind, PT.to⟩ rfl rfl hl.1 rfl (lv_room (Nat.le_of_ble_eq_true rfl)) dX4_netValue_6 ⟨Nat.le_of_ble_eq_true rfl, Nat.le_of_ble_eq_true rfl⟩) ?_
  refine lv_if_eq (tgt := 20) hx hb dX4_netValue_9 (by decide) (fun c_1 => ?_) (fun c_1 => ?_)
  · have n_1 : ¬ (inB (nI (c)) 0 5) = true := bI0 c_1
    exact absurd (inB_c c hc) n_1
  · have n_1 : (inB (nI (c)) 0 5) = true := bI1 c_1
    refine lv_aload_n hx hb dX4_netValue_12 rfl (lv_at hl 0 rfl) ?_
    refine lv_iload_n hx hb dX4_netValue_13 rfl (lv_at hl 1 rfl) ?_
    refine b_csi (v := ntM as de co c) (W.runV (As := [.int (nI (c))]) (rest := []) ⟨hx, hb, hml, hown, hts⟩ (c_X4_net ll D a cI cJ he cm ad gw as de eq re co av hi ke sq ab be nw tn 0 cd c (by omega)) (cwV 1 hts gX4_netValue_X4_net rfl rfl rfl (by decide +kernel) ⟨Nat.le_of_ble_eq_true rfl, Nat.le_of_ble_eq_true rfl⟩) ⟨PR.blind, va_recv hK hP (ci := 4) (q0 := 0) rfl rfl, PR.go hP hK hE⟩ rfl rfl hl.1 rfl (lv_room (Nat.le_of_ble_eq_true rfl)) dX4_netValue_14 ⟨Nat.le_of_ble_eq_true rfl, Nat.le_of_ble_eq_true rfl⟩) ?_
    refine lv_goto (tgt := 25) hx hb dX4_netValue_17 (by decide) ?_
    exact W.iret hx hb hr (fun t ht hW => ⟨⟨_, (), rfl, rfl, (by rw [ht]; exact hP), va_K.moved hW.alike hK, hD⟩, hS.F ht⟩) hS.2.2 dX4_netValue_25

abbrev rmX4_netValue_bad : Room := ({ frames := 2, cells := 0, slots := 0, locals := 42 } : Room)
set_option maxHeartbeats 4000000 in
set_option maxRecDepth 100000 in
theorem c_X4_netValue_bad (ll : Launch) (D : va_G) (a : Nat → Nat) (cI cJ : ClassId) (sz : Nat) (he cm ad gw as de eq re co av hi ke : Nat → Int32) (sq ab be : Nat → Int64) (nw tn : Nat → Int32) (th cd : Int32) (x0 : Int32) (hbad : ¬ inB x0 0 5 = true) : Met ll yX4_netValue wsX4_netValue rmX4_netValue_bad (va_Pc [.ref (a 0), .int (x0)] (PW D (tyG cI cJ) (MW a cI cJ he cm ad gw as de eq re co av hi ke sq ab be nw tn th cd) sz)) (va_Qi (fun (rr : Int32) (u : Unit) => rr = 0) (fun (u : Unit) t => AW D (tyG cI cJ) (va_A (MW a cI cJ he cm ad gw as de eq re co av hi ke sq ab be nw tn th cd) sz) (MW a cI cJ he cm ad gw as de eq re co av hi ke sq ab be nw tn 1 cd) t) (va_A (MW a cI cJ he cm ad gw as de eq re co av hi ke sq ab be nw tn th cd) sz)) 0 0 (va_A (MW a cI cJ he cm ad gw as de eq re co av hi ke sq ab be nw tn th cd) sz) := by
  refine Met.ofW (cc := cX4_netValue) (maxL := 2) (ret := (some .int)) (by decide) rfl ?_
  intro pp ee ss mm ar bel mth cde s₁ B hml hv
  obtain ⟨rfl, hsz, hP, hK, hD0, hE⟩ := hv
  have hx := B.exec
  have hb := B.bytes
  have hr := B.returns
  have hts := atoms_spec (ws := wsX4_netValue) B.pre
  have hown : ss.vm.findClass RX4 = some mm.cls := findClass_of_methodNamed B.named
  have hlocks := B.notSynchronized
  subst hsz
  have hD := hD0.self (sz := ss.heap.size)
  generalize hAe : va_A (MW a cI cJ he cm ad gw as de eq re co av hi ke sq ab be nw tn th cd) ss.heap.size = A at hD ⊢
  have hA : ∀ q : Nat, ss.heap.size ≤ q → A q := fun q h => by rw [← hAe]; exact Or.inr h
  have hS : va_S A ss.heap ss.heap [] := va_S.rf
  have hin : ∀ w ∈ wsX40, w.before ([.ref (a 0), .int (x0)] : List Value).toArray ss = true := fun w h => hts w ((by decide +kernel : ∀ w ∈ wsX40, w ∈ wsX4_netValue) w h)
  have hl := lv_entry [.ref (a 0), .int (x0)] (n := 2) (Nat.le_of_ble_eq_true rfl)
  rw [lg_entry_eq]
  generalize (lg_sl [.ref (a 0), .int (x0)] ++ List.replicate (2 - (lg_sl [.ref (a 0), .int (x0)]).length) Slot.unset).toArray = ls at hl ⊢
  have hl : lv_has ls 2 [(0, .ref (a 0)), (1, .int (x0))] := hl
  refine lv_aload_n hx hb dX4_netValue_0 rfl (lv_at hl 0 rfl) ?_
  refine lv_iconst (v := 0) hx hb dX4_netValue_1 (by decide) ?_
  refine va_put (D := D) (ci := 4) (v := .int (0)) (ty := .int) (C := RX4) (T := TX4) (N := 19) (Ts := wsX40) hx hb hin (fun _ h9 => h9) tyX4 tyX4_ok nmX4 hown hK hP hD hS 0 rfl rfl 0 (by decide) (hts (.fieldLink RX4 62 "GroupbooksModel" "thrown" "I") (by decide +kernel)) (fun _ h9 => h9) rfl (by decide +kernel) rfl rfl (Nat.le_of_ble_eq_true rfl) dX4_netValue_2 (fun H locs hP hD hS => ?_)
  have hP : va_P D vwCl (MW a cI cJ he cm ad gw as de eq re co av hi ke sq ab be nw tn 0 cd) H := hP
  have hD : va_D A (MW a cI cJ he cm ad gw as de eq re co av hi ke sq ab be nw tn 0 cd) := hD
  refine lv_iload_n hx hb dX4_netValue_5 rfl (lv_at hl 1 rfl) ?_
  refine b_csi (v := bI (inB x0 0 5)) (W.runS (As := [.int (x0)]) (rest := []) ⟨hx, hb, hml, hown, hts⟩ (c_X4_isCompany ll x0 ) (va_cwS 1 hts gX4_netValue_X4_isCompany rfl rfl rfl (by decide +kernel) ⟨Nat.le_of_ble_eq_true rfl, Nat.le_of_ble_eq_true rfl⟩) ⟨PT.blind, PT.to⟩ rfl rfl hl.1 rfl (lv_room (Nat.le_of_ble_eq_true rfl)) dX4_netValue_6 ⟨Nat.le_of_ble_eq_true rfl, Nat.le_of_ble_eq_true rfl⟩) ?_
  refine lv_if_eq (tgt := 20) hx hb dX4_netValue_9 (by decide) (fun c_1 => ?_) (fun c_1 => ?_)
  · have n_1 : ¬ (inB x0 0 5) = true := bI0 c_1
    refine lv_aload_n hx hb dX4_netValue_20 rfl (lv_at hl 0 rfl) ?_
    refine lv_iconst (v := 1) hx hb dX4_netValue_21 (by decide) ?_
    refine b_calli0 (S := Unit) (w' := fun u => MW a cI cJ he cm ad gw as de eq re co av hi ke sq ab be nw tn 1 cd) hP hD hS hA (va_runV (As := [.int (1)]) (rest := []) ⟨hx, hb, hml, hown, hts⟩ (c_X4_fails ll D a cI cJ _ he cm ad gw as de eq re co av hi ke sq ab be nw tn 0 cd 1 ) (cwV 1 hts gX4_netValue_X4_fails rfl rfl rfl (by decide +kernel) ⟨Nat.le_of_ble_eq_true rfl, Nat.le_of_ble_eq_true rfl⟩) ⟨PW.blind, va_recv hK hP (ci := 4) (q0 := 0) rfl rfl, PW.go hP hK hD hE⟩ rfl rfl hl.1 rfl (lv_room (Nat.le_of_ble_eq_true rfl)) dX4_netValue_22 ⟨Nat.le_of_ble_eq_true rfl, Nat.le_of_ble_eq_true rfl⟩) (fun r_3 u H locs h_2 hP hD hS => ?_)
    have h_2 : r_3 = 0 := h_2
    subst h_2
    exact W.iret hx hb hr (fun t ht hW => ⟨⟨_, (), rfl, rfl, (by rw [ht]; exact hP), va_K.moved hW.alike hK, hD⟩, hS.F ht⟩) hS.2.2 dX4_netValue_25
  · have n_1 : (inB x0 0 5) = true := bI1 c_1
    exact absurd n_1 hbad

abbrev rmX4_translatedEquity : Room := ({ frames := 2, cells := 0, slots := 0, locals := 46 } : Room)
set_option maxHeartbeats 4000000 in
set_option maxRecDepth 100000 in
theorem c_X4_translatedEquity (ll : Launch) (D : va_G) (a : Nat → Nat) (cI cJ : ClassId) (sz : Nat) (he cm ad gw as de eq re co av hi ke : Nat → Int32) (sq ab be : Nat → Int64) (nw tn : Nat → Int32) (th cd : Int32) (c : Nat) (hc : c < 6) : Met ll yX4_translatedEquity wsX4_translatedEquity rmX4_translatedEquity (va_Pc [.ref (a 0), .int (nI (c))] (PW D (tyG cI cJ) (MW a cI cJ he cm ad gw as de eq re co av hi ke sq ab be nw tn th cd) sz)) (va_Qi (fun (rr : Int32) (u : Unit) => rr = trM (eq c) (hi c)) (fun (u : Unit) t => AW D (tyG cI cJ) (va_A (MW a cI cJ he cm ad gw as de eq re co av hi ke sq ab be nw tn th cd) sz) (MW a cI cJ he cm ad gw as de eq re co av hi ke sq ab be nw tn 0 cd) t) (va_A (MW a cI cJ he cm ad gw as de eq re co av hi ke sq ab be nw tn th cd) sz)) 0 0 (va_A (MW a cI cJ he cm ad gw as de eq re co av hi ke sq ab be nw tn th cd) sz) := by
  refine Met.ofW (cc := cX4_translatedEquity) (maxL := 2) (ret := (some .int)) (by decide) rfl ?_
  intro pp ee ss mm ar bel mth cde s₁ B hml hv
  obtain ⟨rfl, hsz, hP, hK, hD0, hE⟩ := hv
  have hx := B.exec
  have hb := B.bytes
  have hr := B.returns
  have hts := atoms_spec (ws := wsX4_translatedEquity) B.pre
  have hown : ss.vm.findClass RX4 = some mm.cls := findClass_of_methodNamed B.named
  have hlocks := B.notSynchronized
  subst hsz
  have hD := hD0.self (sz := ss.heap.size)
  generalize hAe : va_A (MW a cI cJ he cm ad gw as de eq re co av hi ke sq ab be nw tn th cd) ss.heap.size = A at hD ⊢
  have hA : ∀ q : Nat, ss.heap.size ≤ q → A q := fun q h => by rw [← hAe]; exact Or.inr h
  have hS : va_S A ss.heap ss.heap [] := va_S.rf
  have hin : ∀ w ∈ wsX40, w.before ([.ref (a 0), .int (nI (c))] : List Value).toArray ss = true := fun w h => hts w ((by decide +kernel : ∀ w ∈ wsX40, w ∈ wsX4_translatedEquity) w h)
  have hl := lv_entry [.ref (a 0), .int (nI (c))] (n := 2) (Nat.le_of_ble_eq_true rfl)
  rw [lg_entry_eq]
  generalize (lg_sl [.ref (a 0), .int (nI (c))] ++ List.replicate (2 - (lg_sl [.ref (a 0), .int (nI (c))]).length) Slot.unset).toArray = ls at hl ⊢
  have hl : lv_has ls 2 [(0, .ref (a 0)), (1, .int (nI (c)))] := hl
  refine lv_aload_n hx hb dX4_translatedEquity_0 rfl (lv_at hl 0 rfl) ?_
  refine lv_iconst (v := 0) hx hb dX4_translatedEquity_1 (by decide) ?_
  refine va_put (D := D) (ci := 4) (v := .int (0)) (ty := .int) (C := RX4) (T := TX4) (N := 19) (Ts := wsX40) hx hb hin (fun _ h9 => h9) tyX4 tyX4_ok nmX4 hown hK hP hD hS 0 rfl rfl 0 (by decide) (hts (.fieldLink RX4 62 "GroupbooksModel" "thrown" "I") (by decide +kernel)) (fun _ h9 => h9) rfl (by decide +kernel) rfl rfl (Nat.le_of_ble_eq_true rfl) dX4_translatedEquity_2 (fun H locs hP hD hS => ?_)
  have hP : va_P D vwCl (MW a cI cJ he cm ad gw as de eq re co av hi ke sq ab be nw tn 0 cd) H := hP
  have hD : va_D A (MW a cI cJ he cm ad gw as de eq re co av hi ke sq ab be nw tn 0 cd) := hD
  refine lv_iload_n hx hb dX4_translatedEquity_5 rfl (lv_at hl 1 rfl) ?_
  refine b_csi (v := bI (inB (nI (c)) 0 5)) (W.runS (As := [.int (nI (c))]) (rest := []) ⟨hx, hb, hml, hown, hts⟩ (c_X4_isCompany ll (nI (c)) ) (va_cwS 1 hts gX4_translatedEquity_X4_isCompany rfl rfl rfl (by decide +kernel) ⟨Nat.le_of_ble_eq_true rfl, Nat.le_of_ble_eq_true rfl⟩) ⟨PT.blind, PT.to⟩ rfl rfl hl.1 rfl (lv_room (Nat.le_of_ble_eq_true rfl)) dX4_translatedEquity_6 ⟨Nat.le_of_ble_eq_true rfl, Nat.le_of_ble_eq_true rfl⟩) ?_
  refine lv_if_eq (tgt := 30) hx hb dX4_translatedEquity_9 (by decide) (fun c_1 => ?_) (fun c_1 => ?_)
  · have n_1 : ¬ (inB (nI (c)) 0 5) = true := bI0 c_1
    exact absurd (inB_c c hc) n_1
  · have n_1 : (inB (nI (c)) 0 5) = true := bI1 c_1
    refine lv_aload_n hx hb dX4_translatedEquity_12 rfl (lv_at hl 0 rfl) ?_
    refine va_get (D := D) (ci := 4) (v := .ref (a 7)) (C := RX4) (T := TX4) (N := 19) (Ts := wsX40) hx hb hin (fun _ h9 => h9) hown hK hP 0 rfl rfl 7 (by decide) (hts (.fieldLink RX4 28 "GroupbooksModel" "equity" "[I") (by decide +kernel)) (fun _ h9 => h9) rfl dX4_translatedEquity_13 ?_
    refine lv_iload_n hx hb dX4_translatedEquity_16 rfl (lv_at hl 1 rfl) ?_
    refine b_iald hx hb hK hP 7 0 (f := eq) rfl rfl (j := c) (by omega) (by decide) dX4_translatedEquity_17 ?_
    refine lv_aload_n hx hb dX4_translatedEquity_18 rfl (lv_at hl 0 rfl) ?_
    refine va_get (D := D) (ci := 4) (v := .ref (a 11)) (C := RX4) (T := TX4) (N := 19) (Ts := wsX40) hx hb hin (fun _ h9 => h9) hown hK hP 0 rfl rfl 11 (by decide) (hts (.fieldLink RX4 40 "GroupbooksModel" "historical" "[I") (by decide +kernel)) (fun _ h9 => h9) rfl dX4_translatedEquity_19 ?_
    refine lv_iload_n hx hb dX4_translatedEquity_22 rfl (lv_at hl 1 rfl) ?_
    refine b_iald hx hb hK hP 11 0 (f := hi) rfl rfl (j := c) (by omega) (by decide) dX4_translatedEquity_23 ?_
    refine b_csi (v := trM (eq (c)) (hi (c))) (W.runS (As := [.int (eq (c)), .int (hi (c))]) (rest := []) ⟨hx, hb, hml, hown, hts⟩ (c_X4_translated ll (eq (c)) (hi (c)) ) (va_cwS 2 hts gX4_translatedEquity_X4_translated rfl rfl rfl (by decide +kernel) ⟨Nat.le_of_ble_eq_true rfl, Nat.le_of_ble_eq_true rfl⟩) ⟨PT.blind, PT.to⟩ rfl rfl hl.1 rfl (lv_room (Nat.le_of_ble_eq_true rfl)) dX4_translatedEquity_24 ⟨Nat.le_of_ble_eq_true rfl, Nat.le_of_ble_eq_true rfl⟩) ?_
    refine lv_goto (tgt := 35) hx hb dX4_translatedEquity_27 (by decide) ?_
    exact W.iret hx hb hr (fun t ht hW => ⟨⟨_, (), rfl, rfl, (by rw [ht]; exact hP), va_K.moved hW.alike hK, hD⟩, hS.F ht⟩) hS.2.2 dX4_translatedEquity_35

abbrev rmX4_translatedEquity_bad : Room := ({ frames := 2, cells := 0, slots := 0, locals := 42 } : Room)
set_option maxHeartbeats 4000000 in
set_option maxRecDepth 100000 in
theorem c_X4_translatedEquity_bad (ll : Launch) (D : va_G) (a : Nat → Nat) (cI cJ : ClassId) (sz : Nat) (he cm ad gw as de eq re co av hi ke : Nat → Int32) (sq ab be : Nat → Int64) (nw tn : Nat → Int32) (th cd : Int32) (x0 : Int32) (hbad : ¬ inB x0 0 5 = true) : Met ll yX4_translatedEquity wsX4_translatedEquity rmX4_translatedEquity_bad (va_Pc [.ref (a 0), .int (x0)] (PW D (tyG cI cJ) (MW a cI cJ he cm ad gw as de eq re co av hi ke sq ab be nw tn th cd) sz)) (va_Qi (fun (rr : Int32) (u : Unit) => rr = 0) (fun (u : Unit) t => AW D (tyG cI cJ) (va_A (MW a cI cJ he cm ad gw as de eq re co av hi ke sq ab be nw tn th cd) sz) (MW a cI cJ he cm ad gw as de eq re co av hi ke sq ab be nw tn 1 cd) t) (va_A (MW a cI cJ he cm ad gw as de eq re co av hi ke sq ab be nw tn th cd) sz)) 0 0 (va_A (MW a cI cJ he cm ad gw as de eq re co av hi ke sq ab be nw tn th cd) sz) := by
  refine Met.ofW (cc := cX4_translatedEquity) (maxL := 2) (ret := (some .int)) (by decide) rfl ?_
  intro pp ee ss mm ar bel mth cde s₁ B hml hv
  obtain ⟨rfl, hsz, hP, hK, hD0, hE⟩ := hv
  have hx := B.exec
  have hb := B.bytes
  have hr := B.returns
  have hts := atoms_spec (ws := wsX4_translatedEquity) B.pre
  have hown : ss.vm.findClass RX4 = some mm.cls := findClass_of_methodNamed B.named
  have hlocks := B.notSynchronized
  subst hsz
  have hD := hD0.self (sz := ss.heap.size)
  generalize hAe : va_A (MW a cI cJ he cm ad gw as de eq re co av hi ke sq ab be nw tn th cd) ss.heap.size = A at hD ⊢
  have hA : ∀ q : Nat, ss.heap.size ≤ q → A q := fun q h => by rw [← hAe]; exact Or.inr h
  have hS : va_S A ss.heap ss.heap [] := va_S.rf
  have hin : ∀ w ∈ wsX40, w.before ([.ref (a 0), .int (x0)] : List Value).toArray ss = true := fun w h => hts w ((by decide +kernel : ∀ w ∈ wsX40, w ∈ wsX4_translatedEquity) w h)
  have hl := lv_entry [.ref (a 0), .int (x0)] (n := 2) (Nat.le_of_ble_eq_true rfl)
  rw [lg_entry_eq]
  generalize (lg_sl [.ref (a 0), .int (x0)] ++ List.replicate (2 - (lg_sl [.ref (a 0), .int (x0)]).length) Slot.unset).toArray = ls at hl ⊢
  have hl : lv_has ls 2 [(0, .ref (a 0)), (1, .int (x0))] := hl
  refine lv_aload_n hx hb dX4_translatedEquity_0 rfl (lv_at hl 0 rfl) ?_
  refine lv_iconst (v := 0) hx hb dX4_translatedEquity_1 (by decide) ?_
  refine va_put (D := D) (ci := 4) (v := .int (0)) (ty := .int) (C := RX4) (T := TX4) (N := 19) (Ts := wsX40) hx hb hin (fun _ h9 => h9) tyX4 tyX4_ok nmX4 hown hK hP hD hS 0 rfl rfl 0 (by decide) (hts (.fieldLink RX4 62 "GroupbooksModel" "thrown" "I") (by decide +kernel)) (fun _ h9 => h9) rfl (by decide +kernel) rfl rfl (Nat.le_of_ble_eq_true rfl) dX4_translatedEquity_2 (fun H locs hP hD hS => ?_)
  have hP : va_P D vwCl (MW a cI cJ he cm ad gw as de eq re co av hi ke sq ab be nw tn 0 cd) H := hP
  have hD : va_D A (MW a cI cJ he cm ad gw as de eq re co av hi ke sq ab be nw tn 0 cd) := hD
  refine lv_iload_n hx hb dX4_translatedEquity_5 rfl (lv_at hl 1 rfl) ?_
  refine b_csi (v := bI (inB x0 0 5)) (W.runS (As := [.int (x0)]) (rest := []) ⟨hx, hb, hml, hown, hts⟩ (c_X4_isCompany ll x0 ) (va_cwS 1 hts gX4_translatedEquity_X4_isCompany rfl rfl rfl (by decide +kernel) ⟨Nat.le_of_ble_eq_true rfl, Nat.le_of_ble_eq_true rfl⟩) ⟨PT.blind, PT.to⟩ rfl rfl hl.1 rfl (lv_room (Nat.le_of_ble_eq_true rfl)) dX4_translatedEquity_6 ⟨Nat.le_of_ble_eq_true rfl, Nat.le_of_ble_eq_true rfl⟩) ?_
  refine lv_if_eq (tgt := 30) hx hb dX4_translatedEquity_9 (by decide) (fun c_1 => ?_) (fun c_1 => ?_)
  · have n_1 : ¬ (inB x0 0 5) = true := bI0 c_1
    refine lv_aload_n hx hb dX4_translatedEquity_30 rfl (lv_at hl 0 rfl) ?_
    refine lv_iconst (v := 1) hx hb dX4_translatedEquity_31 (by decide) ?_
    refine b_calli0 (S := Unit) (w' := fun u => MW a cI cJ he cm ad gw as de eq re co av hi ke sq ab be nw tn 1 cd) hP hD hS hA (va_runV (As := [.int (1)]) (rest := []) ⟨hx, hb, hml, hown, hts⟩ (c_X4_fails ll D a cI cJ _ he cm ad gw as de eq re co av hi ke sq ab be nw tn 0 cd 1 ) (cwV 1 hts gX4_translatedEquity_X4_fails rfl rfl rfl (by decide +kernel) ⟨Nat.le_of_ble_eq_true rfl, Nat.le_of_ble_eq_true rfl⟩) ⟨PW.blind, va_recv hK hP (ci := 4) (q0 := 0) rfl rfl, PW.go hP hK hD hE⟩ rfl rfl hl.1 rfl (lv_room (Nat.le_of_ble_eq_true rfl)) dX4_translatedEquity_32 ⟨Nat.le_of_ble_eq_true rfl, Nat.le_of_ble_eq_true rfl⟩) (fun r_3 u H locs h_2 hP hD hS => ?_)
    have h_2 : r_3 = 0 := h_2
    subst h_2
    exact W.iret hx hb hr (fun t ht hW => ⟨⟨_, (), rfl, rfl, (by rw [ht]; exact hP), va_K.moved hW.alike hK, hD⟩, hS.F ht⟩) hS.2.2 dX4_translatedEquity_35
  · have n_1 : (inB x0 0 5) = true := bI1 c_1
    exact absurd n_1 hbad

abbrev rmX4_translatedResult : Room := ({ frames := 2, cells := 0, slots := 0, locals := 46 } : Room)
set_option maxHeartbeats 4000000 in
set_option maxRecDepth 100000 in
theorem c_X4_translatedResult (ll : Launch) (D : va_G) (a : Nat → Nat) (cI cJ : ClassId) (sz : Nat) (he cm ad gw as de eq re co av hi ke : Nat → Int32) (sq ab be : Nat → Int64) (nw tn : Nat → Int32) (th cd : Int32) (c : Nat) (hc : c < 6) : Met ll yX4_translatedResult wsX4_translatedResult rmX4_translatedResult (va_Pc [.ref (a 0), .int (nI (c))] (PW D (tyG cI cJ) (MW a cI cJ he cm ad gw as de eq re co av hi ke sq ab be nw tn th cd) sz)) (va_Qi (fun (rr : Int32) (u : Unit) => rr = trM (re c) (av c)) (fun (u : Unit) t => AW D (tyG cI cJ) (va_A (MW a cI cJ he cm ad gw as de eq re co av hi ke sq ab be nw tn th cd) sz) (MW a cI cJ he cm ad gw as de eq re co av hi ke sq ab be nw tn 0 cd) t) (va_A (MW a cI cJ he cm ad gw as de eq re co av hi ke sq ab be nw tn th cd) sz)) 0 0 (va_A (MW a cI cJ he cm ad gw as de eq re co av hi ke sq ab be nw tn th cd) sz) := by
  refine Met.ofW (cc := cX4_translatedResult) (maxL := 2) (ret := (some .int)) (by decide) rfl ?_
  intro pp ee ss mm ar bel mth cde s₁ B hml hv
  obtain ⟨rfl, hsz, hP, hK, hD0, hE⟩ := hv
  have hx := B.exec
  have hb := B.bytes
  have hr := B.returns
  have hts := atoms_spec (ws := wsX4_translatedResult) B.pre
  have hown : ss.vm.findClass RX4 = some mm.cls := findClass_of_methodNamed B.named
  have hlocks := B.notSynchronized
  subst hsz
  have hD := hD0.self (sz := ss.heap.size)
  generalize hAe : va_A (MW a cI cJ he cm ad gw as de eq re co av hi ke sq ab be nw tn th cd) ss.heap.size = A at hD ⊢
  have hA : ∀ q : Nat, ss.heap.size ≤ q → A q := fun q h => by rw [← hAe]; exact Or.inr h
  have hS : va_S A ss.heap ss.heap [] := va_S.rf
  have hin : ∀ w ∈ wsX40, w.before ([.ref (a 0), .int (nI (c))] : List Value).toArray ss = true := fun w h => hts w ((by decide +kernel : ∀ w ∈ wsX40, w ∈ wsX4_translatedResult) w h)
  have hl := lv_entry [.ref (a 0), .int (nI (c))] (n := 2) (Nat.le_of_ble_eq_true rfl)
  rw [lg_entry_eq]
  generalize (lg_sl [.ref (a 0), .int (nI (c))] ++ List.replicate (2 - (lg_sl [.ref (a 0), .int (nI (c))]).length) Slot.unset).toArray = ls at hl ⊢
  have hl : lv_has ls 2 [(0, .ref (a 0)), (1, .int (nI (c)))] := hl
  refine lv_aload_n hx hb dX4_translatedResult_0 rfl (lv_at hl 0 rfl) ?_
  refine lv_iconst (v := 0) hx hb dX4_translatedResult_1 (by decide) ?_
  refine va_put (D := D) (ci := 4) (v := .int (0)) (ty := .int) (C := RX4) (T := TX4) (N := 19) (Ts := wsX40) hx hb hin (fun _ h9 => h9) tyX4 tyX4_ok nmX4 hown hK hP hD hS 0 rfl rfl 0 (by decide) (hts (.fieldLink RX4 62 "GroupbooksModel" "thrown" "I") (by decide +kernel)) (fun _ h9 => h9) rfl (by decide +kernel) rfl rfl (Nat.le_of_ble_eq_true rfl) dX4_translatedResult_2 (fun H locs hP hD hS => ?_)
  have hP : va_P D vwCl (MW a cI cJ he cm ad gw as de eq re co av hi ke sq ab be nw tn 0 cd) H := hP
  have hD : va_D A (MW a cI cJ he cm ad gw as de eq re co av hi ke sq ab be nw tn 0 cd) := hD
  refine lv_iload_n hx hb dX4_translatedResult_5 rfl (lv_at hl 1 rfl) ?_
  refine b_csi (v := bI (inB (nI (c)) 0 5)) (W.runS (As := [.int (nI (c))]) (rest := []) ⟨hx, hb, hml, hown, hts⟩ (c_X4_isCompany ll (nI (c)) ) (va_cwS 1 hts gX4_translatedResult_X4_isCompany rfl rfl rfl (by decide +kernel) ⟨Nat.le_of_ble_eq_true rfl, Nat.le_of_ble_eq_true rfl⟩) ⟨PT.blind, PT.to⟩ rfl rfl hl.1 rfl (lv_room (Nat.le_of_ble_eq_true rfl)) dX4_translatedResult_6 ⟨Nat.le_of_ble_eq_true rfl, Nat.le_of_ble_eq_true rfl⟩) ?_
  refine lv_if_eq (tgt := 30) hx hb dX4_translatedResult_9 (by decide) (fun c_1 => ?_) (fun c_1 => ?_)
  · have n_1 : ¬ (inB (nI (c)) 0 5) = true := bI0 c_1
    exact absurd (inB_c c hc) n_1
  · have n_1 : (inB (nI (c)) 0 5) = true := bI1 c_1
    refine lv_aload_n hx hb dX4_translatedResult_12 rfl (lv_at hl 0 rfl) ?_
    refine va_get (D := D) (ci := 4) (v := .ref (a 8)) (C := RX4) (T := TX4) (N := 19) (Ts := wsX40) hx hb hin (fun _ h9 => h9) hown hK hP 0 rfl rfl 8 (by decide) (hts (.fieldLink RX4 31 "GroupbooksModel" "result" "[I") (by decide +kernel)) (fun _ h9 => h9) rfl dX4_translatedResult_13 ?_
    refine lv_iload_n hx hb dX4_translatedResult_16 rfl (lv_at hl 1 rfl) ?_
    refine b_iald hx hb hK hP 8 0 (f := re) rfl rfl (j := c) (by omega) (by decide) dX4_translatedResult_17 ?_
    refine lv_aload_n hx hb dX4_translatedResult_18 rfl (lv_at hl 0 rfl) ?_
    refine va_get (D := D) (ci := 4) (v := .ref (a 10)) (C := RX4) (T := TX4) (N := 19) (Ts := wsX40) hx hb hin (fun _ h9 => h9) hown hK hP 0 rfl rfl 10 (by decide) (hts (.fieldLink RX4 37 "GroupbooksModel" "average" "[I") (by decide +kernel)) (fun _ h9 => h9) rfl dX4_translatedResult_19 ?_
    refine lv_iload_n hx hb dX4_translatedResult_22 rfl (lv_at hl 1 rfl) ?_
    refine b_iald hx hb hK hP 10 0 (f := av) rfl rfl (j := c) (by omega) (by decide) dX4_translatedResult_23 ?_
    refine b_csi (v := trM (re (c)) (av (c))) (W.runS (As := [.int (re (c)), .int (av (c))]) (rest := []) ⟨hx, hb, hml, hown, hts⟩ (c_X4_translated ll (re (c)) (av (c)) ) (va_cwS 2 hts gX4_translatedResult_X4_translated rfl rfl rfl (by decide +kernel) ⟨Nat.le_of_ble_eq_true rfl, Nat.le_of_ble_eq_true rfl⟩) ⟨PT.blind, PT.to⟩ rfl rfl hl.1 rfl (lv_room (Nat.le_of_ble_eq_true rfl)) dX4_translatedResult_24 ⟨Nat.le_of_ble_eq_true rfl, Nat.le_of_ble_eq_true rfl⟩) ?_
    refine lv_goto (tgt := 35) hx hb dX4_translatedResult_27 (by decide) ?_
    exact W.iret hx hb hr (fun t ht hW => ⟨⟨_, (), rfl, rfl, (by rw [ht]; exact hP), va_K.moved hW.alike hK, hD⟩, hS.F ht⟩) hS.2.2 dX4_translatedResult_35

abbrev rmX4_translatedResult_bad : Room := ({ frames := 2, cells := 0, slots := 0, locals := 42 } : Room)
set_option maxHeartbeats 4000000 in
set_option maxRecDepth 100000 in
theorem c_X4_translatedResult_bad (ll : Launch) (D : va_G) (a : Nat → Nat) (cI cJ : ClassId) (sz : Nat) (he cm ad gw as de eq re co av hi ke : Nat → Int32) (sq ab be : Nat → Int64) (nw tn : Nat → Int32) (th cd : Int32) (x0 : Int32) (hbad : ¬ inB x0 0 5 = true) : Met ll yX4_translatedResult wsX4_translatedResult rmX4_translatedResult_bad (va_Pc [.ref (a 0), .int (x0)] (PW D (tyG cI cJ) (MW a cI cJ he cm ad gw as de eq re co av hi ke sq ab be nw tn th cd) sz)) (va_Qi (fun (rr : Int32) (u : Unit) => rr = 0) (fun (u : Unit) t => AW D (tyG cI cJ) (va_A (MW a cI cJ he cm ad gw as de eq re co av hi ke sq ab be nw tn th cd) sz) (MW a cI cJ he cm ad gw as de eq re co av hi ke sq ab be nw tn 1 cd) t) (va_A (MW a cI cJ he cm ad gw as de eq re co av hi ke sq ab be nw tn th cd) sz)) 0 0 (va_A (MW a cI cJ he cm ad gw as de eq re co av hi ke sq ab be nw tn th cd) sz) := by
  refine Met.ofW (cc := cX4_translatedResult) (maxL := 2) (ret := (some .int)) (by decide) rfl ?_
  intro pp ee ss mm ar bel mth cde s₁ B hml hv
  obtain ⟨rfl, hsz, hP, hK, hD0, hE⟩ := hv
  have hx := B.exec
  have hb := B.bytes
  have hr := B.returns
  have hts := atoms_spec (ws := wsX4_translatedResult) B.pre
  have hown : ss.vm.findClass RX4 = some mm.cls := findClass_of_methodNamed B.named
  have hlocks := B.notSynchronized
  subst hsz
  have hD := hD0.self (sz := ss.heap.size)
  generalize hAe : va_A (MW a cI cJ he cm ad gw as de eq re co av hi ke sq ab be nw tn th cd) ss.heap.size = A at hD ⊢
  have hA : ∀ q : Nat, ss.heap.size ≤ q → A q := fun q h => by rw [← hAe]; exact Or.inr h
  have hS : va_S A ss.heap ss.heap [] := va_S.rf
  have hin : ∀ w ∈ wsX40, w.before ([.ref (a 0), .int (x0)] : List Value).toArray ss = true := fun w h => hts w ((by decide +kernel : ∀ w ∈ wsX40, w ∈ wsX4_translatedResult) w h)
  have hl := lv_entry [.ref (a 0), .int (x0)] (n := 2) (Nat.le_of_ble_eq_true rfl)
  rw [lg_entry_eq]
  generalize (lg_sl [.ref (a 0), .int (x0)] ++ List.replicate (2 - (lg_sl [.ref (a 0), .int (x0)]).length) Slot.unset).toArray = ls at hl ⊢
  have hl : lv_has ls 2 [(0, .ref (a 0)), (1, .int (x0))] := hl
  refine lv_aload_n hx hb dX4_translatedResult_0 rfl (lv_at hl 0 rfl) ?_
  refine lv_iconst (v := 0) hx hb dX4_translatedResult_1 (by decide) ?_
  refine va_put (D := D) (ci := 4) (v := .int (0)) (ty := .int) (C := RX4) (T := TX4) (N := 19) (Ts := wsX40) hx hb hin (fun _ h9 => h9) tyX4 tyX4_ok nmX4 hown hK hP hD hS 0 rfl rfl 0 (by decide) (hts (.fieldLink RX4 62 "GroupbooksModel" "thrown" "I") (by decide +kernel)) (fun _ h9 => h9) rfl (by decide +kernel) rfl rfl (Nat.le_of_ble_eq_true rfl) dX4_translatedResult_2 (fun H locs hP hD hS => ?_)
  have hP : va_P D vwCl (MW a cI cJ he cm ad gw as de eq re co av hi ke sq ab be nw tn 0 cd) H := hP
  have hD : va_D A (MW a cI cJ he cm ad gw as de eq re co av hi ke sq ab be nw tn 0 cd) := hD
  refine lv_iload_n hx hb dX4_translatedResult_5 rfl (lv_at hl 1 rfl) ?_
  refine b_csi (v := bI (inB x0 0 5)) (W.runS (As := [.int (x0)]) (rest := []) ⟨hx, hb, hml, hown, hts⟩ (c_X4_isCompany ll x0 ) (va_cwS 1 hts gX4_translatedResult_X4_isCompany rfl rfl rfl (by decide +kernel) ⟨Nat.le_of_ble_eq_true rfl, Nat.le_of_ble_eq_true rfl⟩) ⟨PT.blind, PT.to⟩ rfl rfl hl.1 rfl (lv_room (Nat.le_of_ble_eq_true rfl)) dX4_translatedResult_6 ⟨Nat.le_of_ble_eq_true rfl, Nat.le_of_ble_eq_true rfl⟩) ?_
  refine lv_if_eq (tgt := 30) hx hb dX4_translatedResult_9 (by decide) (fun c_1 => ?_) (fun c_1 => ?_)
  · have n_1 : ¬ (inB x0 0 5) = true := bI0 c_1
    refine lv_aload_n hx hb dX4_translatedResult_30 rfl (lv_at hl 0 rfl) ?_
    refine lv_iconst (v := 1) hx hb dX4_translatedResult_31 (by decide) ?_
    refine b_calli0 (S := Unit) (w' := fun u => MW a cI cJ he cm ad gw as de eq re co av hi ke sq ab be nw tn 1 cd) hP hD hS hA (va_runV (As := [.int (1)]) (rest := []) ⟨hx, hb, hml, hown, hts⟩ (c_X4_fails ll D a cI cJ _ he cm ad gw as de eq re co av hi ke sq ab be nw tn 0 cd 1 ) (cwV 1 hts gX4_translatedResult_X4_fails rfl rfl rfl (by decide +kernel) ⟨Nat.le_of_ble_eq_true rfl, Nat.le_of_ble_eq_true rfl⟩) ⟨PW.blind, va_recv hK hP (ci := 4) (q0 := 0) rfl rfl, PW.go hP hK hD hE⟩ rfl rfl hl.1 rfl (lv_room (Nat.le_of_ble_eq_true rfl)) dX4_translatedResult_32 ⟨Nat.le_of_ble_eq_true rfl, Nat.le_of_ble_eq_true rfl⟩) (fun r_3 u H locs h_2 hP hD hS => ?_)
    have h_2 : r_3 = 0 := h_2
    subst h_2
    exact W.iret hx hb hr (fun t ht hW => ⟨⟨_, (), rfl, rfl, (by rw [ht]; exact hP), va_K.moved hW.alike hK, hD⟩, hS.F ht⟩) hS.2.2 dX4_translatedResult_35
  · have n_1 : (inB x0 0 5) = true := bI1 c_1
    exact absurd n_1 hbad

abbrev rmX4_reserve : Room := ({ frames := 3, cells := 0, slots := 0, locals := 67 } : Room)
set_option maxHeartbeats 4000000 in
set_option maxRecDepth 100000 in
theorem c_X4_reserve (ll : Launch) (D : va_G) (a : Nat → Nat) (cI cJ : ClassId) (sz : Nat) (he cm ad gw as de eq re co av hi ke : Nat → Int32) (sq ab be : Nat → Int64) (nw tn : Nat → Int32) (th cd : Int32) (c : Nat) (hc : c < 6) : Met ll yX4_reserve wsX4_reserve rmX4_reserve (va_Pc [.ref (a 0), .int (nI (c))] (PW D (tyG cI cJ) (MW a cI cJ he cm ad gw as de eq re co av hi ke sq ab be nw tn th cd) sz)) (va_Qi (fun (rr : Int32) (u : Unit) => rr = ntM as de co c - trM (eq c) (hi c) - trM (re c) (av c)) (fun (u : Unit) t => AW D (tyG cI cJ) (va_A (MW a cI cJ he cm ad gw as de eq re co av hi ke sq ab be nw tn th cd) sz) (MW a cI cJ he cm ad gw as de eq re co av hi ke sq ab be nw tn 0 cd) t) (va_A (MW a cI cJ he cm ad gw as de eq re co av hi ke sq ab be nw tn th cd) sz)) 0 0 (va_A (MW a cI cJ he cm ad gw as de eq re co av hi ke sq ab be nw tn th cd) sz) := by
  refine Met.ofW (cc := cX4_reserve) (maxL := 2) (ret := (some .int)) (by decide) rfl ?_
  intro pp ee ss mm ar bel mth cde s₁ B hml hv
  obtain ⟨rfl, hsz, hP, hK, hD0, hE⟩ := hv
  have hx := B.exec
  have hb := B.bytes
  have hr := B.returns
  have hts := atoms_spec (ws := wsX4_reserve) B.pre
  have hown : ss.vm.findClass RX4 = some mm.cls := findClass_of_methodNamed B.named
  have hlocks := B.notSynchronized
  subst hsz
  have hD := hD0.self (sz := ss.heap.size)
  generalize hAe : va_A (MW a cI cJ he cm ad gw as de eq re co av hi ke sq ab be nw tn th cd) ss.heap.size = A at hD ⊢
  have hA : ∀ q : Nat, ss.heap.size ≤ q → A q := fun q h => by rw [← hAe]; exact Or.inr h
  have hS : va_S A ss.heap ss.heap [] := va_S.rf
  have hin : ∀ w ∈ wsX40, w.before ([.ref (a 0), .int (nI (c))] : List Value).toArray ss = true := fun w h => hts w ((by decide +kernel : ∀ w ∈ wsX40, w ∈ wsX4_reserve) w h)
  have hl := lv_entry [.ref (a 0), .int (nI (c))] (n := 2) (Nat.le_of_ble_eq_true rfl)
  rw [lg_entry_eq]
  generalize (lg_sl [.ref (a 0), .int (nI (c))] ++ List.replicate (2 - (lg_sl [.ref (a 0), .int (nI (c))]).length) Slot.unset).toArray = ls at hl ⊢
  have hl : lv_has ls 2 [(0, .ref (a 0)), (1, .int (nI (c)))] := hl
  refine lv_aload_n hx hb dX4_reserve_0 rfl (lv_at hl 0 rfl) ?_
  refine lv_iconst (v := 0) hx hb dX4_reserve_1 (by decide) ?_
  refine va_put (D := D) (ci := 4) (v := .int (0)) (ty := .int) (C := RX4) (T := TX4) (N := 19) (Ts := wsX40) hx hb hin (fun _ h9 => h9) tyX4 tyX4_ok nmX4 hown hK hP hD hS 0 rfl rfl 0 (by decide) (hts (.fieldLink RX4 62 "GroupbooksModel" "thrown" "I") (by decide +kernel)) (fun _ h9 => h9) rfl (by decide +kernel) rfl rfl (Nat.le_of_ble_eq_true rfl) dX4_reserve_2 (fun H locs hP hD hS => ?_)
  have hP : va_P D vwCl (MW a cI cJ he cm ad gw as de eq re co av hi ke sq ab be nw tn 0 cd) H := hP
  have hD : va_D A (MW a cI cJ he cm ad gw as de eq re co av hi ke sq ab be nw tn 0 cd) := hD
  refine lv_iload_n hx hb dX4_reserve_5 rfl (lv_at hl 1 rfl) ?_
  refine b_csi (v := bI (inB (nI (c)) 0 5)) (W.runS (As := [.int (nI (c))]) (rest := []) ⟨hx, hb, hml, hown, hts⟩ (c_X4_isCompany ll (nI (c)) ) (va_cwS 1 hts gX4_reserve_X4_isCompany rfl rfl rfl (by decide +kernel) ⟨Nat.le_of_ble_eq_true rfl, Nat.le_of_ble_eq_true rfl⟩) ⟨PT.blind, PT.to⟩ rfl rfl hl.1 rfl (lv_room (Nat.le_of_ble_eq_true rfl)) dX4_reserve_6 ⟨Nat.le_of_ble_eq_true rfl, Nat.le_of_ble_eq_true rfl⟩) ?_
  refine lv_if_eq (tgt := 52) hx hb dX4_reserve_9 (by decide) (fun c_1 => ?_) (fun c_1 => ?_)
  · have n_1 : ¬ (inB (nI (c)) 0 5) = true := bI0 c_1
    exact absurd (inB_c c hc) n_1
  · have n_1 : (inB (nI (c)) 0 5) = true := bI1 c_1
    refine lv_aload_n hx hb dX4_reserve_12 rfl (lv_at hl 0 rfl) ?_
    refine lv_iload_n hx hb dX4_reserve_13 rfl (lv_at hl 1 rfl) ?_
    refine b_csi (v := ntM as de co c) (W.runV (As := [.int (nI (c))]) (rest := []) ⟨hx, hb, hml, hown, hts⟩ (c_X4_net ll D a cI cJ he cm ad gw as de eq re co av hi ke sq ab be nw tn 0 cd c (by omega)) (cwV 1 hts gX4_reserve_X4_net rfl rfl rfl (by decide +kernel) ⟨Nat.le_of_ble_eq_true rfl, Nat.le_of_ble_eq_true rfl⟩) ⟨PR.blind, va_recv hK hP (ci := 4) (q0 := 0) rfl rfl, PR.go hP hK hE⟩ rfl rfl hl.1 rfl (lv_room (Nat.le_of_ble_eq_true rfl)) dX4_reserve_14 ⟨Nat.le_of_ble_eq_true rfl, Nat.le_of_ble_eq_true rfl⟩) ?_
    refine lv_aload_n hx hb dX4_reserve_17 rfl (lv_at hl 0 rfl) ?_
    refine va_get (D := D) (ci := 4) (v := .ref (a 7)) (C := RX4) (T := TX4) (N := 19) (Ts := wsX40) hx hb hin (fun _ h9 => h9) hown hK hP 0 rfl rfl 7 (by decide) (hts (.fieldLink RX4 28 "GroupbooksModel" "equity" "[I") (by decide +kernel)) (fun _ h9 => h9) rfl dX4_reserve_18 ?_
    refine lv_iload_n hx hb dX4_reserve_21 rfl (lv_at hl 1 rfl) ?_
    refine b_iald hx hb hK hP 7 0 (f := eq) rfl rfl (j := c) (by omega) (by decide) dX4_reserve_22 ?_
    refine lv_aload_n hx hb dX4_reserve_23 rfl (lv_at hl 0 rfl) ?_
    refine va_get (D := D) (ci := 4) (v := .ref (a 11)) (C := RX4) (T := TX4) (N := 19) (Ts := wsX40) hx hb hin (fun _ h9 => h9) hown hK hP 0 rfl rfl 11 (by decide) (hts (.fieldLink RX4 40 "GroupbooksModel" "historical" "[I") (by decide +kernel)) (fun _ h9 => h9) rfl dX4_reserve_24 ?_
    refine lv_iload_n hx hb dX4_reserve_27 rfl (lv_at hl 1 rfl) ?_
    refine b_iald hx hb hK hP 11 0 (f := hi) rfl rfl (j := c) (by omega) (by decide) dX4_reserve_28 ?_
    refine b_csi (v := trM (eq (c)) (hi (c))) (W.runS (As := [.int (eq (c)), .int (hi (c))]) (rest := [.int (ntM as de co c)]) ⟨hx, hb, hml, hown, hts⟩ (c_X4_translated ll (eq (c)) (hi (c)) ) (va_cwS 2 hts gX4_reserve_X4_translated rfl rfl rfl (by decide +kernel) ⟨Nat.le_of_ble_eq_true rfl, Nat.le_of_ble_eq_true rfl⟩) ⟨PT.blind, PT.to⟩ rfl rfl hl.1 rfl (lv_room (Nat.le_of_ble_eq_true rfl)) dX4_reserve_29 ⟨Nat.le_of_ble_eq_true rfl, Nat.le_of_ble_eq_true rfl⟩) ?_
    refine lv_isub hx hb dX4_reserve_32 ?_
    refine lv_aload_n hx hb dX4_reserve_33 rfl (lv_at hl 0 rfl) ?_
    refine va_get (D := D) (ci := 4) (v := .ref (a 8)) (C := RX4) (T := TX4) (N := 19) (Ts := wsX40) hx hb hin (fun _ h9 => h9) hown hK hP 0 rfl rfl 8 (by decide) (hts (.fieldLink RX4 31 "GroupbooksModel" "result" "[I") (by decide +kernel)) (fun _ h9 => h9) rfl dX4_reserve_34 ?_
    refine lv_iload_n hx hb dX4_reserve_37 rfl (lv_at hl 1 rfl) ?_
    refine b_iald hx hb hK hP 8 0 (f := re) rfl rfl (j := c) (by omega) (by decide) dX4_reserve_38 ?_
    refine lv_aload_n hx hb dX4_reserve_39 rfl (lv_at hl 0 rfl) ?_
    refine va_get (D := D) (ci := 4) (v := .ref (a 10)) (C := RX4) (T := TX4) (N := 19) (Ts := wsX40) hx hb hin (fun _ h9 => h9) hown hK hP 0 rfl rfl 10 (by decide) (hts (.fieldLink RX4 37 "GroupbooksModel" "average" "[I") (by decide +kernel)) (fun _ h9 => h9) rfl dX4_reserve_40 ?_
    refine lv_iload_n hx hb dX4_reserve_43 rfl (lv_at hl 1 rfl) ?_
    refine b_iald hx hb hK hP 10 0 (f := av) rfl rfl (j := c) (by omega) (by decide) dX4_reserve_44 ?_
    refine b_csi (v := trM (re (c)) (av (c))) (W.runS (As := [.int (re (c)), .int (av (c))]) (rest := [.int ((ntM as de co c) - (trM (eq (c)) (hi (c))))]) ⟨hx, hb, hml, hown, hts⟩ (c_X4_translated ll (re (c)) (av (c)) ) (va_cwS 2 hts gX4_reserve_X4_translated rfl rfl rfl (by decide +kernel) ⟨Nat.le_of_ble_eq_true rfl, Nat.le_of_ble_eq_true rfl⟩) ⟨PT.blind, PT.to⟩ rfl rfl hl.1 rfl (lv_room (Nat.le_of_ble_eq_true rfl)) dX4_reserve_45 ⟨Nat.le_of_ble_eq_true rfl, Nat.le_of_ble_eq_true rfl⟩) ?_
    refine lv_isub hx hb dX4_reserve_48 ?_
    refine lv_goto (tgt := 57) hx hb dX4_reserve_49 (by decide) ?_
    exact W.iret hx hb hr (fun t ht hW => ⟨⟨_, (), rfl, rfl, (by rw [ht]; exact hP), va_K.moved hW.alike hK, hD⟩, hS.F ht⟩) hS.2.2 dX4_reserve_57

abbrev rmX4_reserve_bad : Room := ({ frames := 2, cells := 0, slots := 0, locals := 42 } : Room)
set_option maxHeartbeats 4000000 in
set_option maxRecDepth 100000 in
theorem c_X4_reserve_bad (ll : Launch) (D : va_G) (a : Nat → Nat) (cI cJ : ClassId) (sz : Nat) (he cm ad gw as de eq re co av hi ke : Nat → Int32) (sq ab be : Nat → Int64) (nw tn : Nat → Int32) (th cd : Int32) (x0 : Int32) (hbad : ¬ inB x0 0 5 = true) : Met ll yX4_reserve wsX4_reserve rmX4_reserve_bad (va_Pc [.ref (a 0), .int (x0)] (PW D (tyG cI cJ) (MW a cI cJ he cm ad gw as de eq re co av hi ke sq ab be nw tn th cd) sz)) (va_Qi (fun (rr : Int32) (u : Unit) => rr = 0) (fun (u : Unit) t => AW D (tyG cI cJ) (va_A (MW a cI cJ he cm ad gw as de eq re co av hi ke sq ab be nw tn th cd) sz) (MW a cI cJ he cm ad gw as de eq re co av hi ke sq ab be nw tn 1 cd) t) (va_A (MW a cI cJ he cm ad gw as de eq re co av hi ke sq ab be nw tn th cd) sz)) 0 0 (va_A (MW a cI cJ he cm ad gw as de eq re co av hi ke sq ab be nw tn th cd) sz) := by
  refine Met.ofW (cc := cX4_reserve) (maxL := 2) (ret := (some .int)) (by decide) rfl ?_
  intro pp ee ss mm ar bel mth cde s₁ B hml hv
  obtain ⟨rfl, hsz, hP, hK, hD0, hE⟩ := hv
  have hx := B.exec
  have hb := B.bytes
  have hr := B.returns
  have hts := atoms_spec (ws := wsX4_reserve) B.pre
  have hown : ss.vm.findClass RX4 = some mm.cls := findClass_of_methodNamed B.named
  have hlocks := B.notSynchronized
  subst hsz
  have hD := hD0.self (sz := ss.heap.size)
  generalize hAe : va_A (MW a cI cJ he cm ad gw as de eq re co av hi ke sq ab be nw tn th cd) ss.heap.size = A at hD ⊢
  have hA : ∀ q : Nat, ss.heap.size ≤ q → A q := fun q h => by rw [← hAe]; exact Or.inr h
  have hS : va_S A ss.heap ss.heap [] := va_S.rf
  have hin : ∀ w ∈ wsX40, w.before ([.ref (a 0), .int (x0)] : List Value).toArray ss = true := fun w h => hts w ((by decide +kernel : ∀ w ∈ wsX40, w ∈ wsX4_reserve) w h)
  have hl := lv_entry [.ref (a 0), .int (x0)] (n := 2) (Nat.le_of_ble_eq_true rfl)
  rw [lg_entry_eq]
  generalize (lg_sl [.ref (a 0), .int (x0)] ++ List.replicate (2 - (lg_sl [.ref (a 0), .int (x0)]).length) Slot.unset).toArray = ls at hl ⊢
  have hl : lv_has ls 2 [(0, .ref (a 0)), (1, .int (x0))] := hl
  refine lv_aload_n hx hb dX4_reserve_0 rfl (lv_at hl 0 rfl) ?_
  refine lv_iconst (v := 0) hx hb dX4_reserve_1 (by decide) ?_
  refine va_put (D := D) (ci := 4) (v := .int (0)) (ty := .int) (C := RX4) (T := TX4) (N := 19) (Ts := wsX40) hx hb hin (fun _ h9 => h9) tyX4 tyX4_ok nmX4 hown hK hP hD hS 0 rfl rfl 0 (by decide) (hts (.fieldLink RX4 62 "GroupbooksModel" "thrown" "I") (by decide +kernel)) (fun _ h9 => h9) rfl (by decide +kernel) rfl rfl (Nat.le_of_ble_eq_true rfl) dX4_reserve_2 (fun H locs hP hD hS => ?_)
  have hP : va_P D vwCl (MW a cI cJ he cm ad gw as de eq re co av hi ke sq ab be nw tn 0 cd) H := hP
  have hD : va_D A (MW a cI cJ he cm ad gw as de eq re co av hi ke sq ab be nw tn 0 cd) := hD
  refine lv_iload_n hx hb dX4_reserve_5 rfl (lv_at hl 1 rfl) ?_
  refine b_csi (v := bI (inB x0 0 5)) (W.runS (As := [.int (x0)]) (rest := []) ⟨hx, hb, hml, hown, hts⟩ (c_X4_isCompany ll x0 ) (va_cwS 1 hts gX4_reserve_X4_isCompany rfl rfl rfl (by decide +kernel) ⟨Nat.le_of_ble_eq_true rfl, Nat.le_of_ble_eq_true rfl⟩) ⟨PT.blind, PT.to⟩ rfl rfl hl.1 rfl (lv_room (Nat.le_of_ble_eq_true rfl)) dX4_reserve_6 ⟨Nat.le_of_ble_eq_true rfl, Nat.le_of_ble_eq_true rfl⟩) ?_
  refine lv_if_eq (tgt := 52) hx hb dX4_reserve_9 (by decide) (fun c_1 => ?_) (fun c_1 => ?_)
  · have n_1 : ¬ (inB x0 0 5) = true := bI0 c_1
    refine lv_aload_n hx hb dX4_reserve_52 rfl (lv_at hl 0 rfl) ?_
    refine lv_iconst (v := 1) hx hb dX4_reserve_53 (by decide) ?_
    refine b_calli0 (S := Unit) (w' := fun u => MW a cI cJ he cm ad gw as de eq re co av hi ke sq ab be nw tn 1 cd) hP hD hS hA (va_runV (As := [.int (1)]) (rest := []) ⟨hx, hb, hml, hown, hts⟩ (c_X4_fails ll D a cI cJ _ he cm ad gw as de eq re co av hi ke sq ab be nw tn 0 cd 1 ) (cwV 1 hts gX4_reserve_X4_fails rfl rfl rfl (by decide +kernel) ⟨Nat.le_of_ble_eq_true rfl, Nat.le_of_ble_eq_true rfl⟩) ⟨PW.blind, va_recv hK hP (ci := 4) (q0 := 0) rfl rfl, PW.go hP hK hD hE⟩ rfl rfl hl.1 rfl (lv_room (Nat.le_of_ble_eq_true rfl)) dX4_reserve_54 ⟨Nat.le_of_ble_eq_true rfl, Nat.le_of_ble_eq_true rfl⟩) (fun r_3 u H locs h_2 hP hD hS => ?_)
    have h_2 : r_3 = 0 := h_2
    subst h_2
    exact W.iret hx hb hr (fun t ht hW => ⟨⟨_, (), rfl, rfl, (by rw [ht]; exact hP), va_K.moved hW.alike hK, hD⟩, hS.F ht⟩) hS.2.2 dX4_reserve_57
  · have n_1 : (inB x0 0 5) = true := bI1 c_1
    exact absurd n_1 hbad

abbrev rmX4_claim : Room := ({ frames := 3, cells := 0, slots := 0, locals := 63 } : Room)
set_option maxHeartbeats 4000000 in
set_option maxRecDepth 100000 in
theorem c_X4_claim (ll : Launch) (D : va_G) (a : Nat → Nat) (cI cJ : ClassId) (sz : Nat) (he cm ad gw as de eq re co av hi ke : Nat → Int32) (sq ab be : Nat → Int64) (nw tn : Nat → Int32) (th cd : Int32) (o c : Nat) (x : Int32) (ho : o < 6) (hc : c < 6) (hpr : prB (nI o) (nI c) = true) (hqx : inB x 0 1000000 = true) : Met ll yX4_claim wsX4_claim rmX4_claim (va_Pc [.ref (a 0), .int (nI (o)), .int (nI (c)), .int (x)] (PW D (tyG cI cJ) (MW a cI cJ he cm ad gw as de eq re co av hi ke sq ab be nw tn th cd) sz)) (va_Qi (fun (rr : Int32) (u : Unit) => rr = cm (6 * o + c)) (fun (u : Unit) t => AW D (tyG cI cJ) (va_A (MW a cI cJ he cm ad gw as de eq re co av hi ke sq ab be nw tn th cd) sz) (MW a cI cJ he (upd cm (6 * o + c) x) ad gw as de eq re co av hi ke sq ab be nw tn 0 cd) t) (va_A (MW a cI cJ he cm ad gw as de eq re co av hi ke sq ab be nw tn th cd) sz)) 0 0 (va_A (MW a cI cJ he cm ad gw as de eq re co av hi ke sq ab be nw tn th cd) sz) := by
  refine Met.ofW (cc := cX4_claim) (maxL := 5) (ret := (some .int)) (by decide) rfl ?_
  intro pp ee ss mm ar bel mth cde s₁ B hml hv
  obtain ⟨rfl, hsz, hP, hK, hD0, hE⟩ := hv
  have hx := B.exec
  have hb := B.bytes
  have hr := B.returns
  have hts := atoms_spec (ws := wsX4_claim) B.pre
  have hown : ss.vm.findClass RX4 = some mm.cls := findClass_of_methodNamed B.named
  have hlocks := B.notSynchronized
  subst hsz
  have hD := hD0.self (sz := ss.heap.size)
  generalize hAe : va_A (MW a cI cJ he cm ad gw as de eq re co av hi ke sq ab be nw tn th cd) ss.heap.size = A at hD ⊢
  have hA : ∀ q : Nat, ss.heap.size ≤ q → A q := fun q h => by rw [← hAe]; exact Or.inr h
  have hS : va_S A ss.heap ss.heap [] := va_S.rf
  have hin : ∀ w ∈ wsX40, w.before ([.ref (a 0), .int (nI (o)), .int (nI (c)), .int (x)] : List Value).toArray ss = true := fun w h => hts w ((by decide +kernel : ∀ w ∈ wsX40, w ∈ wsX4_claim) w h)
  have hl := lv_entry [.ref (a 0), .int (nI (o)), .int (nI (c)), .int (x)] (n := 5) (Nat.le_of_ble_eq_true rfl)
  rw [lg_entry_eq]
  generalize (lg_sl [.ref (a 0), .int (nI (o)), .int (nI (c)), .int (x)] ++ List.replicate (5 - (lg_sl [.ref (a 0), .int (nI (o)), .int (nI (c)), .int (x)]).length) Slot.unset).toArray = ls at hl ⊢
  have hl : lv_has ls 5 [(0, .ref (a 0)), (1, .int (nI (o))), (2, .int (nI (c))), (3, .int (x))] := hl
  refine lv_aload_n hx hb dX4_claim_0 rfl (lv_at hl 0 rfl) ?_
  refine lv_iconst (v := 0) hx hb dX4_claim_1 (by decide) ?_
  refine va_put (D := D) (ci := 4) (v := .int (0)) (ty := .int) (C := RX4) (T := TX4) (N := 19) (Ts := wsX40) hx hb hin (fun _ h9 => h9) tyX4 tyX4_ok nmX4 hown hK hP hD hS 0 rfl rfl 0 (by decide) (hts (.fieldLink RX4 62 "GroupbooksModel" "thrown" "I") (by decide +kernel)) (fun _ h9 => h9) rfl (by decide +kernel) rfl rfl (Nat.le_of_ble_eq_true rfl) dX4_claim_2 (fun H locs hP hD hS => ?_)
  have hP : va_P D vwCl (MW a cI cJ he cm ad gw as de eq re co av hi ke sq ab be nw tn 0 cd) H := hP
  have hD : va_D A (MW a cI cJ he cm ad gw as de eq re co av hi ke sq ab be nw tn 0 cd) := hD
  refine lv_iload_n hx hb dX4_claim_5 rfl (lv_at hl 1 rfl) ?_
  refine lv_iload_n hx hb dX4_claim_6 rfl (lv_at hl 2 rfl) ?_
  refine b_csi (v := bI (prB (nI (o)) (nI (c)))) (W.runS (As := [.int (nI (o)), .int (nI (c))]) (rest := []) ⟨hx, hb, hml, hown, hts⟩ (c_X4_isPair ll (nI (o)) (nI (c)) ) (va_cwS 2 hts gX4_claim_X4_isPair rfl rfl rfl (by decide +kernel) ⟨Nat.le_of_ble_eq_true rfl, Nat.le_of_ble_eq_true rfl⟩) ⟨PT.blind, PT.to⟩ rfl rfl hl.1 rfl (lv_room (Nat.le_of_ble_eq_true rfl)) dX4_claim_7 ⟨Nat.le_of_ble_eq_true rfl, Nat.le_of_ble_eq_true rfl⟩) ?_
  refine lv_if_eq (tgt := 23) hx hb dX4_claim_10 (by decide) (fun c_1 => ?_) (fun c_1 => ?_)
  · have n_1 : ¬ (prB (nI (o)) (nI (c))) = true := bI0 c_1
    exact absurd hpr n_1
  · have n_1 : (prB (nI (o)) (nI (c))) = true := bI1 c_1
    refine lv_iload_n hx hb dX4_claim_13 rfl (lv_at hl 3 rfl) ?_
    refine lv_iconst (v := 0) hx hb dX4_claim_14 (by decide) ?_
    refine lv_ldc (v := 1000000) hx hb hown (hts (.constant RX4 105 (1000000)) (by decide +kernel)) dX4_claim_15 ?_
    refine b_csi (v := bI (inB x 0 ((1000000)))) (W.runS (As := [.int (x), .int (0), .int ((1000000))]) (rest := []) ⟨hx, hb, hml, hown, hts⟩ (c_X4_in ll x 0 ((1000000)) ) (va_cwS 3 hts gX4_claim_X4_in rfl rfl rfl (by decide +kernel) ⟨Nat.le_of_ble_eq_true rfl, Nat.le_of_ble_eq_true rfl⟩) ⟨PT.blind, PT.to⟩ rfl rfl hl.1 rfl (lv_room (Nat.le_of_ble_eq_true rfl)) dX4_claim_17 ⟨Nat.le_of_ble_eq_true rfl, Nat.le_of_ble_eq_true rfl⟩) ?_
    refine lv_if_ne (tgt := 29) hx hb dX4_claim_20 (by decide) (fun c_2 => ?_) (fun c_2 => ?_)
    · have n_2 : (inB x 0 ((1000000))) = true := bI1 c_2
      refine lv_aload_n hx hb dX4_claim_29 rfl (lv_at hl 0 rfl) ?_
      refine va_get (D := D) (ci := 4) (v := .ref (a 2)) (C := RX4) (T := TX4) (N := 19) (Ts := wsX40) hx hb hin (fun _ h9 => h9) hown hK hP 0 rfl rfl 2 (by decide) (hts (.fieldLink RX4 13 "GroupbooksModel" "claimed" "[I") (by decide +kernel)) (fun _ h9 => h9) rfl dX4_claim_30 ?_
      refine lv_bipush (v := 6) hx hb dX4_claim_33 (by decide) ?_
      refine lv_iload_n hx hb dX4_claim_35 rfl (lv_at hl 1 rfl) ?_
      refine lv_imul hx hb dX4_claim_36 ?_
      refine b_ti (pk_mul (6) (o)) ?_
      refine lv_iload_n hx hb dX4_claim_37 rfl (lv_at hl 2 rfl) ?_
      refine lv_iadd hx hb dX4_claim_38 ?_
      refine b_ti (nI_add ((6) * (o)) (c)) ?_
      refine b_iald hx hb hK hP 2 0 (f := cm) rfl rfl (j := ((6) * (o)) + (c)) (by omega) (by decide) dX4_claim_39 ?_
      refine lv_istore (lv' := [(4, .int (cm (((6) * (o)) + (c)))), (0, .ref (a 0)), (1, .int (nI (o))), (2, .int (nI (c))), (3, .int (x))]) hx hb dX4_claim_40 hl (by decide) rfl (fun ls hl => ?_)
      refine lv_aload_n hx hb dX4_claim_42 rfl (lv_at hl 1 rfl) ?_
      refine va_get (D := D) (ci := 4) (v := .ref (a 2)) (C := RX4) (T := TX4) (N := 19) (Ts := wsX40) hx hb hin (fun _ h9 => h9) hown hK hP 0 rfl rfl 2 (by decide) (hts (.fieldLink RX4 13 "GroupbooksModel" "claimed" "[I") (by decide +kernel)) (fun _ h9 => h9) rfl dX4_claim_43 ?_
      refine lv_bipush (v := 6) hx hb dX4_claim_46 (by decide) ?_
      refine lv_iload_n hx hb dX4_claim_48 rfl (lv_at hl 2 rfl) ?_
      refine lv_imul hx hb dX4_claim_49 ?_
      refine b_ti (pk_mul (6) (o)) ?_
      refine lv_iload_n hx hb dX4_claim_50 rfl (lv_at hl 3 rfl) ?_
      refine lv_iadd hx hb dX4_claim_51 ?_
      refine b_ti (nI_add ((6) * (o)) (c)) ?_
      refine lv_iload_n hx hb dX4_claim_52 rfl (lv_at hl 4 rfl) ?_
      refine b_iast (w' := MW a cI cJ he (upd cm (((6) * (o)) + (c)) (x)) ad gw as de eq re co av hi ke sq ab be nw tn 0 cd) hx hb hK hP hD hS 2 0 (f := cm) rfl rfl (j := ((6) * (o)) + (c)) (by omega) (by decide) rfl dX4_claim_53 (fun H locs hP hD hS => ?_)
      refine lv_iload hx hb dX4_claim_54 (lv_at hl 0 rfl) ?_
      have e_3 : (upd cm (6 * o + c) x) = (upd cm (((6) * (o)) + (c)) (x)) := by first | rfl | exact if_pos (by assumption) | exact if_neg (by assumption) | (simp only [n_1, n_2, Bool.false_eq_true, ↓reduceIte])
      have hP := (congrArg (fun z9 => va_P D vwCl (MW a cI cJ he z9 ad gw as de eq re co av hi ke sq ab be nw tn 0 cd) _) e_3).mpr hP
      have hD := (congrArg (fun z9 => va_D A (MW a cI cJ he z9 ad gw as de eq re co av hi ke sq ab be nw tn 0 cd)) e_3).mpr hD
      exact W.iret hx hb hr (fun t ht hW => ⟨⟨_, (), rfl, rfl, (by rw [ht]; exact hP), va_K.moved hW.alike hK, hD⟩, hS.F ht⟩) hS.2.2 dX4_claim_56
    · have n_2 : ¬ (inB x 0 ((1000000))) = true := bI0 c_2
      exact absurd hqx n_2

abbrev rmX4_admit : Room := ({ frames := 3, cells := 0, slots := 0, locals := 63 } : Room)
set_option maxHeartbeats 4000000 in
set_option maxRecDepth 100000 in
theorem c_X4_admit (ll : Launch) (D : va_G) (a : Nat → Nat) (cI cJ : ClassId) (sz : Nat) (he cm ad gw as de eq re co av hi ke : Nat → Int32) (sq ab be : Nat → Int64) (nw tn : Nat → Int32) (th cd : Int32) (o c : Nat) (x : Int32) (ho : o < 6) (hc : c < 6) (hpr : prB (nI c) (nI o) = true) (hqx : inB x 0 1000000 = true) : Met ll yX4_admit wsX4_admit rmX4_admit (va_Pc [.ref (a 0), .int (nI (o)), .int (nI (c)), .int (x)] (PW D (tyG cI cJ) (MW a cI cJ he cm ad gw as de eq re co av hi ke sq ab be nw tn th cd) sz)) (va_Qi (fun (rr : Int32) (u : Unit) => rr = ad (6 * o + c)) (fun (u : Unit) t => AW D (tyG cI cJ) (va_A (MW a cI cJ he cm ad gw as de eq re co av hi ke sq ab be nw tn th cd) sz) (MW a cI cJ he cm (upd ad (6 * o + c) x) gw as de eq re co av hi ke sq ab be nw tn 0 cd) t) (va_A (MW a cI cJ he cm ad gw as de eq re co av hi ke sq ab be nw tn th cd) sz)) 0 0 (va_A (MW a cI cJ he cm ad gw as de eq re co av hi ke sq ab be nw tn th cd) sz) := by
  refine Met.ofW (cc := cX4_admit) (maxL := 5) (ret := (some .int)) (by decide) rfl ?_
  intro pp ee ss mm ar bel mth cde s₁ B hml hv
  obtain ⟨rfl, hsz, hP, hK, hD0, hE⟩ := hv
  have hx := B.exec
  have hb := B.bytes
  have hr := B.returns
  have hts := atoms_spec (ws := wsX4_admit) B.pre
  have hown : ss.vm.findClass RX4 = some mm.cls := findClass_of_methodNamed B.named
  have hlocks := B.notSynchronized
  subst hsz
  have hD := hD0.self (sz := ss.heap.size)
  generalize hAe : va_A (MW a cI cJ he cm ad gw as de eq re co av hi ke sq ab be nw tn th cd) ss.heap.size = A at hD ⊢
  have hA : ∀ q : Nat, ss.heap.size ≤ q → A q := fun q h => by rw [← hAe]; exact Or.inr h
  have hS : va_S A ss.heap ss.heap [] := va_S.rf
  have hin : ∀ w ∈ wsX40, w.before ([.ref (a 0), .int (nI (o)), .int (nI (c)), .int (x)] : List Value).toArray ss = true := fun w h => hts w ((by decide +kernel : ∀ w ∈ wsX40, w ∈ wsX4_admit) w h)
  have hl := lv_entry [.ref (a 0), .int (nI (o)), .int (nI (c)), .int (x)] (n := 5) (Nat.le_of_ble_eq_true rfl)
  rw [lg_entry_eq]
  generalize (lg_sl [.ref (a 0), .int (nI (o)), .int (nI (c)), .int (x)] ++ List.replicate (5 - (lg_sl [.ref (a 0), .int (nI (o)), .int (nI (c)), .int (x)]).length) Slot.unset).toArray = ls at hl ⊢
  have hl : lv_has ls 5 [(0, .ref (a 0)), (1, .int (nI (o))), (2, .int (nI (c))), (3, .int (x))] := hl
  refine lv_aload_n hx hb dX4_admit_0 rfl (lv_at hl 0 rfl) ?_
  refine lv_iconst (v := 0) hx hb dX4_admit_1 (by decide) ?_
  refine va_put (D := D) (ci := 4) (v := .int (0)) (ty := .int) (C := RX4) (T := TX4) (N := 19) (Ts := wsX40) hx hb hin (fun _ h9 => h9) tyX4 tyX4_ok nmX4 hown hK hP hD hS 0 rfl rfl 0 (by decide) (hts (.fieldLink RX4 62 "GroupbooksModel" "thrown" "I") (by decide +kernel)) (fun _ h9 => h9) rfl (by decide +kernel) rfl rfl (Nat.le_of_ble_eq_true rfl) dX4_admit_2 (fun H locs hP hD hS => ?_)
  have hP : va_P D vwCl (MW a cI cJ he cm ad gw as de eq re co av hi ke sq ab be nw tn 0 cd) H := hP
  have hD : va_D A (MW a cI cJ he cm ad gw as de eq re co av hi ke sq ab be nw tn 0 cd) := hD
  refine lv_iload_n hx hb dX4_admit_5 rfl (lv_at hl 2 rfl) ?_
  refine lv_iload_n hx hb dX4_admit_6 rfl (lv_at hl 1 rfl) ?_
  refine b_csi (v := bI (prB (nI (c)) (nI (o)))) (W.runS (As := [.int (nI (c)), .int (nI (o))]) (rest := []) ⟨hx, hb, hml, hown, hts⟩ (c_X4_isPair ll (nI (c)) (nI (o)) ) (va_cwS 2 hts gX4_admit_X4_isPair rfl rfl rfl (by decide +kernel) ⟨Nat.le_of_ble_eq_true rfl, Nat.le_of_ble_eq_true rfl⟩) ⟨PT.blind, PT.to⟩ rfl rfl hl.1 rfl (lv_room (Nat.le_of_ble_eq_true rfl)) dX4_admit_7 ⟨Nat.le_of_ble_eq_true rfl, Nat.le_of_ble_eq_true rfl⟩) ?_
  refine lv_if_eq (tgt := 23) hx hb dX4_admit_10 (by decide) (fun c_1 => ?_) (fun c_1 => ?_)
  · have n_1 : ¬ (prB (nI (c)) (nI (o))) = true := bI0 c_1
    exact absurd hpr n_1
  · have n_1 : (prB (nI (c)) (nI (o))) = true := bI1 c_1
    refine lv_iload_n hx hb dX4_admit_13 rfl (lv_at hl 3 rfl) ?_
    refine lv_iconst (v := 0) hx hb dX4_admit_14 (by decide) ?_
    refine lv_ldc (v := 1000000) hx hb hown (hts (.constant RX4 105 (1000000)) (by decide +kernel)) dX4_admit_15 ?_
    refine b_csi (v := bI (inB x 0 ((1000000)))) (W.runS (As := [.int (x), .int (0), .int ((1000000))]) (rest := []) ⟨hx, hb, hml, hown, hts⟩ (c_X4_in ll x 0 ((1000000)) ) (va_cwS 3 hts gX4_admit_X4_in rfl rfl rfl (by decide +kernel) ⟨Nat.le_of_ble_eq_true rfl, Nat.le_of_ble_eq_true rfl⟩) ⟨PT.blind, PT.to⟩ rfl rfl hl.1 rfl (lv_room (Nat.le_of_ble_eq_true rfl)) dX4_admit_17 ⟨Nat.le_of_ble_eq_true rfl, Nat.le_of_ble_eq_true rfl⟩) ?_
    refine lv_if_ne (tgt := 29) hx hb dX4_admit_20 (by decide) (fun c_2 => ?_) (fun c_2 => ?_)
    · have n_2 : (inB x 0 ((1000000))) = true := bI1 c_2
      refine lv_aload_n hx hb dX4_admit_29 rfl (lv_at hl 0 rfl) ?_
      refine va_get (D := D) (ci := 4) (v := .ref (a 3)) (C := RX4) (T := TX4) (N := 19) (Ts := wsX40) hx hb hin (fun _ h9 => h9) hown hK hP 0 rfl rfl 3 (by decide) (hts (.fieldLink RX4 16 "GroupbooksModel" "admitted" "[I") (by decide +kernel)) (fun _ h9 => h9) rfl dX4_admit_30 ?_
      refine lv_bipush (v := 6) hx hb dX4_admit_33 (by decide) ?_
      refine lv_iload_n hx hb dX4_admit_35 rfl (lv_at hl 1 rfl) ?_
      refine lv_imul hx hb dX4_admit_36 ?_
      refine b_ti (pk_mul (6) (o)) ?_
      refine lv_iload_n hx hb dX4_admit_37 rfl (lv_at hl 2 rfl) ?_
      refine lv_iadd hx hb dX4_admit_38 ?_
      refine b_ti (nI_add ((6) * (o)) (c)) ?_
      refine b_iald hx hb hK hP 3 0 (f := ad) rfl rfl (j := ((6) * (o)) + (c)) (by omega) (by decide) dX4_admit_39 ?_
      refine lv_istore (lv' := [(4, .int (ad (((6) * (o)) + (c)))), (0, .ref (a 0)), (1, .int (nI (o))), (2, .int (nI (c))), (3, .int (x))]) hx hb dX4_admit_40 hl (by decide) rfl (fun ls hl => ?_)
      refine lv_aload_n hx hb dX4_admit_42 rfl (lv_at hl 1 rfl) ?_
      refine va_get (D := D) (ci := 4) (v := .ref (a 3)) (C := RX4) (T := TX4) (N := 19) (Ts := wsX40) hx hb hin (fun _ h9 => h9) hown hK hP 0 rfl rfl 3 (by decide) (hts (.fieldLink RX4 16 "GroupbooksModel" "admitted" "[I") (by decide +kernel)) (fun _ h9 => h9) rfl dX4_admit_43 ?_
      refine lv_bipush (v := 6) hx hb dX4_admit_46 (by decide) ?_
      refine lv_iload_n hx hb dX4_admit_48 rfl (lv_at hl 2 rfl) ?_
      refine lv_imul hx hb dX4_admit_49 ?_
      refine b_ti (pk_mul (6) (o)) ?_
      refine lv_iload_n hx hb dX4_admit_50 rfl (lv_at hl 3 rfl) ?_
      refine lv_iadd hx hb dX4_admit_51 ?_
      refine b_ti (nI_add ((6) * (o)) (c)) ?_
      refine lv_iload_n hx hb dX4_admit_52 rfl (lv_at hl 4 rfl) ?_
      refine b_iast (w' := MW a cI cJ he cm (upd ad (((6) * (o)) + (c)) (x)) gw as de eq re co av hi ke sq ab be nw tn 0 cd) hx hb hK hP hD hS 3 0 (f := ad) rfl rfl (j := ((6) * (o)) + (c)) (by omega) (by decide) rfl dX4_admit_53 (fun H locs hP hD hS => ?_)
      refine lv_iload hx hb dX4_admit_54 (lv_at hl 0 rfl) ?_
      have e_3 : (upd ad (6 * o + c) x) = (upd ad (((6) * (o)) + (c)) (x)) := by first | rfl | exact if_pos (by assumption) | exact if_neg (by assumption) | (simp only [n_1, n_2, Bool.false_eq_true, ↓reduceIte])
      have hP := (congrArg (fun z9 => va_P D vwCl (MW a cI cJ he cm z9 gw as de eq re co av hi ke sq ab be nw tn 0 cd) _) e_3).mpr hP
      have hD := (congrArg (fun z9 => va_D A (MW a cI cJ he cm z9 gw as de eq re co av hi ke sq ab be nw tn 0 cd)) e_3).mpr hD
      exact W.iret hx hb hr (fun t ht hW => ⟨⟨_, (), rfl, rfl, (by rw [ht]; exact hP), va_K.moved hW.alike hK, hD⟩, hS.F ht⟩) hS.2.2 dX4_admit_56
    · have n_2 : ¬ (inB x 0 ((1000000))) = true := bI0 c_2
      exact absurd hqx n_2

abbrev rmX4_claim_bad : Room := ({ frames := 3, cells := 0, slots := 0, locals := 63 } : Room)
set_option maxHeartbeats 4000000 in
set_option maxRecDepth 100000 in
theorem c_X4_claim_bad (ll : Launch) (D : va_G) (a : Nat → Nat) (cI cJ : ClassId) (sz : Nat) (he cm ad gw as de eq re co av hi ke : Nat → Int32) (sq ab be : Nat → Int64) (nw tn : Nat → Int32) (th cd : Int32) (x0 x1 x : Int32) (hbad : ¬ (prB x0 x1 = true ∧ inB x 0 1000000 = true)) : Met ll yX4_claim wsX4_claim rmX4_claim_bad (va_Pc [.ref (a 0), .int (x0), .int (x1), .int (x)] (PW D (tyG cI cJ) (MW a cI cJ he cm ad gw as de eq re co av hi ke sq ab be nw tn th cd) sz)) (va_Qi (fun (rr : Int32) (u : Unit) => rr = 0) (fun (u : Unit) t => AW D (tyG cI cJ) (va_A (MW a cI cJ he cm ad gw as de eq re co av hi ke sq ab be nw tn th cd) sz) (MW a cI cJ he cm ad gw as de eq re co av hi ke sq ab be nw tn 1 cd) t) (va_A (MW a cI cJ he cm ad gw as de eq re co av hi ke sq ab be nw tn th cd) sz)) 0 0 (va_A (MW a cI cJ he cm ad gw as de eq re co av hi ke sq ab be nw tn th cd) sz) := by
  refine Met.ofW (cc := cX4_claim) (maxL := 5) (ret := (some .int)) (by decide) rfl ?_
  intro pp ee ss mm ar bel mth cde s₁ B hml hv
  obtain ⟨rfl, hsz, hP, hK, hD0, hE⟩ := hv
  have hx := B.exec
  have hb := B.bytes
  have hr := B.returns
  have hts := atoms_spec (ws := wsX4_claim) B.pre
  have hown : ss.vm.findClass RX4 = some mm.cls := findClass_of_methodNamed B.named
  have hlocks := B.notSynchronized
  subst hsz
  have hD := hD0.self (sz := ss.heap.size)
  generalize hAe : va_A (MW a cI cJ he cm ad gw as de eq re co av hi ke sq ab be nw tn th cd) ss.heap.size = A at hD ⊢
  have hA : ∀ q : Nat, ss.heap.size ≤ q → A q := fun q h => by rw [← hAe]; exact Or.inr h
  have hS : va_S A ss.heap ss.heap [] := va_S.rf
  have hin : ∀ w ∈ wsX40, w.before ([.ref (a 0), .int (x0), .int (x1), .int (x)] : List Value).toArray ss = true := fun w h => hts w ((by decide +kernel : ∀ w ∈ wsX40, w ∈ wsX4_claim) w h)
  have hl := lv_entry [.ref (a 0), .int (x0), .int (x1), .int (x)] (n := 5) (Nat.le_of_ble_eq_true rfl)
  rw [lg_entry_eq]
  generalize (lg_sl [.ref (a 0), .int (x0), .int (x1), .int (x)] ++ List.replicate (5 - (lg_sl [.ref (a 0), .int (x0), .int (x1), .int (x)]).length) Slot.unset).toArray = ls at hl ⊢
  have hl : lv_has ls 5 [(0, .ref (a 0)), (1, .int (x0)), (2, .int (x1)), (3, .int (x))] := hl
  refine lv_aload_n hx hb dX4_claim_0 rfl (lv_at hl 0 rfl) ?_
  refine lv_iconst (v := 0) hx hb dX4_claim_1 (by decide) ?_
  refine va_put (D := D) (ci := 4) (v := .int (0)) (ty := .int) (C := RX4) (T := TX4) (N := 19) (Ts := wsX40) hx hb hin (fun _ h9 => h9) tyX4 tyX4_ok nmX4 hown hK hP hD hS 0 rfl rfl 0 (by decide) (hts (.fieldLink RX4 62 "GroupbooksModel" "thrown" "I") (by decide +kernel)) (fun _ h9 => h9) rfl (by decide +kernel) rfl rfl (Nat.le_of_ble_eq_true rfl) dX4_claim_2 (fun H locs hP hD hS => ?_)
  have hP : va_P D vwCl (MW a cI cJ he cm ad gw as de eq re co av hi ke sq ab be nw tn 0 cd) H := hP
  have hD : va_D A (MW a cI cJ he cm ad gw as de eq re co av hi ke sq ab be nw tn 0 cd) := hD
  refine lv_iload_n hx hb dX4_claim_5 rfl (lv_at hl 1 rfl) ?_
  refine lv_iload_n hx hb dX4_claim_6 rfl (lv_at hl 2 rfl) ?_
  refine b_csi (v := bI (prB x0 x1)) (W.runS (As := [.int (x0), .int (x1)]) (rest := []) ⟨hx, hb, hml, hown, hts⟩ (c_X4_isPair ll x0 x1 ) (va_cwS 2 hts gX4_claim_X4_isPair rfl rfl rfl (by decide +kernel) ⟨Nat.le_of_ble_eq_true rfl, Nat.le_of_ble_eq_true rfl⟩) ⟨PT.blind, PT.to⟩ rfl rfl hl.1 rfl (lv_room (Nat.le_of_ble_eq_true rfl)) dX4_claim_7 ⟨Nat.le_of_ble_eq_true rfl, Nat.le_of_ble_eq_true rfl⟩) ?_
  refine lv_if_eq (tgt := 23) hx hb dX4_claim_10 (by decide) (fun c_1 => ?_) (fun c_1 => ?_)
  · have n_1 : ¬ (prB x0 x1) = true := bI0 c_1
    refine lv_aload_n hx hb dX4_claim_23 rfl (lv_at hl 0 rfl) ?_
    refine lv_iconst (v := 1) hx hb dX4_claim_24 (by decide) ?_
    refine b_calli0 (S := Unit) (w' := fun u => MW a cI cJ he cm ad gw as de eq re co av hi ke sq ab be nw tn 1 cd) hP hD hS hA (va_runV (As := [.int (1)]) (rest := []) ⟨hx, hb, hml, hown, hts⟩ (c_X4_fails ll D a cI cJ _ he cm ad gw as de eq re co av hi ke sq ab be nw tn 0 cd 1 ) (cwV 1 hts gX4_claim_X4_fails rfl rfl rfl (by decide +kernel) ⟨Nat.le_of_ble_eq_true rfl, Nat.le_of_ble_eq_true rfl⟩) ⟨PW.blind, va_recv hK hP (ci := 4) (q0 := 0) rfl rfl, PW.go hP hK hD hE⟩ rfl rfl hl.1 rfl (lv_room (Nat.le_of_ble_eq_true rfl)) dX4_claim_25 ⟨Nat.le_of_ble_eq_true rfl, Nat.le_of_ble_eq_true rfl⟩) (fun r_3 u H locs h_2 hP hD hS => ?_)
    have h_2 : r_3 = 0 := h_2
    subst h_2
    exact W.iret hx hb hr (fun t ht hW => ⟨⟨_, (), rfl, rfl, (by rw [ht]; exact hP), va_K.moved hW.alike hK, hD⟩, hS.F ht⟩) hS.2.2 dX4_claim_28
  · have n_1 : (prB x0 x1) = true := bI1 c_1
    refine lv_iload_n hx hb dX4_claim_13 rfl (lv_at hl 3 rfl) ?_
    refine lv_iconst (v := 0) hx hb dX4_claim_14 (by decide) ?_
    refine lv_ldc (v := 1000000) hx hb hown (hts (.constant RX4 105 (1000000)) (by decide +kernel)) dX4_claim_15 ?_
    refine b_csi (v := bI (inB x 0 ((1000000)))) (W.runS (As := [.int (x), .int (0), .int ((1000000))]) (rest := []) ⟨hx, hb, hml, hown, hts⟩ (c_X4_in ll x 0 ((1000000)) ) (va_cwS 3 hts gX4_claim_X4_in rfl rfl rfl (by decide +kernel) ⟨Nat.le_of_ble_eq_true rfl, Nat.le_of_ble_eq_true rfl⟩) ⟨PT.blind, PT.to⟩ rfl rfl hl.1 rfl (lv_room (Nat.le_of_ble_eq_true rfl)) dX4_claim_17 ⟨Nat.le_of_ble_eq_true rfl, Nat.le_of_ble_eq_true rfl⟩) ?_
    refine lv_if_ne (tgt := 29) hx hb dX4_claim_20 (by decide) (fun c_4 => ?_) (fun c_4 => ?_)
    · have n_4 : (inB x 0 ((1000000))) = true := bI1 c_4
      exact absurd (And.intro n_1 n_4) hbad
    · have n_4 : ¬ (inB x 0 ((1000000))) = true := bI0 c_4
      refine lv_aload_n hx hb dX4_claim_23 rfl (lv_at hl 0 rfl) ?_
      refine lv_iconst (v := 1) hx hb dX4_claim_24 (by decide) ?_
      refine b_calli0 (S := Unit) (w' := fun u => MW a cI cJ he cm ad gw as de eq re co av hi ke sq ab be nw tn 1 cd) hP hD hS hA (va_runV (As := [.int (1)]) (rest := []) ⟨hx, hb, hml, hown, hts⟩ (c_X4_fails ll D a cI cJ _ he cm ad gw as de eq re co av hi ke sq ab be nw tn 0 cd 1 ) (cwV 1 hts gX4_claim_X4_fails rfl rfl rfl (by decide +kernel) ⟨Nat.le_of_ble_eq_true rfl, Nat.le_of_ble_eq_true rfl⟩) ⟨PW.blind, va_recv hK hP (ci := 4) (q0 := 0) rfl rfl, PW.go hP hK hD hE⟩ rfl rfl hl.1 rfl (lv_room (Nat.le_of_ble_eq_true rfl)) dX4_claim_25 ⟨Nat.le_of_ble_eq_true rfl, Nat.le_of_ble_eq_true rfl⟩) (fun r_6 u H locs h_5 hP hD hS => ?_)
      have h_5 : r_6 = 0 := h_5
      subst h_5
      exact W.iret hx hb hr (fun t ht hW => ⟨⟨_, (), rfl, rfl, (by rw [ht]; exact hP), va_K.moved hW.alike hK, hD⟩, hS.F ht⟩) hS.2.2 dX4_claim_28

abbrev rmX4_admit_bad : Room := ({ frames := 3, cells := 0, slots := 0, locals := 63 } : Room)
set_option maxHeartbeats 4000000 in
set_option maxRecDepth 100000 in
theorem c_X4_admit_bad (ll : Launch) (D : va_G) (a : Nat → Nat) (cI cJ : ClassId) (sz : Nat) (he cm ad gw as de eq re co av hi ke : Nat → Int32) (sq ab be : Nat → Int64) (nw tn : Nat → Int32) (th cd : Int32) (x0 x1 x : Int32) (hbad : ¬ (prB x1 x0 = true ∧ inB x 0 1000000 = true)) : Met ll yX4_admit wsX4_admit rmX4_admit_bad (va_Pc [.ref (a 0), .int (x0), .int (x1), .int (x)] (PW D (tyG cI cJ) (MW a cI cJ he cm ad gw as de eq re co av hi ke sq ab be nw tn th cd) sz)) (va_Qi (fun (rr : Int32) (u : Unit) => rr = 0) (fun (u : Unit) t => AW D (tyG cI cJ) (va_A (MW a cI cJ he cm ad gw as de eq re co av hi ke sq ab be nw tn th cd) sz) (MW a cI cJ he cm ad gw as de eq re co av hi ke sq ab be nw tn 1 cd) t) (va_A (MW a cI cJ he cm ad gw as de eq re co av hi ke sq ab be nw tn th cd) sz)) 0 0 (va_A (MW a cI cJ he cm ad gw as de eq re co av hi ke sq ab be nw tn th cd) sz) := by
  refine Met.ofW (cc := cX4_admit) (maxL := 5) (ret := (some .int)) (by decide) rfl ?_
  intro pp ee ss mm ar bel mth cde s₁ B hml hv
  obtain ⟨rfl, hsz, hP, hK, hD0, hE⟩ := hv
  have hx := B.exec
  have hb := B.bytes
  have hr := B.returns
  have hts := atoms_spec (ws := wsX4_admit) B.pre
  have hown : ss.vm.findClass RX4 = some mm.cls := findClass_of_methodNamed B.named
  have hlocks := B.notSynchronized
  subst hsz
  have hD := hD0.self (sz := ss.heap.size)
  generalize hAe : va_A (MW a cI cJ he cm ad gw as de eq re co av hi ke sq ab be nw tn th cd) ss.heap.size = A at hD ⊢
  have hA : ∀ q : Nat, ss.heap.size ≤ q → A q := fun q h => by rw [← hAe]; exact Or.inr h
  have hS : va_S A ss.heap ss.heap [] := va_S.rf
  have hin : ∀ w ∈ wsX40, w.before ([.ref (a 0), .int (x0), .int (x1), .int (x)] : List Value).toArray ss = true := fun w h => hts w ((by decide +kernel : ∀ w ∈ wsX40, w ∈ wsX4_admit) w h)
  have hl := lv_entry [.ref (a 0), .int (x0), .int (x1), .int (x)] (n := 5) (Nat.le_of_ble_eq_true rfl)
  rw [lg_entry_eq]
  generalize (lg_sl [.ref (a 0), .int (x0), .int (x1), .int (x)] ++ List.replicate (5 - (lg_sl [.ref (a 0), .int (x0), .int (x1), .int (x)]).length) Slot.unset).toArray = ls at hl ⊢
  have hl : lv_has ls 5 [(0, .ref (a 0)), (1, .int (x0)), (2, .int (x1)), (3, .int (x))] := hl
  refine lv_aload_n hx hb dX4_admit_0 rfl (lv_at hl 0 rfl) ?_
  refine lv_iconst (v := 0) hx hb dX4_admit_1 (by decide) ?_
  refine va_put (D := D) (ci := 4) (v := .int (0)) (ty := .int) (C := RX4) (T := TX4) (N := 19) (Ts := wsX40) hx hb hin (fun _ h9 => h9) tyX4 tyX4_ok nmX4 hown hK hP hD hS 0 rfl rfl 0 (by decide) (hts (.fieldLink RX4 62 "GroupbooksModel" "thrown" "I") (by decide +kernel)) (fun _ h9 => h9) rfl (by decide +kernel) rfl rfl (Nat.le_of_ble_eq_true rfl) dX4_admit_2 (fun H locs hP hD hS => ?_)
  have hP : va_P D vwCl (MW a cI cJ he cm ad gw as de eq re co av hi ke sq ab be nw tn 0 cd) H := hP
  have hD : va_D A (MW a cI cJ he cm ad gw as de eq re co av hi ke sq ab be nw tn 0 cd) := hD
  refine lv_iload_n hx hb dX4_admit_5 rfl (lv_at hl 2 rfl) ?_
  refine lv_iload_n hx hb dX4_admit_6 rfl (lv_at hl 1 rfl) ?_
  refine b_csi (v := bI (prB x1 x0)) (W.runS (As := [.int (x1), .int (x0)]) (rest := []) ⟨hx, hb, hml, hown, hts⟩ (c_X4_isPair ll x1 x0 ) (va_cwS 2 hts gX4_admit_X4_isPair rfl rfl rfl (by decide +kernel) ⟨Nat.le_of_ble_eq_true rfl, Nat.le_of_ble_eq_true rfl⟩) ⟨PT.blind, PT.to⟩ rfl rfl hl.1 rfl (lv_room (Nat.le_of_ble_eq_true rfl)) dX4_admit_7 ⟨Nat.le_of_ble_eq_true rfl, Nat.le_of_ble_eq_true rfl⟩) ?_
  refine lv_if_eq (tgt := 23) hx hb dX4_admit_10 (by decide) (fun c_1 => ?_) (fun c_1 => ?_)
  · have n_1 : ¬ (prB x1 x0) = true := bI0 c_1
    refine lv_aload_n hx hb dX4_admit_23 rfl (lv_at hl 0 rfl) ?_
    refine lv_iconst (v := 1) hx hb dX4_admit_24 (by decide) ?_
    refine b_calli0 (S := Unit) (w' := fun u => MW a cI cJ he cm ad gw as de eq re co av hi ke sq ab be nw tn 1 cd) hP hD hS hA (va_runV (As := [.int (1)]) (rest := []) ⟨hx, hb, hml, hown, hts⟩ (c_X4_fails ll D a cI cJ _ he cm ad gw as de eq re co av hi ke sq ab be nw tn 0 cd 1 ) (cwV 1 hts gX4_admit_X4_fails rfl rfl rfl (by decide +kernel) ⟨Nat.le_of_ble_eq_true rfl, Nat.le_of_ble_eq_true rfl⟩) ⟨PW.blind, va_recv hK hP (ci := 4) (q0 := 0) rfl rfl, PW.go hP hK hD hE⟩ rfl rfl hl.1 rfl (lv_room (Nat.le_of_ble_eq_true rfl)) dX4_admit_25 ⟨Nat.le_of_ble_eq_true rfl, Nat.le_of_ble_eq_true rfl⟩) (fun r_3 u H locs h_2 hP hD hS => ?_)
    have h_2 : r_3 = 0 := h_2
    subst h_2
    exact W.iret hx hb hr (fun t ht hW => ⟨⟨_, (), rfl, rfl, (by rw [ht]; exact hP), va_K.moved hW.alike hK, hD⟩, hS.F ht⟩) hS.2.2 dX4_admit_28
  · have n_1 : (prB x1 x0) = true := bI1 c_1
    refine lv_iload_n hx hb dX4_admit_13 rfl (lv_at hl 3 rfl) ?_
    refine lv_iconst (v := 0) hx hb dX4_admit_14 (by decide) ?_
    refine lv_ldc (v := 1000000) hx hb hown (hts (.constant RX4 105 (1000000)) (by decide +kernel)) dX4_admit_15 ?_
    refine b_csi (v := bI (inB x 0 ((1000000)))) (W.runS (As := [.int (x), .int (0), .int ((1000000))]) (rest := []) ⟨hx, hb, hml, hown, hts⟩ (c_X4_in ll x 0 ((1000000)) ) (va_cwS 3 hts gX4_admit_X4_in rfl rfl rfl (by decide +kernel) ⟨Nat.le_of_ble_eq_true rfl, Nat.le_of_ble_eq_true rfl⟩) ⟨PT.blind, PT.to⟩ rfl rfl hl.1 rfl (lv_room (Nat.le_of_ble_eq_true rfl)) dX4_admit_17 ⟨Nat.le_of_ble_eq_true rfl, Nat.le_of_ble_eq_true rfl⟩) ?_
    refine lv_if_ne (tgt := 29) hx hb dX4_admit_20 (by decide) (fun c_4 => ?_) (fun c_4 => ?_)
    · have n_4 : (inB x 0 ((1000000))) = true := bI1 c_4
      exact absurd (And.intro n_1 n_4) hbad
    · have n_4 : ¬ (inB x 0 ((1000000))) = true := bI0 c_4
      refine lv_aload_n hx hb dX4_admit_23 rfl (lv_at hl 0 rfl) ?_
      refine lv_iconst (v := 1) hx hb dX4_admit_24 (by decide) ?_
      refine b_calli0 (S := Unit) (w' := fun u => MW a cI cJ he cm ad gw as de eq re co av hi ke sq ab be nw tn 1 cd) hP hD hS hA (va_runV (As := [.int (1)]) (rest := []) ⟨hx, hb, hml, hown, hts⟩ (c_X4_fails ll D a cI cJ _ he cm ad gw as de eq re co av hi ke sq ab be nw tn 0 cd 1 ) (cwV 1 hts gX4_admit_X4_fails rfl rfl rfl (by decide +kernel) ⟨Nat.le_of_ble_eq_true rfl, Nat.le_of_ble_eq_true rfl⟩) ⟨PW.blind, va_recv hK hP (ci := 4) (q0 := 0) rfl rfl, PW.go hP hK hD hE⟩ rfl rfl hl.1 rfl (lv_room (Nat.le_of_ble_eq_true rfl)) dX4_admit_25 ⟨Nat.le_of_ble_eq_true rfl, Nat.le_of_ble_eq_true rfl⟩) (fun r_6 u H locs h_5 hP hD hS => ?_)
      have h_5 : r_6 = 0 := h_5
      subst h_5
      exact W.iret hx hb hr (fun t ht hW => ⟨⟨_, (), rfl, rfl, (by rw [ht]; exact hP), va_K.moved hW.alike hK, hD⟩, hS.F ht⟩) hS.2.2 dX4_admit_28

abbrev rmX4_difference : Room := ({ frames := 3, cells := 0, slots := 0, locals := 63 } : Room)
set_option maxHeartbeats 4000000 in
set_option maxRecDepth 100000 in
theorem c_X4_difference (ll : Launch) (D : va_G) (a : Nat → Nat) (cI cJ : ClassId) (sz : Nat) (he cm ad gw as de eq re co av hi ke : Nat → Int32) (sq ab be : Nat → Int64) (nw tn : Nat → Int32) (th cd : Int32) (o c : Nat) (ho : o < 6) (hc : c < 6) (hpr : prB (nI o) (nI c) = true) : Met ll yX4_difference wsX4_difference rmX4_difference (va_Pc [.ref (a 0), .int (nI (o)), .int (nI (c))] (PW D (tyG cI cJ) (MW a cI cJ he cm ad gw as de eq re co av hi ke sq ab be nw tn th cd) sz)) (va_Qi (fun (rr : Int32) (u : Unit) => rr = cm (6 * o + c) - ad (6 * c + o)) (fun (u : Unit) t => AW D (tyG cI cJ) (va_A (MW a cI cJ he cm ad gw as de eq re co av hi ke sq ab be nw tn th cd) sz) (MW a cI cJ he cm ad gw as de eq re co av hi ke sq ab be nw tn 0 cd) t) (va_A (MW a cI cJ he cm ad gw as de eq re co av hi ke sq ab be nw tn th cd) sz)) 0 0 (va_A (MW a cI cJ he cm ad gw as de eq re co av hi ke sq ab be nw tn th cd) sz) := by
  refine Met.ofW (cc := cX4_difference) (maxL := 3) (ret := (some .int)) (by decide) rfl ?_
  intro pp ee ss mm ar bel mth cde s₁ B hml hv
  obtain ⟨rfl, hsz, hP, hK, hD0, hE⟩ := hv
  have hx := B.exec
  have hb := B.bytes
  have hr := B.returns
  have hts := atoms_spec (ws := wsX4_difference) B.pre
  have hown : ss.vm.findClass RX4 = some mm.cls := findClass_of_methodNamed B.named
  have hlocks := B.notSynchronized
  subst hsz
  have hD := hD0.self (sz := ss.heap.size)
  generalize hAe : va_A (MW a cI cJ he cm ad gw as de eq re co av hi ke sq ab be nw tn th cd) ss.heap.size = A at hD ⊢
  have hA : ∀ q : Nat, ss.heap.size ≤ q → A q := fun q h => by rw [← hAe]; exact Or.inr h
  have hS : va_S A ss.heap ss.heap [] := va_S.rf
  have hin : ∀ w ∈ wsX40, w.before ([.ref (a 0), .int (nI (o)), .int (nI (c))] : List Value).toArray ss = true := fun w h => hts w ((by decide +kernel : ∀ w ∈ wsX40, w ∈ wsX4_difference) w h)
  have hl := lv_entry [.ref (a 0), .int (nI (o)), .int (nI (c))] (n := 3) (Nat.le_of_ble_eq_true rfl)
  rw [lg_entry_eq]
  generalize (lg_sl [.ref (a 0), .int (nI (o)), .int (nI (c))] ++ List.replicate (3 - (lg_sl [.ref (a 0), .int (nI (o)), .int (nI (c))]).length) Slot.unset).toArray = ls at hl ⊢
  have hl : lv_has ls 3 [(0, .ref (a 0)), (1, .int (nI (o))), (2, .int (nI (c)))] := hl
  refine lv_aload_n hx hb dX4_difference_0 rfl (lv_at hl 0 rfl) ?_
  refine lv_iconst (v := 0) hx hb dX4_difference_1 (by decide) ?_
  refine va_put (D := D) (ci := 4) (v := .int (0)) (ty := .int) (C := RX4) (T := TX4) (N := 19) (Ts := wsX40) hx hb hin (fun _ h9 => h9) tyX4 tyX4_ok nmX4 hown hK hP hD hS 0 rfl rfl 0 (by decide) (hts (.fieldLink RX4 62 "GroupbooksModel" "thrown" "I") (by decide +kernel)) (fun _ h9 => h9) rfl (by decide +kernel) rfl rfl (Nat.le_of_ble_eq_true rfl) dX4_difference_2 (fun H locs hP hD hS => ?_)
  have hP : va_P D vwCl (MW a cI cJ he cm ad gw as de eq re co av hi ke sq ab be nw tn 0 cd) H := hP
  have hD : va_D A (MW a cI cJ he cm ad gw as de eq re co av hi ke sq ab be nw tn 0 cd) := hD
  refine lv_iload_n hx hb dX4_difference_5 rfl (lv_at hl 1 rfl) ?_
  refine lv_iload_n hx hb dX4_difference_6 rfl (lv_at hl 2 rfl) ?_
  refine b_csi (v := bI (prB (nI (o)) (nI (c)))) (W.runS (As := [.int (nI (o)), .int (nI (c))]) (rest := []) ⟨hx, hb, hml, hown, hts⟩ (c_X4_isPair ll (nI (o)) (nI (c)) ) (va_cwS 2 hts gX4_difference_X4_isPair rfl rfl rfl (by decide +kernel) ⟨Nat.le_of_ble_eq_true rfl, Nat.le_of_ble_eq_true rfl⟩) ⟨PT.blind, PT.to⟩ rfl rfl hl.1 rfl (lv_room (Nat.le_of_ble_eq_true rfl)) dX4_difference_7 ⟨Nat.le_of_ble_eq_true rfl, Nat.le_of_ble_eq_true rfl⟩) ?_
  refine lv_if_eq (tgt := 39) hx hb dX4_difference_10 (by decide) (fun c_1 => ?_) (fun c_1 => ?_)
  · have n_1 : ¬ (prB (nI (o)) (nI (c))) = true := bI0 c_1
    exact absurd hpr n_1
  · have n_1 : (prB (nI (o)) (nI (c))) = true := bI1 c_1
    refine lv_aload_n hx hb dX4_difference_13 rfl (lv_at hl 0 rfl) ?_
    refine va_get (D := D) (ci := 4) (v := .ref (a 2)) (C := RX4) (T := TX4) (N := 19) (Ts := wsX40) hx hb hin (fun _ h9 => h9) hown hK hP 0 rfl rfl 2 (by decide) (hts (.fieldLink RX4 13 "GroupbooksModel" "claimed" "[I") (by decide +kernel)) (fun _ h9 => h9) rfl dX4_difference_14 ?_
    refine lv_bipush (v := 6) hx hb dX4_difference_17 (by decide) ?_
    refine lv_iload_n hx hb dX4_difference_19 rfl (lv_at hl 1 rfl) ?_
    refine lv_imul hx hb dX4_difference_20 ?_
    refine b_ti (pk_mul (6) (o)) ?_
    refine lv_iload_n hx hb dX4_difference_21 rfl (lv_at hl 2 rfl) ?_
    refine lv_iadd hx hb dX4_difference_22 ?_
    refine b_ti (nI_add ((6) * (o)) (c)) ?_
    refine b_iald hx hb hK hP 2 0 (f := cm) rfl rfl (j := ((6) * (o)) + (c)) (by omega) (by decide) dX4_difference_23 ?_
    refine lv_aload_n hx hb dX4_difference_24 rfl (lv_at hl 0 rfl) ?_
    refine va_get (D := D) (ci := 4) (v := .ref (a 3)) (C := RX4) (T := TX4) (N := 19) (Ts := wsX40) hx hb hin (fun _ h9 => h9) hown hK hP 0 rfl rfl 3 (by decide) (hts (.fieldLink RX4 16 "GroupbooksModel" "admitted" "[I") (by decide +kernel)) (fun _ h9 => h9) rfl dX4_difference_25 ?_
    refine lv_bipush (v := 6) hx hb dX4_difference_28 (by decide) ?_
    refine lv_iload_n hx hb dX4_difference_30 rfl (lv_at hl 2 rfl) ?_
    refine lv_imul hx hb dX4_difference_31 ?_
    refine b_ti (pk_mul (6) (c)) ?_
    refine lv_iload_n hx hb dX4_difference_32 rfl (lv_at hl 1 rfl) ?_
    refine lv_iadd hx hb dX4_difference_33 ?_
    refine b_ti (nI_add ((6) * (c)) (o)) ?_
    refine b_iald hx hb hK hP 3 0 (f := ad) rfl rfl (j := ((6) * (c)) + (o)) (by omega) (by decide) dX4_difference_34 ?_
    refine lv_isub hx hb dX4_difference_35 ?_
    refine lv_goto (tgt := 44) hx hb dX4_difference_36 (by decide) ?_
    exact W.iret hx hb hr (fun t ht hW => ⟨⟨_, (), rfl, rfl, (by rw [ht]; exact hP), va_K.moved hW.alike hK, hD⟩, hS.F ht⟩) hS.2.2 dX4_difference_44

abbrev rmX4_difference_bad : Room := ({ frames := 3, cells := 0, slots := 0, locals := 63 } : Room)
set_option maxHeartbeats 4000000 in
set_option maxRecDepth 100000 in
theorem c_X4_difference_bad (ll : Launch) (D : va_G) (a : Nat → Nat) (cI cJ : ClassId) (sz : Nat) (he cm ad gw as de eq re co av hi ke : Nat → Int32) (sq ab be : Nat → Int64) (nw tn : Nat → Int32) (th cd : Int32) (x0 x1 : Int32) (hbad : ¬ prB x0 x1 = true) : Met ll yX4_difference wsX4_difference rmX4_difference_bad (va_Pc [.ref (a 0), .int (x0), .int (x1)] (PW D (tyG cI cJ) (MW a cI cJ he cm ad gw as de eq re co av hi ke sq ab be nw tn th cd) sz)) (va_Qi (fun (rr : Int32) (u : Unit) => rr = 0) (fun (u : Unit) t => AW D (tyG cI cJ) (va_A (MW a cI cJ he cm ad gw as de eq re co av hi ke sq ab be nw tn th cd) sz) (MW a cI cJ he cm ad gw as de eq re co av hi ke sq ab be nw tn 1 cd) t) (va_A (MW a cI cJ he cm ad gw as de eq re co av hi ke sq ab be nw tn th cd) sz)) 0 0 (va_A (MW a cI cJ he cm ad gw as de eq re co av hi ke sq ab be nw tn th cd) sz) := by
  refine Met.ofW (cc := cX4_difference) (maxL := 3) (ret := (some .int)) (by decide) rfl ?_
  intro pp ee ss mm ar bel mth cde s₁ B hml hv
  obtain ⟨rfl, hsz, hP, hK, hD0, hE⟩ := hv
  have hx := B.exec
  have hb := B.bytes
  have hr := B.returns
  have hts := atoms_spec (ws := wsX4_difference) B.pre
  have hown : ss.vm.findClass RX4 = some mm.cls := findClass_of_methodNamed B.named
  have hlocks := B.notSynchronized
  subst hsz
  have hD := hD0.self (sz := ss.heap.size)
  generalize hAe : va_A (MW a cI cJ he cm ad gw as de eq re co av hi ke sq ab be nw tn th cd) ss.heap.size = A at hD ⊢
  have hA : ∀ q : Nat, ss.heap.size ≤ q → A q := fun q h => by rw [← hAe]; exact Or.inr h
  have hS : va_S A ss.heap ss.heap [] := va_S.rf
  have hin : ∀ w ∈ wsX40, w.before ([.ref (a 0), .int (x0), .int (x1)] : List Value).toArray ss = true := fun w h => hts w ((by decide +kernel : ∀ w ∈ wsX40, w ∈ wsX4_difference) w h)
  have hl := lv_entry [.ref (a 0), .int (x0), .int (x1)] (n := 3) (Nat.le_of_ble_eq_true rfl)
  rw [lg_entry_eq]
  generalize (lg_sl [.ref (a 0), .int (x0), .int (x1)] ++ List.replicate (3 - (lg_sl [.ref (a 0), .int (x0), .int (x1)]).length) Slot.unset).toArray = ls at hl ⊢
  have hl : lv_has ls 3 [(0, .ref (a 0)), (1, .int (x0)), (2, .int (x1))] := hl
  refine lv_aload_n hx hb dX4_difference_0 rfl (lv_at hl 0 rfl) ?_
  refine lv_iconst (v := 0) hx hb dX4_difference_1 (by decide) ?_
  refine va_put (D := D) (ci := 4) (v := .int (0)) (ty := .int) (C := RX4) (T := TX4) (N := 19) (Ts := wsX40) hx hb hin (fun _ h9 => h9) tyX4 tyX4_ok nmX4 hown hK hP hD hS 0 rfl rfl 0 (by decide) (hts (.fieldLink RX4 62 "GroupbooksModel" "thrown" "I") (by decide +kernel)) (fun _ h9 => h9) rfl (by decide +kernel) rfl rfl (Nat.le_of_ble_eq_true rfl) dX4_difference_2 (fun H locs hP hD hS => ?_)
  have hP : va_P D vwCl (MW a cI cJ he cm ad gw as de eq re co av hi ke sq ab be nw tn 0 cd) H := hP
  have hD : va_D A (MW a cI cJ he cm ad gw as de eq re co av hi ke sq ab be nw tn 0 cd) := hD
  refine lv_iload_n hx hb dX4_difference_5 rfl (lv_at hl 1 rfl) ?_
  refine lv_iload_n hx hb dX4_difference_6 rfl (lv_at hl 2 rfl) ?_
  refine b_csi (v := bI (prB x0 x1)) (W.runS (As := [.int (x0), .int (x1)]) (rest := []) ⟨hx, hb, hml, hown, hts⟩ (c_X4_isPair ll x0 x1 ) (va_cwS 2 hts gX4_difference_X4_isPair rfl rfl rfl (by decide +kernel) ⟨Nat.le_of_ble_eq_true rfl, Nat.le_of_ble_eq_true rfl⟩) ⟨PT.blind, PT.to⟩ rfl rfl hl.1 rfl (lv_room (Nat.le_of_ble_eq_true rfl)) dX4_difference_7 ⟨Nat.le_of_ble_eq_true rfl, Nat.le_of_ble_eq_true rfl⟩) ?_
  refine lv_if_eq (tgt := 39) hx hb dX4_difference_10 (by decide) (fun c_1 => ?_) (fun c_1 => ?_)
  · have n_1 : ¬ (prB x0 x1) = true := bI0 c_1
    refine lv_aload_n hx hb dX4_difference_39 rfl (lv_at hl 0 rfl) ?_
    refine lv_iconst (v := 1) hx hb dX4_difference_40 (by decide) ?_
    refine b_calli0 (S := Unit) (w' := fun u => MW a cI cJ he cm ad gw as de eq re co av hi ke sq ab be nw tn 1 cd) hP hD hS hA (va_runV (As := [.int (1)]) (rest := []) ⟨hx, hb, hml, hown, hts⟩ (c_X4_fails ll D a cI cJ _ he cm ad gw as de eq re co av hi ke sq ab be nw tn 0 cd 1 ) (cwV 1 hts gX4_difference_X4_fails rfl rfl rfl (by decide +kernel) ⟨Nat.le_of_ble_eq_true rfl, Nat.le_of_ble_eq_true rfl⟩) ⟨PW.blind, va_recv hK hP (ci := 4) (q0 := 0) rfl rfl, PW.go hP hK hD hE⟩ rfl rfl hl.1 rfl (lv_room (Nat.le_of_ble_eq_true rfl)) dX4_difference_41 ⟨Nat.le_of_ble_eq_true rfl, Nat.le_of_ble_eq_true rfl⟩) (fun r_3 u H locs h_2 hP hD hS => ?_)
    have h_2 : r_3 = 0 := h_2
    subst h_2
    exact W.iret hx hb hr (fun t ht hW => ⟨⟨_, (), rfl, rfl, (by rw [ht]; exact hP), va_K.moved hW.alike hK, hD⟩, hS.F ht⟩) hS.2.2 dX4_difference_44
  · have n_1 : (prB x0 x1) = true := bI1 c_1
    exact absurd n_1 hbad

abbrev rmX4_eliminated : Room := ({ frames := 2, cells := 0, slots := 0, locals := 50 } : Room)
set_option maxHeartbeats 4000000 in
set_option maxRecDepth 100000 in
theorem c_X4_eliminated (ll : Launch) (D : va_G) (a : Nat → Nat) (cI cJ : ClassId) (sz : Nat) (he cm ad gw as de eq re co av hi ke : Nat → Int32) (sq ab be : Nat → Int64) (nw tn : Nat → Int32) (th cd : Int32)   : Met ll yX4_eliminated wsX4_eliminated rmX4_eliminated (va_Pc [.ref (a 0)] (PW D (tyG cI cJ) (MW a cI cJ he cm ad gw as de eq re co av hi ke sq ab be nw tn th cd) sz)) (va_Qi (fun (rr : Int32) (u : Unit) => rr = elS cm ad (grp he) 36) (fun (u : Unit) t => AW D (tyG cI cJ) (va_A (MW a cI cJ he cm ad gw as de eq re co av hi ke sq ab be nw tn th cd) sz) (MW a cI cJ he cm ad gw as de eq re co av hi ke sq ab be nw tn 0 cd) t) (va_A (MW a cI cJ he cm ad gw as de eq re co av hi ke sq ab be nw tn th cd) sz)) 0 0 (va_A (MW a cI cJ he cm ad gw as de eq re co av hi ke sq ab be nw tn th cd) sz) := by
  refine Met.ofW (cc := cX4_eliminated) (maxL := 1) (ret := (some .int)) (by decide) rfl ?_
  intro pp ee ss mm ar bel mth cde s₁ B hml hv
  obtain ⟨rfl, hsz, hP, hK, hD0, hE⟩ := hv
  have hx := B.exec
  have hb := B.bytes
  have hr := B.returns
  have hts := atoms_spec (ws := wsX4_eliminated) B.pre
  have hown : ss.vm.findClass RX4 = some mm.cls := findClass_of_methodNamed B.named
  have hlocks := B.notSynchronized
  subst hsz
  have hD := hD0.self (sz := ss.heap.size)
  generalize hAe : va_A (MW a cI cJ he cm ad gw as de eq re co av hi ke sq ab be nw tn th cd) ss.heap.size = A at hD ⊢
  have hA : ∀ q : Nat, ss.heap.size ≤ q → A q := fun q h => by rw [← hAe]; exact Or.inr h
  have hS : va_S A ss.heap ss.heap [] := va_S.rf
  have hin : ∀ w ∈ wsX40, w.before ([.ref (a 0)] : List Value).toArray ss = true := fun w h => hts w ((by decide +kernel : ∀ w ∈ wsX40, w ∈ wsX4_eliminated) w h)
  have hl := lv_entry [.ref (a 0)] (n := 1) (Nat.le_of_ble_eq_true rfl)
  rw [lg_entry_eq]
  generalize (lg_sl [.ref (a 0)] ++ List.replicate (1 - (lg_sl [.ref (a 0)]).length) Slot.unset).toArray = ls at hl ⊢
  have hl : lv_has ls 1 [(0, .ref (a 0))] := hl
  refine lv_aload_n hx hb dX4_eliminated_0 rfl (lv_at hl 0 rfl) ?_
  refine lv_iconst (v := 0) hx hb dX4_eliminated_1 (by decide) ?_
  refine va_put (D := D) (ci := 4) (v := .int (0)) (ty := .int) (C := RX4) (T := TX4) (N := 19) (Ts := wsX40) hx hb hin (fun _ h9 => h9) tyX4 tyX4_ok nmX4 hown hK hP hD hS 0 rfl rfl 0 (by decide) (hts (.fieldLink RX4 62 "GroupbooksModel" "thrown" "I") (by decide +kernel)) (fun _ h9 => h9) rfl (by decide +kernel) rfl rfl (Nat.le_of_ble_eq_true rfl) dX4_eliminated_2 (fun H locs hP hD hS => ?_)
  have hP : va_P D vwCl (MW a cI cJ he cm ad gw as de eq re co av hi ke sq ab be nw tn 0 cd) H := hP
  have hD : va_D A (MW a cI cJ he cm ad gw as de eq re co av hi ke sq ab be nw tn 0 cd) := hD
  refine lv_aload_n hx hb dX4_eliminated_5 rfl (lv_at hl 0 rfl) ?_
  refine b_csi (v := elS cm ad (grp he) 36) (W.runV (As := []) (rest := []) ⟨hx, hb, hml, hown, hts⟩ (c_X4_eliminatedNow ll D a cI cJ he cm ad gw as de eq re co av hi ke sq ab be nw tn 0 cd  ) (cwV 0 hts gX4_eliminated_X4_eliminatedNow rfl rfl rfl (by decide +kernel) ⟨Nat.le_of_ble_eq_true rfl, Nat.le_of_ble_eq_true rfl⟩) ⟨PR.blind, va_recv hK hP (ci := 4) (q0 := 0) rfl rfl, PR.go hP hK hE⟩ rfl rfl hl.1 rfl (lv_room (Nat.le_of_ble_eq_true rfl)) dX4_eliminated_6 ⟨Nat.le_of_ble_eq_true rfl, Nat.le_of_ble_eq_true rfl⟩) ?_
  exact W.iret hx hb hr (fun t ht hW => ⟨⟨_, (), rfl, rfl, (by rw [ht]; exact hP), va_K.moved hW.alike hK, hD⟩, hS.F ht⟩) hS.2.2 dX4_eliminated_9

abbrev rmX4_assets : Room := ({ frames := 3, cells := 0, slots := 0, locals := 73 } : Room)
set_option maxHeartbeats 4000000 in
set_option maxRecDepth 100000 in
theorem c_X4_assets (ll : Launch) (D : va_G) (a : Nat → Nat) (cI cJ : ClassId) (sz : Nat) (he cm ad gw as de eq re co av hi ke : Nat → Int32) (sq ab be : Nat → Int64) (nw tn : Nat → Int32) (th cd : Int32)   : Met ll yX4_assets wsX4_assets rmX4_assets (va_Pc [.ref (a 0)] (PW D (tyG cI cJ) (MW a cI cJ he cm ad gw as de eq re co av hi ke sq ab be nw tn th cd) sz)) (va_Qi (fun (rr : Int32) (u : Unit) => rr = asS as co (grp he) 6 - elS cm ad (grp he) 36) (fun (u : Unit) t => AW D (tyG cI cJ) (va_A (MW a cI cJ he cm ad gw as de eq re co av hi ke sq ab be nw tn th cd) sz) (MW a cI cJ he cm ad gw as de eq re co av hi ke sq ab be nw tn 0 cd) t) (va_A (MW a cI cJ he cm ad gw as de eq re co av hi ke sq ab be nw tn th cd) sz)) 0 0 (va_A (MW a cI cJ he cm ad gw as de eq re co av hi ke sq ab be nw tn th cd) sz) := by
  refine Met.ofW (cc := cX4_assets) (maxL := 1) (ret := (some .int)) (by decide) rfl ?_
  intro pp ee ss mm ar bel mth cde s₁ B hml hv
  obtain ⟨rfl, hsz, hP, hK, hD0, hE⟩ := hv
  have hx := B.exec
  have hb := B.bytes
  have hr := B.returns
  have hts := atoms_spec (ws := wsX4_assets) B.pre
  have hown : ss.vm.findClass RX4 = some mm.cls := findClass_of_methodNamed B.named
  have hlocks := B.notSynchronized
  subst hsz
  have hD := hD0.self (sz := ss.heap.size)
  generalize hAe : va_A (MW a cI cJ he cm ad gw as de eq re co av hi ke sq ab be nw tn th cd) ss.heap.size = A at hD ⊢
  have hA : ∀ q : Nat, ss.heap.size ≤ q → A q := fun q h => by rw [← hAe]; exact Or.inr h
  have hS : va_S A ss.heap ss.heap [] := va_S.rf
  have hin : ∀ w ∈ wsX40, w.before ([.ref (a 0)] : List Value).toArray ss = true := fun w h => hts w ((by decide +kernel : ∀ w ∈ wsX40, w ∈ wsX4_assets) w h)
  have hl := lv_entry [.ref (a 0)] (n := 1) (Nat.le_of_ble_eq_true rfl)
  rw [lg_entry_eq]
  generalize (lg_sl [.ref (a 0)] ++ List.replicate (1 - (lg_sl [.ref (a 0)]).length) Slot.unset).toArray = ls at hl ⊢
  have hl : lv_has ls 1 [(0, .ref (a 0))] := hl
  refine lv_aload_n hx hb dX4_assets_0 rfl (lv_at hl 0 rfl) ?_
  refine lv_iconst (v := 0) hx hb dX4_assets_1 (by decide) ?_
  refine va_put (D := D) (ci := 4) (v := .int (0)) (ty := .int) (C := RX4) (T := TX4) (N := 19) (Ts := wsX40) hx hb hin (fun _ h9 => h9) tyX4 tyX4_ok nmX4 hown hK hP hD hS 0 rfl rfl 0 (by decide) (hts (.fieldLink RX4 62 "GroupbooksModel" "thrown" "I") (by decide +kernel)) (fun _ h9 => h9) rfl (by decide +kernel) rfl rfl (Nat.le_of_ble_eq_true rfl) dX4_assets_2 (fun H locs hP hD hS => ?_)
  have hP : va_P D vwCl (MW a cI cJ he cm ad gw as de eq re co av hi ke sq ab be nw tn 0 cd) H := hP
  have hD : va_D A (MW a cI cJ he cm ad gw as de eq re co av hi ke sq ab be nw tn 0 cd) := hD
  refine lv_aload_n hx hb dX4_assets_5 rfl (lv_at hl 0 rfl) ?_
  refine b_csi (v := asS as co (grp he) 6 - elS cm ad (grp he) 36) (W.runV (As := []) (rest := []) ⟨hx, hb, hml, hown, hts⟩ (c_X4_assetsNow ll D a cI cJ he cm ad gw as de eq re co av hi ke sq ab be nw tn 0 cd  ) (cwV 0 hts gX4_assets_X4_assetsNow rfl rfl rfl (by decide +kernel) ⟨Nat.le_of_ble_eq_true rfl, Nat.le_of_ble_eq_true rfl⟩) ⟨PR.blind, va_recv hK hP (ci := 4) (q0 := 0) rfl rfl, PR.go hP hK hE⟩ rfl rfl hl.1 rfl (lv_room (Nat.le_of_ble_eq_true rfl)) dX4_assets_6 ⟨Nat.le_of_ble_eq_true rfl, Nat.le_of_ble_eq_true rfl⟩) ?_
  exact W.iret hx hb hr (fun t ht hW => ⟨⟨_, (), rfl, rfl, (by rw [ht]; exact hP), va_K.moved hW.alike hK, hD⟩, hS.F ht⟩) hS.2.2 dX4_assets_9

abbrev rmX4_debts : Room := ({ frames := 3, cells := 0, slots := 0, locals := 73 } : Room)
set_option maxHeartbeats 4000000 in
set_option maxRecDepth 100000 in
theorem c_X4_debts (ll : Launch) (D : va_G) (a : Nat → Nat) (cI cJ : ClassId) (sz : Nat) (he cm ad gw as de eq re co av hi ke : Nat → Int32) (sq ab be : Nat → Int64) (nw tn : Nat → Int32) (th cd : Int32)   : Met ll yX4_debts wsX4_debts rmX4_debts (va_Pc [.ref (a 0)] (PW D (tyG cI cJ) (MW a cI cJ he cm ad gw as de eq re co av hi ke sq ab be nw tn th cd) sz)) (va_Qi (fun (rr : Int32) (u : Unit) => rr = asS de co (grp he) 6 - elS cm ad (grp he) 36) (fun (u : Unit) t => AW D (tyG cI cJ) (va_A (MW a cI cJ he cm ad gw as de eq re co av hi ke sq ab be nw tn th cd) sz) (MW a cI cJ he cm ad gw as de eq re co av hi ke sq ab be nw tn 0 cd) t) (va_A (MW a cI cJ he cm ad gw as de eq re co av hi ke sq ab be nw tn th cd) sz)) 0 0 (va_A (MW a cI cJ he cm ad gw as de eq re co av hi ke sq ab be nw tn th cd) sz) := by
  refine Met.ofW (cc := cX4_debts) (maxL := 1) (ret := (some .int)) (by decide) rfl ?_
  intro pp ee ss mm ar bel mth cde s₁ B hml hv
  obtain ⟨rfl, hsz, hP, hK, hD0, hE⟩ := hv
  have hx := B.exec
  have hb := B.bytes
  have hr := B.returns
  have hts := atoms_spec (ws := wsX4_debts) B.pre
  have hown : ss.vm.findClass RX4 = some mm.cls := findClass_of_methodNamed B.named
  have hlocks := B.notSynchronized
  subst hsz
  have hD := hD0.self (sz := ss.heap.size)
  generalize hAe : va_A (MW a cI cJ he cm ad gw as de eq re co av hi ke sq ab be nw tn th cd) ss.heap.size = A at hD ⊢
  have hA : ∀ q : Nat, ss.heap.size ≤ q → A q := fun q h => by rw [← hAe]; exact Or.inr h
  have hS : va_S A ss.heap ss.heap [] := va_S.rf
  have hin : ∀ w ∈ wsX40, w.before ([.ref (a 0)] : List Value).toArray ss = true := fun w h => hts w ((by decide +kernel : ∀ w ∈ wsX40, w ∈ wsX4_debts) w h)
  have hl := lv_entry [.ref (a 0)] (n := 1) (Nat.le_of_ble_eq_true rfl)
  rw [lg_entry_eq]
  generalize (lg_sl [.ref (a 0)] ++ List.replicate (1 - (lg_sl [.ref (a 0)]).length) Slot.unset).toArray = ls at hl ⊢
  have hl : lv_has ls 1 [(0, .ref (a 0))] := hl
  refine lv_aload_n hx hb dX4_debts_0 rfl (lv_at hl 0 rfl) ?_
  refine lv_iconst (v := 0) hx hb dX4_debts_1 (by decide) ?_
  refine va_put (D := D) (ci := 4) (v := .int (0)) (ty := .int) (C := RX4) (T := TX4) (N := 19) (Ts := wsX40) hx hb hin (fun _ h9 => h9) tyX4 tyX4_ok nmX4 hown hK hP hD hS 0 rfl rfl 0 (by decide) (hts (.fieldLink RX4 62 "GroupbooksModel" "thrown" "I") (by decide +kernel)) (fun _ h9 => h9) rfl (by decide +kernel) rfl rfl (Nat.le_of_ble_eq_true rfl) dX4_debts_2 (fun H locs hP hD hS => ?_)
  have hP : va_P D vwCl (MW a cI cJ he cm ad gw as de eq re co av hi ke sq ab be nw tn 0 cd) H := hP
  have hD : va_D A (MW a cI cJ he cm ad gw as de eq re co av hi ke sq ab be nw tn 0 cd) := hD
  refine lv_aload_n hx hb dX4_debts_5 rfl (lv_at hl 0 rfl) ?_
  refine b_csi (v := asS de co (grp he) 6 - elS cm ad (grp he) 36) (W.runV (As := []) (rest := []) ⟨hx, hb, hml, hown, hts⟩ (c_X4_debtsNow ll D a cI cJ he cm ad gw as de eq re co av hi ke sq ab be nw tn 0 cd  ) (cwV 0 hts gX4_debts_X4_debtsNow rfl rfl rfl (by decide +kernel) ⟨Nat.le_of_ble_eq_true rfl, Nat.le_of_ble_eq_true rfl⟩) ⟨PR.blind, va_recv hK hP (ci := 4) (q0 := 0) rfl rfl, PR.go hP hK hE⟩ rfl rfl hl.1 rfl (lv_room (Nat.le_of_ble_eq_true rfl)) dX4_debts_6 ⟨Nat.le_of_ble_eq_true rfl, Nat.le_of_ble_eq_true rfl⟩) ?_
  exact W.iret hx hb hr (fun t ht hW => ⟨⟨_, (), rfl, rfl, (by rw [ht]; exact hP), va_K.moved hW.alike hK, hD⟩, hS.F ht⟩) hS.2.2 dX4_debts_9
