abbrev rmX4_thrown : Room := ({ frames := 0, cells := 0, slots := 0, locals := 0 } : Room)
set_option maxHeartbeats 4000000 in
set_option maxRecDepth 100000 in
theorem c_X4_thrown (ll : Launch) (D : va_G) (a : Nat → Nat) (cI cJ : ClassId) (he cm ad gw as de eq re co av hi ke : Nat → Int32) (sq ab be : Nat → Int64) (nw tn : Nat → Int32) (th cd : Int32)   : Met ll yX4_thrown wsX4_thrown rmX4_thrown (va_Pc [.ref (a 0)] (PR D (tyG cI cJ) (MW a cI cJ he cm ad gw as de eq re co av hi ke sq ab be nw tn th cd))) (vp_Si (fun rr => rr = th)) 0 0 (fun _ => False) := by
  refine Met.ofW (cc := cX4_thrown) (maxL := 1) (ret := (some .int)) (by decide) rfl ?_
  intro pp ee ss mm ar bel mth cde s₁ B hml hv
  obtain ⟨rfl, hP, hK, hE⟩ := hv
  have hx := B.exec
  have hb := B.bytes
  have hr := B.returns
  have hts := atoms_spec (ws := wsX4_thrown) B.pre
  have hown : ss.vm.findClass RX4 = some mm.cls := findClass_of_methodNamed B.named
  have hlocks := B.notSynchronized
  have hin : ∀ w ∈ wsX40, w.before ([.ref (a 0)] : List Value).toArray ss = true := fun w h => hts w ((by decide +kernel : ∀ w ∈ wsX40, w ∈ wsX4_thrown) w h)
  have hl := lv_entry [.ref (a 0)] (n := 1) (Nat.le_of_ble_eq_true rfl)
  rw [lg_entry_eq]
  generalize (lg_sl [.ref (a 0)] ++ List.replicate (1 - (lg_sl [.ref (a 0)]).length) Slot.unset).toArray = ls at hl ⊢
  have hl : lv_has ls 1 [(0, .ref (a 0))] := hl
  refine lv_aload_n hx hb dX4_thrown_0 rfl (lv_at hl 0 rfl) ?_
  refine va_get (D := D) (ci := 4) (v := .int (th)) (C := RX4) (T := TX4) (N := 19) (Ts := wsX40) hx hb hin (fun _ h9 => h9) hown hK hP 0 rfl rfl 0 (by decide) (hts (.fieldLink RX4 62 "GroupbooksModel" "thrown" "I") (by decide +kernel)) (fun _ h9 => h9) rfl dX4_thrown_1 ?_
  exact W.iret hx hb hr (fun t ht _ => ⟨_, rfl, rfl, ht⟩) (fun _ h => nomatch h) dX4_thrown_4

abbrev rmX4_fails : Room := ({ frames := 0, cells := 0, slots := 0, locals := 0 } : Room)
set_option maxHeartbeats 4000000 in
set_option maxRecDepth 100000 in
theorem c_X4_fails (ll : Launch) (D : va_G) (a : Nat → Nat) (cI cJ : ClassId) (sz : Nat) (he cm ad gw as de eq re co av hi ke : Nat → Int32) (sq ab be : Nat → Int64) (nw tn : Nat → Int32) (th cd : Int32) (x : Int32)  : Met ll yX4_fails wsX4_fails rmX4_fails (va_Pc [.ref (a 0), .int (x)] (PW D (tyG cI cJ) (MW a cI cJ he cm ad gw as de eq re co av hi ke sq ab be nw tn th cd) sz)) (va_Qi (fun (rr : Int32) (u : Unit) => rr = 0) (fun (u : Unit) t => AW D (tyG cI cJ) (va_A (MW a cI cJ he cm ad gw as de eq re co av hi ke sq ab be nw tn th cd) sz) (MW a cI cJ he cm ad gw as de eq re co av hi ke sq ab be nw tn x cd) t) (va_A (MW a cI cJ he cm ad gw as de eq re co av hi ke sq ab be nw tn th cd) sz)) 0 0 (va_A (MW a cI cJ he cm ad gw as de eq re co av hi ke sq ab be nw tn th cd) sz) := by
  refine Met.ofW (cc := cX4_fails) (maxL := 2) (ret := (some .int)) (by decide) rfl ?_
  intro pp ee ss mm ar bel mth cde s₁ B hml hv
  obtain ⟨rfl, hsz, hP, hK, hD0, hE⟩ := hv
  have hx := B.exec
  have hb := B.bytes
  have hr := B.returns
  have hts := atoms_spec (ws := wsX4_fails) B.pre
  have hown : ss.vm.findClass RX4 = some mm.cls := findClass_of_methodNamed B.named
  have hlocks := B.notSynchronized
  subst hsz
  have hD := hD0.self (sz := ss.heap.size)
  generalize hAe : va_A (MW a cI cJ he cm ad gw as de eq re co av hi ke sq ab be nw tn th cd) ss.heap.size = A at hD ⊢
  have hA : ∀ q : Nat, ss.heap.size ≤ q → A q := fun q h => by rw [← hAe]; exact Or.inr h
  have hS : va_S A ss.heap ss.heap [] := va_S.rf
  have hin : ∀ w ∈ wsX40, w.before ([.ref (a 0), .int (x)] : List Value).toArray ss = true := fun w h => hts w ((by decide +kernel : ∀ w ∈ wsX40, w ∈ wsX4_fails) w h)
  have hl := lv_entry [.ref (a 0), .int (x)] (n := 2) (Nat.le_of_ble_eq_true rfl)
  rw [lg_entry_eq]
  generalize (lg_sl [.ref (a 0), .int (x)] ++ List.replicate (2 - (lg_sl [.ref (a 0), .int (x)]).length) Slot.unset).toArray = ls at hl ⊢
  have hl : lv_has ls 2 [(0, .ref (a 0)), (1, .int (x))] := hl
  refine lv_aload_n hx hb dX4_fails_0 rfl (lv_at hl 0 rfl) ?_
  refine lv_iload_n hx hb dX4_fails_1 rfl (lv_at hl 1 rfl) ?_
  refine va_put (D := D) (ci := 4) (v := .int (x)) (ty := .int) (C := RX4) (T := TX4) (N := 19) (Ts := wsX40) hx hb hin (fun _ h9 => h9) tyX4 tyX4_ok nmX4 hown hK hP hD hS 0 rfl rfl 0 (by decide) (hts (.fieldLink RX4 62 "GroupbooksModel" "thrown" "I") (by decide +kernel)) (fun _ h9 => h9) rfl (by decide +kernel) rfl rfl (Nat.le_of_ble_eq_true rfl) dX4_fails_2 (fun H locs hP hD hS => ?_)
  have hP : va_P D vwCl (MW a cI cJ he cm ad gw as de eq re co av hi ke sq ab be nw tn x cd) H := hP
  have hD : va_D A (MW a cI cJ he cm ad gw as de eq re co av hi ke sq ab be nw tn x cd) := hD
  refine lv_iconst (v := 0) hx hb dX4_fails_5 (by decide) ?_
  exact W.iret hx hb hr (fun t ht hW => ⟨⟨_, (), rfl, rfl, (by rw [ht]; exact hP), va_K.moved hW.alike hK, hD⟩, hS.F ht⟩) hS.2.2 dX4_fails_6

abbrev rmX4_in : Room := ({ frames := 0, cells := 0, slots := 0, locals := 0 } : Room)
set_option maxHeartbeats 4000000 in
set_option maxRecDepth 100000 in
theorem c_X4_in (ll : Launch) (v lo hi : Int32)  : Met ll yX4_in wsX4_in rmX4_in (va_Pc [.int (v), .int (lo), .int (hi)] (fun _ => True)) (vp_Si (fun rr => rr = bI (inB v lo hi))) 0 0 (fun _ => False) := by
  refine Met.ofW (cc := cX4_in) (maxL := 3) (ret := (some .boolean)) (by decide) rfl ?_
  intro pp ee ss mm ar bel mth cde s₁ B hml hv
  obtain ⟨rfl, -⟩ := hv
  have hx := B.exec
  have hb := B.bytes
  have hr := B.returns
  have hts := atoms_spec (ws := wsX4_in) B.pre
  have hown : ss.vm.findClass RX4 = some mm.cls := findClass_of_methodNamed B.named
  have hlocks := B.notSynchronized
  have hl := lv_entry [.int (v), .int (lo), .int (hi)] (n := 3) (Nat.le_of_ble_eq_true rfl)
  rw [lg_entry_eq]
  generalize (lg_sl [.int (v), .int (lo), .int (hi)] ++ List.replicate (3 - (lg_sl [.int (v), .int (lo), .int (hi)]).length) Slot.unset).toArray = ls at hl ⊢
  have hl : lv_has ls 3 [(0, .int (v)), (1, .int (lo)), (2, .int (hi))] := hl
  refine lv_iload_n hx hb dX4_in_0 rfl (lv_at hl 0 rfl) ?_
  refine lv_iload_n hx hb dX4_in_1 rfl (lv_at hl 1 rfl) ?_
  refine lv_icmp_lt (tgt := 14) hx hb dX4_in_2 (by decide) (fun c_1 => ?_) (fun c_1 => ?_)
  · have n_1 := c_1
    refine lv_iconst (v := 0) hx hb dX4_in_14 (by decide) ?_
    exact W.zret hx hb hr ((by decide)) (fun t ht _ => ⟨_, rfl, (by simp only [inB, n_1, ↓reduceIte]; rfl), ht⟩) (fun _ h => nomatch h) dX4_in_15
  · have n_1 := c_1
    refine lv_iload_n hx hb dX4_in_5 rfl (lv_at hl 0 rfl) ?_
    refine lv_iload_n hx hb dX4_in_6 rfl (lv_at hl 2 rfl) ?_
    refine lv_icmp_gt (tgt := 14) hx hb dX4_in_7 (by decide) (fun c_2 => ?_) (fun c_2 => ?_)
    · have n_2 := c_2
      refine lv_iconst (v := 0) hx hb dX4_in_14 (by decide) ?_
      exact W.zret hx hb hr ((by decide)) (fun t ht _ => ⟨_, rfl, (by simp only [inB, n_1, n_2, ↓reduceIte]; rfl), ht⟩) (fun _ h => nomatch h) dX4_in_15
    · have n_2 := c_2
      refine lv_iconst (v := 1) hx hb dX4_in_10 (by decide) ?_
      refine lv_goto (tgt := 15) hx hb dX4_in_11 (by decide) ?_
      exact W.zret hx hb hr ((by decide)) (fun t ht _ => ⟨_, rfl, (by simp only [inB, n_1, n_2, ↓reduceIte]; rfl), ht⟩) (fun _ h => nomatch h) dX4_in_15

abbrev rmX4_isCompany : Room := ({ frames := 1, cells := 0, slots := 0, locals := 22 } : Room)
set_option maxHeartbeats 4000000 in
set_option maxRecDepth 100000 in
theorem c_X4_isCompany (ll : Launch) (v : Int32)  : Met ll yX4_isCompany wsX4_isCompany rmX4_isCompany (va_Pc [.int (v)] (fun _ => True)) (vp_Si (fun rr => rr = bI (inB v 0 5))) 0 0 (fun _ => False) := by
  refine Met.ofW (cc := cX4_isCompany) (maxL := 1) (ret := (some .boolean)) (by decide) rfl ?_
  intro pp ee ss mm ar bel mth cde s₁ B hml hv
  obtain ⟨rfl, -⟩ := hv
  have hx := B.exec
  have hb := B.bytes
  have hr := B.returns
  have hts := atoms_spec (ws := wsX4_isCompany) B.pre
  have hown : ss.vm.findClass RX4 = some mm.cls := findClass_of_methodNamed B.named
  have hlocks := B.notSynchronized
  have hl := lv_entry [.int (v)] (n := 1) (Nat.le_of_ble_eq_true rfl)
  rw [lg_entry_eq]
  generalize (lg_sl [.int (v)] ++ List.replicate (1 - (lg_sl [.int (v)]).length) Slot.unset).toArray = ls at hl ⊢
  have hl : lv_has ls 1 [(0, .int (v))] := hl
  refine lv_iload_n hx hb dX4_isCompany_0 rfl (lv_at hl 0 rfl) ?_
  refine lv_iconst (v := 0) hx hb dX4_isCompany_1 (by decide) ?_
  refine lv_iconst (v := 5) hx hb dX4_isCompany_2 (by decide) ?_
  refine b_csi (v := bI (inB v 0 5)) (W.runS (As := [.int (v), .int (0), .int (5)]) (rest := []) ⟨hx, hb, hml, hown, hts⟩ (c_X4_in ll v 0 5 ) (va_cwS 3 hts gX4_isCompany_X4_in rfl rfl rfl (by decide +kernel) ⟨Nat.le_of_ble_eq_true rfl, Nat.le_of_ble_eq_true rfl⟩) ⟨PT.blind, PT.to⟩ rfl rfl hl.1 rfl (lv_room (Nat.le_of_ble_eq_true rfl)) dX4_isCompany_3 ⟨Nat.le_of_ble_eq_true rfl, Nat.le_of_ble_eq_true rfl⟩) ?_
  exact W.zret hx hb hr (bIn _) (fun t ht _ => ⟨_, rfl, rfl, ht⟩) (fun _ h => nomatch h) dX4_isCompany_6

abbrev rmX4_isPair : Room := ({ frames := 2, cells := 0, slots := 0, locals := 42 } : Room)
set_option maxHeartbeats 4000000 in
set_option maxRecDepth 100000 in
theorem c_X4_isPair (ll : Launch) (x y : Int32)  : Met ll yX4_isPair wsX4_isPair rmX4_isPair (va_Pc [.int (x), .int (y)] (fun _ => True)) (vp_Si (fun rr => rr = bI (prB x y))) 0 0 (fun _ => False) := by
  refine Met.ofW (cc := cX4_isPair) (maxL := 2) (ret := (some .boolean)) (by decide) rfl ?_
  intro pp ee ss mm ar bel mth cde s₁ B hml hv
  obtain ⟨rfl, -⟩ := hv
  have hx := B.exec
  have hb := B.bytes
  have hr := B.returns
  have hts := atoms_spec (ws := wsX4_isPair) B.pre
  have hown : ss.vm.findClass RX4 = some mm.cls := findClass_of_methodNamed B.named
  have hlocks := B.notSynchronized
  have hl := lv_entry [.int (x), .int (y)] (n := 2) (Nat.le_of_ble_eq_true rfl)
  rw [lg_entry_eq]
  generalize (lg_sl [.int (x), .int (y)] ++ List.replicate (2 - (lg_sl [.int (x), .int (y)]).length) Slot.unset).toArray = ls at hl ⊢
  have hl : lv_has ls 2 [(0, .int (x)), (1, .int (y))] := hl
  refine lv_iload_n hx hb dX4_isPair_0 rfl (lv_at hl 0 rfl) ?_
  refine b_csi (v := bI (inB x 0 5)) (W.runS (As := [.int (x)]) (rest := []) ⟨hx, hb, hml, hown, hts⟩ (c_X4_isCompany ll x ) (va_cwS 1 hts gX4_isPair_X4_isCompany rfl rfl rfl (by decide +kernel) ⟨Nat.le_of_ble_eq_true rfl, Nat.le_of_ble_eq_true rfl⟩) ⟨PT.blind, PT.to⟩ rfl rfl hl.1 rfl (lv_room (Nat.le_of_ble_eq_true rfl)) dX4_isPair_1 ⟨Nat.le_of_ble_eq_true rfl, Nat.le_of_ble_eq_true rfl⟩) ?_
  refine lv_if_eq (tgt := 23) hx hb dX4_isPair_4 (by decide) (fun c_1 => ?_) (fun c_1 => ?_)
  · have n_1 : ¬ (inB x 0 5) = true := bI0 c_1
    refine lv_iconst (v := 0) hx hb dX4_isPair_23 (by decide) ?_
    exact W.zret hx hb hr ((by decide)) (fun t ht _ => ⟨_, rfl, (by simp only [prB, n_1, Bool.false_eq_true, ↓reduceIte]; rfl), ht⟩) (fun _ h => nomatch h) dX4_isPair_24
  · have n_1 : (inB x 0 5) = true := bI1 c_1
    refine lv_iload_n hx hb dX4_isPair_7 rfl (lv_at hl 1 rfl) ?_
    refine b_csi (v := bI (inB y 0 5)) (W.runS (As := [.int (y)]) (rest := []) ⟨hx, hb, hml, hown, hts⟩ (c_X4_isCompany ll y ) (va_cwS 1 hts gX4_isPair_X4_isCompany rfl rfl rfl (by decide +kernel) ⟨Nat.le_of_ble_eq_true rfl, Nat.le_of_ble_eq_true rfl⟩) ⟨PT.blind, PT.to⟩ rfl rfl hl.1 rfl (lv_room (Nat.le_of_ble_eq_true rfl)) dX4_isPair_8 ⟨Nat.le_of_ble_eq_true rfl, Nat.le_of_ble_eq_true rfl⟩) ?_
    refine lv_if_eq (tgt := 23) hx hb dX4_isPair_11 (by decide) (fun c_2 => ?_) (fun c_2 => ?_)
    · have n_2 : ¬ (inB y 0 5) = true := bI0 c_2
      refine lv_iconst (v := 0) hx hb dX4_isPair_23 (by decide) ?_
      exact W.zret hx hb hr ((by decide)) (fun t ht _ => ⟨_, rfl, (by simp only [prB, n_1, n_2, Bool.false_eq_true, ↓reduceIte]; rfl), ht⟩) (fun _ h => nomatch h) dX4_isPair_24
    · have n_2 : (inB y 0 5) = true := bI1 c_2
      refine lv_iload_n hx hb dX4_isPair_14 rfl (lv_at hl 0 rfl) ?_
      refine lv_iload_n hx hb dX4_isPair_15 rfl (lv_at hl 1 rfl) ?_
      refine lv_icmp_eq (tgt := 23) hx hb dX4_isPair_16 (by decide) (fun c_3 => ?_) (fun c_3 => ?_)
      · have n_3 := c_3
        refine lv_iconst (v := 0) hx hb dX4_isPair_23 (by decide) ?_
        exact W.zret hx hb hr ((by decide)) (fun t ht _ => ⟨_, rfl, (by simp only [prB, n_1, n_2, n_3, Bool.false_eq_true, ↓reduceIte]; rfl), ht⟩) (fun _ h => nomatch h) dX4_isPair_24
      · have n_3 := c_3
        refine lv_iconst (v := 1) hx hb dX4_isPair_19 (by decide) ?_
        refine lv_goto (tgt := 24) hx hb dX4_isPair_20 (by decide) ?_
        exact W.zret hx hb hr ((by decide)) (fun t ht _ => ⟨_, rfl, (by simp only [prB, n_1, n_2, n_3, Bool.false_eq_true, ↓reduceIte]; rfl), ht⟩) (fun _ h => nomatch h) dX4_isPair_24

abbrev rmX4_floor : Room := ({ frames := 0, cells := 0, slots := 0, locals := 0 } : Room)
set_option maxHeartbeats 4000000 in
set_option maxRecDepth 100000 in
theorem c_X4_floor (ll : Launch) (x y : Int64) (hy : ¬ y = 0) : Met ll yX4_floor wsX4_floor rmX4_floor (va_Pc [.long (x), .long (y)] (fun _ => True)) (vp_Sl (fun rr => rr = flM x y)) 0 0 (fun _ => False) := by
  refine Met.ofW (cc := cX4_floor) (maxL := 6) (ret := (some .long)) (by decide) rfl ?_
  intro pp ee ss mm ar bel mth cde s₁ B hml hv
  obtain ⟨rfl, -⟩ := hv
  have hx := B.exec
  have hb := B.bytes
  have hr := B.returns
  have hts := atoms_spec (ws := wsX4_floor) B.pre
  have hown : ss.vm.findClass RX4 = some mm.cls := findClass_of_methodNamed B.named
  have hlocks := B.notSynchronized
  have hl := lv_entry [.long (x), .long (y)] (n := 6) (Nat.le_of_ble_eq_true rfl)
  rw [lg_entry_eq]
  generalize (lg_sl [.long (x), .long (y)] ++ List.replicate (6 - (lg_sl [.long (x), .long (y)]).length) Slot.unset).toArray = ls at hl ⊢
  have hl : lv_has ls 6 [(0, .long (x)), (2, .long (y))] := hl
  refine lv_lload_n hx hb dX4_floor_0 rfl (lv_at hl 0 rfl) ?_
  refine lv_lload_n hx hb dX4_floor_1 rfl (lv_at hl 1 rfl) ?_
  refine lv_ldiv hx hb dX4_floor_2 hy ?_
  refine lv_lstore (lv' := [(4, .long ((x) / (y))), (0, .long (x)), (2, .long (y))]) hx hb dX4_floor_3 hl (by decide) rfl (fun ls hl => ?_)
  refine lv_lload_n hx hb dX4_floor_5 rfl (lv_at hl 1 rfl) ?_
  refine lv_lload_n hx hb dX4_floor_6 rfl (lv_at hl 2 rfl) ?_
  refine lv_lrem hx hb dX4_floor_7 hy ?_
  refine lv_lconst (v := 0) hx hb dX4_floor_8 (by decide) ?_
  refine W.lcmp hx hb dX4_floor_9 ?_
  refine lv_if_ge (tgt := 20) hx hb dX4_floor_10 (by decide) (fun c_1 => ?_) (fun c_1 => ?_)
  · have n_1 : 0 ≤ (x) - (x) / (y) * (y) := (lg_cmp_ge _ _).mp c_1
    refine lv_lload hx hb dX4_floor_20 (lv_at hl 0 rfl) ?_
    exact W.lret hx hb hr (fun t ht _ => ⟨_, rfl, (by simp only [flM, n_1, Bool.false_eq_true, ↓reduceIte]), ht⟩) (fun _ h => nomatch h) dX4_floor_22
  · have n_1 : ¬ (0 ≤ (x) - (x) / (y) * (y)) := fun h => c_1 ((lg_cmp_ge _ _).mpr h)
    refine lv_lload hx hb dX4_floor_13 (lv_at hl 0 rfl) ?_
    refine lv_lconst (v := 1) hx hb dX4_floor_15 (by decide) ?_
    refine lv_lsub hx hb dX4_floor_16 ?_
    refine lv_goto (tgt := 22) hx hb dX4_floor_17 (by decide) ?_
    exact W.lret hx hb hr (fun t ht _ => ⟨_, rfl, (by simp only [flM, n_1, Bool.false_eq_true, ↓reduceIte]), ht⟩) (fun _ h => nomatch h) dX4_floor_22

abbrev rmX4_translated : Room := ({ frames := 1, cells := 0, slots := 0, locals := 25 } : Room)
set_option maxHeartbeats 4000000 in
set_option maxRecDepth 100000 in
theorem c_X4_translated (ll : Launch) (x y : Int32)  : Met ll yX4_translated wsX4_translated rmX4_translated (va_Pc [.int (x), .int (y)] (fun _ => True)) (vp_Si (fun rr => rr = trM x y)) 0 0 (fun _ => False) := by
  refine Met.ofW (cc := cX4_translated) (maxL := 2) (ret := (some .int)) (by decide) rfl ?_
  intro pp ee ss mm ar bel mth cde s₁ B hml hv
  obtain ⟨rfl, -⟩ := hv
  have hx := B.exec
  have hb := B.bytes
  have hr := B.returns
  have hts := atoms_spec (ws := wsX4_translated) B.pre
  have hown : ss.vm.findClass RX4 = some mm.cls := findClass_of_methodNamed B.named
  have hlocks := B.notSynchronized
  have hl := lv_entry [.int (x), .int (y)] (n := 2) (Nat.le_of_ble_eq_true rfl)
  rw [lg_entry_eq]
  generalize (lg_sl [.int (x), .int (y)] ++ List.replicate (2 - (lg_sl [.int (x), .int (y)]).length) Slot.unset).toArray = ls at hl ⊢
  have hl : lv_has ls 2 [(0, .int (x)), (1, .int (y))] := hl
  refine lv_iload_n hx hb dX4_translated_0 rfl (lv_at hl 0 rfl) ?_
  refine lv_i2l (v := (x).toInt64) hx hb dX4_translated_1 rfl ?_
  refine lv_iload_n hx hb dX4_translated_2 rfl (lv_at hl 1 rfl) ?_
  refine lv_i2l (v := (y).toInt64) hx hb dX4_translated_3 rfl ?_
  refine lv_lmul hx hb dX4_translated_4 ?_
  refine lv_ldc2 (v := 100) hx hb hown (hts (.constantLong RX4 109 (100)) (by decide +kernel)) dX4_translated_5 ?_
  refine b_csl (v := flM (((x).toInt64) * ((y).toInt64)) ((100))) (W.runS (As := [.long (((x).toInt64) * ((y).toInt64)), .long ((100))]) (rest := []) ⟨hx, hb, hml, hown, hts⟩ (c_X4_floor ll (((x).toInt64) * ((y).toInt64)) ((100)) (by decide)) (va_cwS 2 hts gX4_translated_X4_floor rfl rfl rfl (by decide +kernel) ⟨Nat.le_of_ble_eq_true rfl, Nat.le_of_ble_eq_true rfl⟩) ⟨PT.blind, PT.to⟩ rfl rfl hl.1 rfl (lv_room (Nat.le_of_ble_eq_true rfl)) dX4_translated_8 ⟨Nat.le_of_ble_eq_true rfl, Nat.le_of_ble_eq_true rfl⟩) ?_
  refine lv_l2i (v := (flM (((x).toInt64) * ((y).toInt64)) ((100))).toInt32) hx hb dX4_translated_11 rfl ?_
  exact W.iret hx hb hr (fun t ht _ => ⟨_, rfl, rfl, ht⟩) (fun _ h => nomatch h) dX4_translated_12

abbrev rmX4_laySquare : Room := ({ frames := 0, cells := 0, slots := 0, locals := 0 } : Room)
set_option maxHeartbeats 4000000 in
set_option maxRecDepth 100000 in
theorem c_X4_laySquare (ll : Launch) (D : va_G) (a : Nat → Nat) (cI cJ : ClassId) (sz : Nat) (he cm ad gw as de eq re co av hi ke : Nat → Int32) (sq ab be : Nat → Int64) (nw tn : Nat → Int32) (th cd : Int32) (rp : Nat) (hr : rp < 6) : Met ll yX4_laySquare wsX4_laySquare rmX4_laySquare (va_Pc [.ref (a 0), .int (nI (rp))] (PW D (tyG cI cJ) (MW a cI cJ he cm ad gw as de eq re co av hi ke sq ab be nw tn th cd) sz)) (va_Qv (fun (u : Unit) => True) (fun (u : Unit) t => AW D (tyG cI cJ) (va_A (MW a cI cJ he cm ad gw as de eq re co av hi ke sq ab be nw tn th cd) sz) (MW a cI cJ he cm ad gw as de eq re co av hi ke (lsO he rp sq 5) ab be nw tn th cd) t) (va_A (MW a cI cJ he cm ad gw as de eq re co av hi ke sq ab be nw tn th cd) sz)) 0 0 (va_A (MW a cI cJ he cm ad gw as de eq re co av hi ke sq ab be nw tn th cd) sz) := by
  refine Met.ofW (cc := cX4_laySquare) (maxL := 5) (ret := none) (by decide) rfl ?_
  intro pp ee ss mm ar bel mth cde s₁ B hml hv
  obtain ⟨rfl, hsz, hP, hK, hD0, hE⟩ := hv
  have hx := B.exec
  have hb := B.bytes
  have hr := B.returns
  have hts := atoms_spec (ws := wsX4_laySquare) B.pre
  have hown : ss.vm.findClass RX4 = some mm.cls := findClass_of_methodNamed B.named
  have hlocks := B.notSynchronized
  subst hsz
  have hD := hD0.self (sz := ss.heap.size)
  generalize hAe : va_A (MW a cI cJ he cm ad gw as de eq re co av hi ke sq ab be nw tn th cd) ss.heap.size = A at hD ⊢
  have hA : ∀ q : Nat, ss.heap.size ≤ q → A q := fun q h => by rw [← hAe]; exact Or.inr h
  have hS : va_S A ss.heap ss.heap [] := va_S.rf
  have hin : ∀ w ∈ wsX40, w.before ([.ref (a 0), .int (nI (rp))] : List Value).toArray ss = true := fun w h => hts w ((by decide +kernel : ∀ w ∈ wsX40, w ∈ wsX4_laySquare) w h)
  have hl := lv_entry [.ref (a 0), .int (nI (rp))] (n := 5) (Nat.le_of_ble_eq_true rfl)
  rw [lg_entry_eq]
  generalize (lg_sl [.ref (a 0), .int (nI (rp))] ++ List.replicate (5 - (lg_sl [.ref (a 0), .int (nI (rp))]).length) Slot.unset).toArray = ls at hl ⊢
  have hl : lv_has ls 5 [(0, .ref (a 0)), (1, .int (nI (rp)))] := hl
  generalize hZ : MQ bel _ _ ss _ _ _ = Z
  refine lv_iconst (v := 1) hx hb dX4_laySquare_0 (by decide) ?_
  refine lv_istore_n (lv' := [(2, .int (1)), (0, .ref (a 0)), (1, .int (nI (rp)))]) hx hb dX4_laySquare_1 rfl hl (by decide) rfl (fun ls hl => ?_)
  have L1 : ∀ (n1 i1 : Nat), i1 + n1 = 5 → ∀ (H : Heap) (locs : List Loc) (ls : Array Slot), va_P D vwCl (MW a cI cJ he cm ad gw as de eq re co av hi ke (lsO he rp sq (i1)) ab be nw tn th cd) H → va_D A (MW a cI cJ he cm ad gw as de eq re co av hi ke (lsO he rp sq (i1)) ab be nw tn th cd) → va_S A ss.heap H locs → lv_has ls 5 [(2, .int (nI (i1 + 1))), (0, .ref (a 0)), (1, .int (nI (rp)))] → W pp ll ee rmX4_laySquare ss mm (([.ref (a 0), .int (nI (rp))] : List Value).toArray) bel mth cde H locs 0 0 Z (F0 mm 2 ls []) := by
    intro n1
    induction n1 with
    | zero =>
      intro i1 hk1  H locs ls hP hD hS hl
      have hk1b : 5 = i1 := by omega
      subst hk1b
      refine lv_iload_n hx hb dX4_laySquare_2 rfl (lv_at hl 0 rfl) ?_
      refine lv_bipush (v := 6) hx hb dX4_laySquare_3 (by decide) ?_
      refine lv_icmp_ge (tgt := 83) hx hb dX4_laySquare_5 (by decide) (fun c_1 => ?_) (fun c_1 => ?_)
      · have n_1 : (6) ≤ (5 + 1) := (nI_leI (a := 6) (b := 5 + 1) (by omega) (by omega)).mp c_1
        have e_2 : lsO he rp sq 5 = lsO he rp sq (5) := by first | rfl | exact if_pos (by assumption) | exact if_neg (by assumption) | (simp only [n_1, Bool.false_eq_true, ↓reduceIte])
        subst hZ; exact W.vret hx hb hr (fun t ht hW => ⟨⟨(), rfl, trivial, (by rw [ht]; exact (by rw [e_2]; exact hP)), va_K.moved hW.alike hK, (by rw [e_2]; exact hD)⟩, hS.F ht⟩) hS.2.2 dX4_laySquare_83
      · have n_1 : ¬ ((6) ≤ (5 + 1)) := fun h => c_1 ((nI_leI (a := 6) (b := 5 + 1) (by omega) (by omega)).mpr h)
        exfalso; omega
    | succ n1 ih1 =>
      intro i1 hk1  H locs ls hP hD hS hl
      have hk1b : i1 < 5 := by omega
      refine lv_iload_n hx hb dX4_laySquare_2 rfl (lv_at hl 0 rfl) ?_
      refine lv_bipush (v := 6) hx hb dX4_laySquare_3 (by decide) ?_
      refine lv_icmp_ge (tgt := 83) hx hb dX4_laySquare_5 (by decide) (fun c_3 => ?_) (fun c_3 => ?_)
      · have n_3 : (6) ≤ (i1 + 1) := (nI_leI (a := 6) (b := i1 + 1) (by omega) (by omega)).mp c_3
        exfalso; omega
      · have n_3 : ¬ ((6) ≤ (i1 + 1)) := fun h => c_3 ((nI_leI (a := 6) (b := i1 + 1) (by omega) (by omega)).mpr h)
        refine lv_iconst (v := 1) hx hb dX4_laySquare_8 (by decide) ?_
        refine lv_istore_n (lv' := [(3, .int (1)), (2, .int (nI (i1 + 1))), (0, .ref (a 0)), (1, .int (nI (rp)))]) hx hb dX4_laySquare_9 rfl hl (by decide) rfl (fun ls hl => ?_)
        have L2 : ∀ (n2 j2 : Nat), j2 + n2 = 5 → ∀ (H : Heap) (locs : List Loc) (ls : Array Slot), va_P D vwCl (MW a cI cJ he cm ad gw as de eq re co av hi ke (lsI he rp i1 (lsO he rp sq i1) (j2)) ab be nw tn th cd) H → va_D A (MW a cI cJ he cm ad gw as de eq re co av hi ke (lsI he rp i1 (lsO he rp sq i1) (j2)) ab be nw tn th cd) → va_S A ss.heap H locs → lv_has ls 5 [(3, .int (nI (j2 + 1))), (2, .int (nI (i1 + 1))), (0, .ref (a 0)), (1, .int (nI (rp)))] → W pp ll ee rmX4_laySquare ss mm (([.ref (a 0), .int (nI (rp))] : List Value).toArray) bel mth cde H locs 0 0 Z (F0 mm 10 ls []) := by
          intro n2
          induction n2 with
          | zero =>
            intro j2 hk2  H locs ls hP hD hS hl
            have hk2b : 5 = j2 := by omega
            subst hk2b
            refine lv_iload_n hx hb dX4_laySquare_10 rfl (lv_at hl 0 rfl) ?_
            refine lv_bipush (v := 6) hx hb dX4_laySquare_11 (by decide) ?_
            refine lv_icmp_ge (tgt := 77) hx hb dX4_laySquare_13 (by decide) (fun c_4 => ?_) (fun c_4 => ?_)
            · have n_4 : (6) ≤ (5 + 1) := (nI_leI (a := 6) (b := 5 + 1) (by omega) (by omega)).mp c_4
              refine lv_iinc (v := nI (i1 + 1 + 1)) (lv' := [(2, .int (nI (i1 + 1 + 1))), (3, .int (nI (5 + 1))), (0, .ref (a 0)), (1, .int (nI (rp)))]) hx hb dX4_laySquare_77 hl (k := 1) rfl (nI_1 (i1 + 1)) (by decide) rfl (fun ls hl => ?_)
              refine lv_goto (tgt := 2) hx hb dX4_laySquare_80 (by decide) ?_
              have e_5 : lsO he rp sq (i1 + 1) = lsI he rp i1 (lsO he rp sq i1) (5) := by first | rfl | exact if_pos (by assumption) | exact if_neg (by assumption) | (simp only [n_3, n_4, Bool.false_eq_true, ↓reduceIte])
              exact ih1 (i1 + 1) (by omega) _ _ ls (by rw [e_5]; exact hP) (by rw [e_5]; exact hD) hS (lv_sub hl [0, 2, 3] rfl)
            · have n_4 : ¬ ((6) ≤ (5 + 1)) := fun h => c_4 ((nI_leI (a := 6) (b := 5 + 1) (by omega) (by omega)).mpr h)
              exfalso; omega
          | succ n2 ih2 =>
            intro j2 hk2  H locs ls hP hD hS hl
            have hk2b : j2 < 5 := by omega
            refine lv_iload_n hx hb dX4_laySquare_10 rfl (lv_at hl 0 rfl) ?_
            refine lv_bipush (v := 6) hx hb dX4_laySquare_11 (by decide) ?_
            refine lv_icmp_ge (tgt := 77) hx hb dX4_laySquare_13 (by decide) (fun c_6 => ?_) (fun c_6 => ?_)
            · have n_6 : (6) ≤ (j2 + 1) := (nI_leI (a := 6) (b := j2 + 1) (by omega) (by omega)).mp c_6
              exfalso; omega
            · have n_6 : ¬ ((6) ≤ (j2 + 1)) := fun h => c_6 ((nI_leI (a := 6) (b := j2 + 1) (by omega) (by omega)).mpr h)
              refine lv_iload_n hx hb dX4_laySquare_16 rfl (lv_at hl 1 rfl) ?_
              refine lv_iload_n hx hb dX4_laySquare_17 rfl (lv_at hl 0 rfl) ?_
              refine lv_icmp_ne (tgt := 26) hx hb dX4_laySquare_18 (by decide) (fun c_7 => ?_) (fun c_7 => ?_)
              · have n_7 : ¬ ((i1 + 1) = (j2 + 1)) := fun h => c_7 ((nI_eq (a := i1 + 1) (b := j2 + 1) (by omega) (by omega)).mpr h)
                refine lv_aload_n hx hb dX4_laySquare_26 rfl (lv_at hl 2 rfl) ?_
                refine va_get (D := D) (ci := 4) (v := .ref (a 1)) (C := RX4) (T := TX4) (N := 19) (Ts := wsX40) hx hb hin (fun _ h9 => h9) hown hK hP 0 rfl rfl 1 (by decide) (hts (.fieldLink RX4 7 "GroupbooksModel" "held" "[I") (by decide +kernel)) (fun _ h9 => h9) rfl dX4_laySquare_27 ?_
                refine lv_bipush (v := 6) hx hb dX4_laySquare_30 (by decide) ?_
                refine lv_iload_n hx hb dX4_laySquare_32 rfl (lv_at hl 0 rfl) ?_
                refine lv_imul hx hb dX4_laySquare_33 ?_
                refine b_ti (pk_mul (6) (j2 + 1)) ?_
                refine lv_iload_n hx hb dX4_laySquare_34 rfl (lv_at hl 1 rfl) ?_
                refine lv_iadd hx hb dX4_laySquare_35 ?_
                refine b_ti (nI_add ((6) * (j2 + 1)) (i1 + 1)) ?_
                refine b_iald hx hb hK hP 1 0 (f := he) rfl rfl (j := ((6) * (j2 + 1)) + (i1 + 1)) (by omega) (by decide) dX4_laySquare_36 ?_
                refine lv_ineg hx hb dX4_laySquare_37 ?_
                refine lv_istore (lv' := [(4, .int (-(he (((6) * (j2 + 1)) + (i1 + 1))))), (3, .int (nI (j2 + 1))), (2, .int (nI (i1 + 1))), (0, .ref (a 0)), (1, .int (nI (rp)))]) hx hb dX4_laySquare_38 hl (by decide) rfl (fun ls hl => ?_)
                refine lv_aload_n hx hb dX4_laySquare_40 rfl (lv_at hl 3 rfl) ?_
                refine va_get (D := D) (ci := 4) (v := .ref (a 13)) (C := RX4) (T := TX4) (N := 19) (Ts := wsX40) hx hb hin (fun _ h9 => h9) hown hK hP 0 rfl rfl 14 (by decide) (hts (.fieldLink RX4 46 "GroupbooksModel" "square" "[J") (by decide +kernel)) (fun _ h9 => h9) rfl dX4_laySquare_41 ?_
                refine lv_iconst (v := 5) hx hb dX4_laySquare_44 (by decide) ?_
                refine lv_iload_n hx hb dX4_laySquare_45 rfl (lv_at hl 2 rfl) ?_
                refine lv_imul hx hb dX4_laySquare_46 ?_
                refine b_ti (pk_mul (5) (i1 + 1)) ?_
                refine lv_iload_n hx hb dX4_laySquare_47 rfl (lv_at hl 1 rfl) ?_
                refine lv_iadd hx hb dX4_laySquare_48 ?_
                refine b_ti (nI_add ((5) * (i1 + 1)) (j2 + 1)) ?_
                refine lv_bipush (v := 6) hx hb dX4_laySquare_49 (by decide) ?_
                refine lv_isub hx hb dX4_laySquare_51 ?_
                refine b_ti (y := nI (((5) * (i1 + 1)) + (j2 + 1) - 6)) (pk_sub (a := ((5) * (i1 + 1)) + (j2 + 1)) (b := 6) (by omega)) ?_
                refine lv_iload_n hx hb dX4_laySquare_52 rfl (lv_at hl 1 rfl) ?_
                refine lv_iload_n hx hb dX4_laySquare_53 rfl (lv_at hl 4 rfl) ?_
                refine lv_icmp_ne (tgt := 67) hx hb dX4_laySquare_54 (by decide) (fun c_8 => ?_) (fun c_8 => ?_)
                · have n_8 : ¬ ((j2 + 1) = (rp)) := fun h => c_8 ((nI_eq (a := j2 + 1) (b := rp) (by omega) (by omega)).mpr h)
                  refine lv_iload hx hb dX4_laySquare_67 (lv_at hl 0 rfl) ?_
                  refine lv_i2l (v := (-(he (((6) * (j2 + 1)) + (i1 + 1)))).toInt64) hx hb dX4_laySquare_69 rfl ?_
                  refine b_last (w' := MW a cI cJ he cm ad gw as de eq re co av hi ke (vp_updL (lsI he rp i1 (lsO he rp sq i1) (j2)) (((5) * (i1 + 1)) + (j2 + 1) - 6) ((-(he (((6) * (j2 + 1)) + (i1 + 1)))).toInt64)) ab be nw tn th cd) hx hb hK hP hD hS 13 1 (f := (lsI he rp i1 (lsO he rp sq i1) (j2))) rfl rfl (j := ((5) * (i1 + 1)) + (j2 + 1) - 6) (by omega) (by decide) rfl dX4_laySquare_70 (fun H locs hP hD hS => ?_)
                  refine lv_iinc (v := nI (j2 + 1 + 1)) (lv' := [(3, .int (nI (j2 + 1 + 1))), (4, .int (-(he (((6) * (j2 + 1)) + (i1 + 1))))), (2, .int (nI (i1 + 1))), (0, .ref (a 0)), (1, .int (nI (rp)))]) hx hb dX4_laySquare_71 hl (k := 1) rfl (nI_1 (j2 + 1)) (by decide) rfl (fun ls hl => ?_)
                  refine lv_goto (tgt := 10) hx hb dX4_laySquare_74 (by decide) ?_
                  have e_9 : lsI he rp i1 (lsO he rp sq i1) (j2 + 1) = vp_updL (lsI he rp i1 (lsO he rp sq i1) (j2)) (((5) * (i1 + 1)) + (j2 + 1) - 6) ((-(he (((6) * (j2 + 1)) + (i1 + 1)))).toInt64) := by first | rfl | exact if_pos (by assumption) | exact if_neg (by assumption) | (simp only [lsI, n_3, n_6, n_7, n_8, Bool.false_eq_true, ↓reduceIte])
                  exact ih2 (j2 + 1) (by omega) _ _ ls (by rw [e_9]; exact hP) (by rw [e_9]; exact hD) hS (lv_sub hl [0, 2, 3, 4] rfl)
                · have n_8 : (j2 + 1) = (rp) := (nI_eq (a := j2 + 1) (b := rp) (by omega) (by omega)).mp c_8
                  refine lv_aload_n hx hb dX4_laySquare_57 rfl (lv_at hl 3 rfl) ?_
                  refine va_get (D := D) (ci := 4) (v := .ref (a 1)) (C := RX4) (T := TX4) (N := 19) (Ts := wsX40) hx hb hin (fun _ h9 => h9) hown hK hP 0 rfl rfl 1 (by decide) (hts (.fieldLink RX4 7 "GroupbooksModel" "held" "[I") (by decide +kernel)) (fun _ h9 => h9) rfl dX4_laySquare_58 ?_
                  refine lv_iload_n hx hb dX4_laySquare_61 rfl (lv_at hl 2 rfl) ?_
                  refine b_iald hx hb hK hP 1 0 (f := he) rfl rfl (j := i1 + 1) (by omega) (by decide) dX4_laySquare_62 ?_
                  refine lv_i2l (v := (he (i1 + 1)).toInt64) hx hb dX4_laySquare_63 rfl ?_
                  refine lv_goto (tgt := 70) hx hb dX4_laySquare_64 (by decide) ?_
                  refine b_last (w' := MW a cI cJ he cm ad gw as de eq re co av hi ke (vp_updL (lsI he rp i1 (lsO he rp sq i1) (j2)) (((5) * (i1 + 1)) + (j2 + 1) - 6) ((he (i1 + 1)).toInt64)) ab be nw tn th cd) hx hb hK hP hD hS 13 1 (f := (lsI he rp i1 (lsO he rp sq i1) (j2))) rfl rfl (j := ((5) * (i1 + 1)) + (j2 + 1) - 6) (by omega) (by decide) rfl dX4_laySquare_70 (fun H locs hP hD hS => ?_)
                  refine lv_iinc (v := nI (j2 + 1 + 1)) (lv' := [(3, .int (nI (j2 + 1 + 1))), (4, .int (-(he (((6) * (j2 + 1)) + (i1 + 1))))), (2, .int (nI (i1 + 1))), (0, .ref (a 0)), (1, .int (nI (rp)))]) hx hb dX4_laySquare_71 hl (k := 1) rfl (nI_1 (j2 + 1)) (by decide) rfl (fun ls hl => ?_)
                  refine lv_goto (tgt := 10) hx hb dX4_laySquare_74 (by decide) ?_
                  have e_10 : lsI he rp i1 (lsO he rp sq i1) (j2 + 1) = vp_updL (lsI he rp i1 (lsO he rp sq i1) (j2)) (((5) * (i1 + 1)) + (j2 + 1) - 6) ((he (i1 + 1)).toInt64) := by first | rfl | exact if_pos (by assumption) | exact if_neg (by assumption) | (simp only [lsI, n_3, n_6, n_7, n_8, Bool.false_eq_true, ↓reduceIte])
                  exact ih2 (j2 + 1) (by omega) _ _ ls (by rw [e_10]; exact hP) (by rw [e_10]; exact hD) hS (lv_sub hl [0, 2, 3, 4] rfl)
              · have n_7 : (i1 + 1) = (j2 + 1) := (nI_eq (a := i1 + 1) (b := j2 + 1) (by omega) (by omega)).mp c_7
                refine lv_bipush (v := 100) hx hb dX4_laySquare_21 (by decide) ?_
                refine lv_goto (tgt := 38) hx hb dX4_laySquare_23 (by decide) ?_
                refine lv_istore (lv' := [(4, .int (100)), (3, .int (nI (j2 + 1))), (2, .int (nI (i1 + 1))), (0, .ref (a 0)), (1, .int (nI (rp)))]) hx hb dX4_laySquare_38 hl (by decide) rfl (fun ls hl => ?_)
                refine lv_aload_n hx hb dX4_laySquare_40 rfl (lv_at hl 3 rfl) ?_
                refine va_get (D := D) (ci := 4) (v := .ref (a 13)) (C := RX4) (T := TX4) (N := 19) (Ts := wsX40) hx hb hin (fun _ h9 => h9) hown hK hP 0 rfl rfl 14 (by decide) (hts (.fieldLink RX4 46 "GroupbooksModel" "square" "[J") (by decide +kernel)) (fun _ h9 => h9) rfl dX4_laySquare_41 ?_
                refine lv_iconst (v := 5) hx hb dX4_laySquare_44 (by decide) ?_
                refine lv_iload_n hx hb dX4_laySquare_45 rfl (lv_at hl 2 rfl) ?_
                refine lv_imul hx hb dX4_laySquare_46 ?_
                refine b_ti (pk_mul (5) (i1 + 1)) ?_
                refine lv_iload_n hx hb dX4_laySquare_47 rfl (lv_at hl 1 rfl) ?_
                refine lv_iadd hx hb dX4_laySquare_48 ?_
                refine b_ti (nI_add ((5) * (i1 + 1)) (j2 + 1)) ?_
                refine lv_bipush (v := 6) hx hb dX4_laySquare_49 (by decide) ?_
                refine lv_isub hx hb dX4_laySquare_51 ?_
                refine b_ti (y := nI (((5) * (i1 + 1)) + (j2 + 1) - 6)) (pk_sub (a := ((5) * (i1 + 1)) + (j2 + 1)) (b := 6) (by omega)) ?_
                refine lv_iload_n hx hb dX4_laySquare_52 rfl (lv_at hl 1 rfl) ?_
                refine lv_iload_n hx hb dX4_laySquare_53 rfl (lv_at hl 4 rfl) ?_
                refine lv_icmp_ne (tgt := 67) hx hb dX4_laySquare_54 (by decide) (fun c_11 => ?_) (fun c_11 => ?_)
                · have n_11 : ¬ ((j2 + 1) = (rp)) := fun h => c_11 ((nI_eq (a := j2 + 1) (b := rp) (by omega) (by omega)).mpr h)
                  refine lv_iload hx hb dX4_laySquare_67 (lv_at hl 0 rfl) ?_
                  refine lv_i2l (v := ((100 : Int32)).toInt64) hx hb dX4_laySquare_69 rfl ?_
                  refine b_last (w' := MW a cI cJ he cm ad gw as de eq re co av hi ke (vp_updL (lsI he rp i1 (lsO he rp sq i1) (j2)) (((5) * (i1 + 1)) + (j2 + 1) - 6) (((100 : Int32)).toInt64)) ab be nw tn th cd) hx hb hK hP hD hS 13 1 (f := (lsI he rp i1 (lsO he rp sq i1) (j2))) rfl rfl (j := ((5) * (i1 + 1)) + (j2 + 1) - 6) (by omega) (by decide) rfl dX4_laySquare_70 (fun H locs hP hD hS => ?_)
                  refine lv_iinc (v := nI (j2 + 1 + 1)) (lv' := [(3, .int (nI (j2 + 1 + 1))), (4, .int (100)), (2, .int (nI (i1 + 1))), (0, .ref (a 0)), (1, .int (nI (rp)))]) hx hb dX4_laySquare_71 hl (k := 1) rfl (nI_1 (j2 + 1)) (by decide) rfl (fun ls hl => ?_)
                  refine lv_goto (tgt := 10) hx hb dX4_laySquare_74 (by decide) ?_
                  have e_12 : lsI he rp i1 (lsO he rp sq i1) (j2 + 1) = vp_updL (lsI he rp i1 (lsO he rp sq i1) (j2)) (((5) * (i1 + 1)) + (j2 + 1) - 6) (((100 : Int32)).toInt64) := by first | rfl | exact if_pos (by assumption) | exact if_neg (by assumption) | (simp only [lsI, n_3, n_6, n_7, n_11, Bool.false_eq_true, ↓reduceIte])
                  exact ih2 (j2 + 1) (by omega) _ _ ls (by rw [e_12]; exact hP) (by rw [e_12]; exact hD) hS (lv_sub hl [0, 2, 3, 4] rfl)
                · have n_11 : (j2 + 1) = (rp) := (nI_eq (a := j2 + 1) (b := rp) (by omega) (by omega)).mp c_11
                  refine lv_aload_n hx hb dX4_laySquare_57 rfl (lv_at hl 3 rfl) ?_
                  refine va_get (D := D) (ci := 4) (v := .ref (a 1)) (C := RX4) (T := TX4) (N := 19) (Ts := wsX40) hx hb hin (fun _ h9 => h9) hown hK hP 0 rfl rfl 1 (by decide) (hts (.fieldLink RX4 7 "GroupbooksModel" "held" "[I") (by decide +kernel)) (fun _ h9 => h9) rfl dX4_laySquare_58 ?_
                  refine lv_iload_n hx hb dX4_laySquare_61 rfl (lv_at hl 2 rfl) ?_
                  refine b_iald hx hb hK hP 1 0 (f := he) rfl rfl (j := i1 + 1) (by omega) (by decide) dX4_laySquare_62 ?_
                  refine lv_i2l (v := (he (i1 + 1)).toInt64) hx hb dX4_laySquare_63 rfl ?_
                  refine lv_goto (tgt := 70) hx hb dX4_laySquare_64 (by decide) ?_
                  refine b_last (w' := MW a cI cJ he cm ad gw as de eq re co av hi ke (vp_updL (lsI he rp i1 (lsO he rp sq i1) (j2)) (((5) * (i1 + 1)) + (j2 + 1) - 6) ((he (i1 + 1)).toInt64)) ab be nw tn th cd) hx hb hK hP hD hS 13 1 (f := (lsI he rp i1 (lsO he rp sq i1) (j2))) rfl rfl (j := ((5) * (i1 + 1)) + (j2 + 1) - 6) (by omega) (by decide) rfl dX4_laySquare_70 (fun H locs hP hD hS => ?_)
                  refine lv_iinc (v := nI (j2 + 1 + 1)) (lv' := [(3, .int (nI (j2 + 1 + 1))), (4, .int (100)), (2, .int (nI (i1 + 1))), (0, .ref (a 0)), (1, .int (nI (rp)))]) hx hb dX4_laySquare_71 hl (k := 1) rfl (nI_1 (j2 + 1)) (by decide) rfl (fun ls hl => ?_)
                  refine lv_goto (tgt := 10) hx hb dX4_laySquare_74 (by decide) ?_
                  have e_13 : lsI he rp i1 (lsO he rp sq i1) (j2 + 1) = vp_updL (lsI he rp i1 (lsO he rp sq i1) (j2)) (((5) * (i1 + 1)) + (j2 + 1) - 6) ((he (i1 + 1)).toInt64) := by first | rfl | exact if_pos (by assumption) | exact if_neg (by assumption) | (simp only [lsI, n_3, n_6, n_7, n_11, Bool.false_eq_true, ↓reduceIte])
                  exact ih2 (j2 + 1) (by omega) _ _ ls (by rw [e_13]; exact hP) (by rw [e_13]; exact hD) hS (lv_sub hl [0, 2, 3, 4] rfl)
        exact L2 (5) 0 (by omega) _ _ ls hP hD hS (lv_sub hl [0, 1, 2, 3] rfl)
  exact L1 (5) 0 (by omega) _ _ ls hP hD hS (lv_sub hl [0, 1, 2] rfl)

abbrev rmX4_exchange : Room := ({ frames := 0, cells := 0, slots := 0, locals := 0 } : Room)
set_option maxHeartbeats 4000000 in
set_option maxRecDepth 100000 in
theorem c_X4_exchange (ll : Launch) (D : va_G) (a : Nat → Nat) (cI cJ : ClassId) (sz : Nat) (he cm ad gw as de eq re co av hi ke : Nat → Int32) (sq ab be : Nat → Int64) (nw tn : Nat → Int32) (th cd : Int32) (r1 r2 : Nat) (h1 : r1 < 5) (h2 : r2 < 5) : Met ll yX4_exchange wsX4_exchange rmX4_exchange (va_Pc [.ref (a 0), .int (nI (r1)), .int (nI (r2))] (PW D (tyG cI cJ) (MW a cI cJ he cm ad gw as de eq re co av hi ke sq ab be nw tn th cd) sz)) (va_Qv (fun (u : Unit) => True) (fun (u : Unit) t => AW D (tyG cI cJ) (va_A (MW a cI cJ he cm ad gw as de eq re co av hi ke sq ab be nw tn th cd) sz) (MW a cI cJ he cm ad gw as de eq re co av hi ke (exK sq r1 r2 5) ab be nw tn th cd) t) (va_A (MW a cI cJ he cm ad gw as de eq re co av hi ke sq ab be nw tn th cd) sz)) 0 0 (va_A (MW a cI cJ he cm ad gw as de eq re co av hi ke sq ab be nw tn th cd) sz) := by
  refine Met.ofW (cc := cX4_exchange) (maxL := 6) (ret := none) (by decide) rfl ?_
  intro pp ee ss mm ar bel mth cde s₁ B hml hv
  obtain ⟨rfl, hsz, hP, hK, hD0, hE⟩ := hv
  have hx := B.exec
  have hb := B.bytes
  have hr := B.returns
  have hts := atoms_spec (ws := wsX4_exchange) B.pre
  have hown : ss.vm.findClass RX4 = some mm.cls := findClass_of_methodNamed B.named
  have hlocks := B.notSynchronized
  subst hsz
  have hD := hD0.self (sz := ss.heap.size)
  generalize hAe : va_A (MW a cI cJ he cm ad gw as de eq re co av hi ke sq ab be nw tn th cd) ss.heap.size = A at hD ⊢
  have hA : ∀ q : Nat, ss.heap.size ≤ q → A q := fun q h => by rw [← hAe]; exact Or.inr h
  have hS : va_S A ss.heap ss.heap [] := va_S.rf
  have hin : ∀ w ∈ wsX40, w.before ([.ref (a 0), .int (nI (r1)), .int (nI (r2))] : List Value).toArray ss = true := fun w h => hts w ((by decide +kernel : ∀ w ∈ wsX40, w ∈ wsX4_exchange) w h)
  have hl := lv_entry [.ref (a 0), .int (nI (r1)), .int (nI (r2))] (n := 6) (Nat.le_of_ble_eq_true rfl)
  rw [lg_entry_eq]
  generalize (lg_sl [.ref (a 0), .int (nI (r1)), .int (nI (r2))] ++ List.replicate (6 - (lg_sl [.ref (a 0), .int (nI (r1)), .int (nI (r2))]).length) Slot.unset).toArray = ls at hl ⊢
  have hl : lv_has ls 6 [(0, .ref (a 0)), (1, .int (nI (r1))), (2, .int (nI (r2)))] := hl
  generalize hZ : MQ bel _ _ ss _ _ _ = Z
  refine lv_iconst (v := 0) hx hb dX4_exchange_0 (by decide) ?_
  refine lv_istore_n (lv' := [(3, .int (0)), (0, .ref (a 0)), (1, .int (nI (r1))), (2, .int (nI (r2)))]) hx hb dX4_exchange_1 rfl hl (by decide) rfl (fun ls hl => ?_)
  have L1 : ∀ (n1 k1 : Nat), k1 + n1 = 5 → ∀ (H : Heap) (locs : List Loc) (ls : Array Slot), va_P D vwCl (MW a cI cJ he cm ad gw as de eq re co av hi ke (exK sq r1 r2 (k1)) ab be nw tn th cd) H → va_D A (MW a cI cJ he cm ad gw as de eq re co av hi ke (exK sq r1 r2 (k1)) ab be nw tn th cd) → va_S A ss.heap H locs → lv_has ls 6 [(3, .int (nI (k1))), (0, .ref (a 0)), (1, .int (nI (r1))), (2, .int (nI (r2)))] → W pp ll ee rmX4_exchange ss mm (([.ref (a 0), .int (nI (r1)), .int (nI (r2))] : List Value).toArray) bel mth cde H locs 0 0 Z (F0 mm 2 ls []) := by
    intro n1
    induction n1 with
    | zero =>
      intro k1 hk1  H locs ls hP hD hS hl
      have hk1b : 5 = k1 := by omega
      subst hk1b
      refine lv_iload_n hx hb dX4_exchange_2 rfl (lv_at hl 0 rfl) ?_
      refine lv_iconst (v := 5) hx hb dX4_exchange_3 (by decide) ?_
      refine lv_icmp_ge (tgt := 57) hx hb dX4_exchange_4 (by decide) (fun c_1 => ?_) (fun c_1 => ?_)
      · have n_1 : (5) ≤ (5) := (nI_leI (a := 5) (b := 5) (by omega) (by omega)).mp c_1
        have e_2 : exK sq r1 r2 5 = exK sq r1 r2 (5) := by first | rfl | exact if_pos (by assumption) | exact if_neg (by assumption) | (simp only [n_1, Bool.false_eq_true, ↓reduceIte])
        subst hZ; exact W.vret hx hb hr (fun t ht hW => ⟨⟨(), rfl, trivial, (by rw [ht]; exact (by rw [e_2]; exact hP)), va_K.moved hW.alike hK, (by rw [e_2]; exact hD)⟩, hS.F ht⟩) hS.2.2 dX4_exchange_57
      · have n_1 : ¬ ((5) ≤ (5)) := fun h => c_1 ((nI_leI (a := 5) (b := 5) (by omega) (by omega)).mpr h)
        exfalso; omega
    | succ n1 ih1 =>
      intro k1 hk1  H locs ls hP hD hS hl
      have hk1b : k1 < 5 := by omega
      refine lv_iload_n hx hb dX4_exchange_2 rfl (lv_at hl 0 rfl) ?_
      refine lv_iconst (v := 5) hx hb dX4_exchange_3 (by decide) ?_
      refine lv_icmp_ge (tgt := 57) hx hb dX4_exchange_4 (by decide) (fun c_3 => ?_) (fun c_3 => ?_)
      · have n_3 : (5) ≤ (k1) := (nI_leI (a := 5) (b := k1) (by omega) (by omega)).mp c_3
        exfalso; omega
      · have n_3 : ¬ ((5) ≤ (k1)) := fun h => c_3 ((nI_leI (a := 5) (b := k1) (by omega) (by omega)).mpr h)
        refine lv_aload_n hx hb dX4_exchange_7 rfl (lv_at hl 1 rfl) ?_
        refine va_get (D := D) (ci := 4) (v := .ref (a 13)) (C := RX4) (T := TX4) (N := 19) (Ts := wsX40) hx hb hin (fun _ h9 => h9) hown hK hP 0 rfl rfl 14 (by decide) (hts (.fieldLink RX4 46 "GroupbooksModel" "square" "[J") (by decide +kernel)) (fun _ h9 => h9) rfl dX4_exchange_8 ?_
        refine lv_iconst (v := 5) hx hb dX4_exchange_11 (by decide) ?_
        refine lv_iload_n hx hb dX4_exchange_12 rfl (lv_at hl 2 rfl) ?_
        refine lv_imul hx hb dX4_exchange_13 ?_
        refine b_ti (pk_mul (5) (r1)) ?_
        refine lv_iload_n hx hb dX4_exchange_14 rfl (lv_at hl 0 rfl) ?_
        refine lv_iadd hx hb dX4_exchange_15 ?_
        refine b_ti (nI_add ((5) * (r1)) (k1)) ?_
        refine b_lald hx hb hK hP 13 1 (f := (exK sq r1 r2 (k1))) rfl rfl (j := ((5) * (r1)) + (k1)) (by omega) (by decide) dX4_exchange_16 ?_
        refine lv_lstore (lv' := [(4, .long ((exK sq r1 r2 (k1)) (((5) * (r1)) + (k1)))), (3, .int (nI (k1))), (0, .ref (a 0)), (1, .int (nI (r1))), (2, .int (nI (r2)))]) hx hb dX4_exchange_17 hl (by decide) rfl (fun ls hl => ?_)
        refine lv_aload_n hx hb dX4_exchange_19 rfl (lv_at hl 2 rfl) ?_
        refine va_get (D := D) (ci := 4) (v := .ref (a 13)) (C := RX4) (T := TX4) (N := 19) (Ts := wsX40) hx hb hin (fun _ h9 => h9) hown hK hP 0 rfl rfl 14 (by decide) (hts (.fieldLink RX4 46 "GroupbooksModel" "square" "[J") (by decide +kernel)) (fun _ h9 => h9) rfl dX4_exchange_20 ?_
        refine lv_iconst (v := 5) hx hb dX4_exchange_23 (by decide) ?_
        refine lv_iload_n hx hb dX4_exchange_24 rfl (lv_at hl 3 rfl) ?_
        refine lv_imul hx hb dX4_exchange_25 ?_
        refine b_ti (pk_mul (5) (r1)) ?_
        refine lv_iload_n hx hb dX4_exchange_26 rfl (lv_at hl 1 rfl) ?_
        refine lv_iadd hx hb dX4_exchange_27 ?_
        refine b_ti (nI_add ((5) * (r1)) (k1)) ?_
        refine lv_aload_n hx hb dX4_exchange_28 rfl (lv_at hl 2 rfl) ?_
        refine va_get (D := D) (ci := 4) (v := .ref (a 13)) (C := RX4) (T := TX4) (N := 19) (Ts := wsX40) hx hb hin (fun _ h9 => h9) hown hK hP 0 rfl rfl 14 (by decide) (hts (.fieldLink RX4 46 "GroupbooksModel" "square" "[J") (by decide +kernel)) (fun _ h9 => h9) rfl dX4_exchange_29 ?_
        refine lv_iconst (v := 5) hx hb dX4_exchange_32 (by decide) ?_
        refine lv_iload_n hx hb dX4_exchange_33 rfl (lv_at hl 4 rfl) ?_
        refine lv_imul hx hb dX4_exchange_34 ?_
        refine b_ti (pk_mul (5) (r2)) ?_
        refine lv_iload_n hx hb dX4_exchange_35 rfl (lv_at hl 1 rfl) ?_
        refine lv_iadd hx hb dX4_exchange_36 ?_
        refine b_ti (nI_add ((5) * (r2)) (k1)) ?_
        refine b_lald hx hb hK hP 13 1 (f := (exK sq r1 r2 (k1))) rfl rfl (j := ((5) * (r2)) + (k1)) (by omega) (by decide) dX4_exchange_37 ?_
        refine b_last (w' := MW a cI cJ he cm ad gw as de eq re co av hi ke (vp_updL (exK sq r1 r2 (k1)) (((5) * (r1)) + (k1)) ((exK sq r1 r2 (k1)) (((5) * (r2)) + (k1)))) ab be nw tn th cd) hx hb hK hP hD hS 13 1 (f := (exK sq r1 r2 (k1))) rfl rfl (j := ((5) * (r1)) + (k1)) (by omega) (by decide) rfl dX4_exchange_38 (fun H locs hP hD hS => ?_)
        refine lv_aload_n hx hb dX4_exchange_39 rfl (lv_at hl 2 rfl) ?_
        refine va_get (D := D) (ci := 4) (v := .ref (a 13)) (C := RX4) (T := TX4) (N := 19) (Ts := wsX40) hx hb hin (fun _ h9 => h9) hown hK hP 0 rfl rfl 14 (by decide) (hts (.fieldLink RX4 46 "GroupbooksModel" "square" "[J") (by decide +kernel)) (fun _ h9 => h9) rfl dX4_exchange_40 ?_
        refine lv_iconst (v := 5) hx hb dX4_exchange_43 (by decide) ?_
        refine lv_iload_n hx hb dX4_exchange_44 rfl (lv_at hl 4 rfl) ?_
        refine lv_imul hx hb dX4_exchange_45 ?_
        refine b_ti (pk_mul (5) (r2)) ?_
        refine lv_iload_n hx hb dX4_exchange_46 rfl (lv_at hl 1 rfl) ?_
        refine lv_iadd hx hb dX4_exchange_47 ?_
        refine b_ti (nI_add ((5) * (r2)) (k1)) ?_
        refine lv_lload hx hb dX4_exchange_48 (lv_at hl 0 rfl) ?_
        refine b_last (w' := MW a cI cJ he cm ad gw as de eq re co av hi ke (vp_updL (vp_updL (exK sq r1 r2 (k1)) (((5) * (r1)) + (k1)) ((exK sq r1 r2 (k1)) (((5) * (r2)) + (k1)))) (((5) * (r2)) + (k1)) ((exK sq r1 r2 (k1)) (((5) * (r1)) + (k1)))) ab be nw tn th cd) hx hb hK hP hD hS 13 1 (f := (vp_updL (exK sq r1 r2 (k1)) (((5) * (r1)) + (k1)) ((exK sq r1 r2 (k1)) (((5) * (r2)) + (k1))))) rfl rfl (j := ((5) * (r2)) + (k1)) (by omega) (by decide) rfl dX4_exchange_50 (fun H locs hP hD hS => ?_)
        refine lv_iinc (v := nI (k1 + 1)) (lv' := [(3, .int (nI (k1 + 1))), (4, .long ((exK sq r1 r2 (k1)) (((5) * (r1)) + (k1)))), (0, .ref (a 0)), (1, .int (nI (r1))), (2, .int (nI (r2)))]) hx hb dX4_exchange_51 hl (k := 1) rfl (nI_1 (k1)) (by decide) rfl (fun ls hl => ?_)
        refine lv_goto (tgt := 2) hx hb dX4_exchange_54 (by decide) ?_
        have e_4 : exK sq r1 r2 (k1 + 1) = vp_updL (vp_updL (exK sq r1 r2 (k1)) (((5) * (r1)) + (k1)) ((exK sq r1 r2 (k1)) (((5) * (r2)) + (k1)))) (((5) * (r2)) + (k1)) ((exK sq r1 r2 (k1)) (((5) * (r1)) + (k1))) := by first | rfl | exact if_pos (by assumption) | exact if_neg (by assumption) | (simp only [n_3, Bool.false_eq_true, ↓reduceIte])
        exact ih1 (k1 + 1) (by omega) _ _ ls (by rw [e_4]; exact hP) (by rw [e_4]; exact hD) hS (lv_sub hl [0, 2, 3, 4] rfl)
  exact L1 (5) 0 (by omega) _ _ ls hP hD hS (lv_sub hl [0, 1, 2, 3] rfl)
