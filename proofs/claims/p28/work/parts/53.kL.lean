abbrev rmL_low_5 : Room := ({ frames := 0, cells := 0, slots := 0, locals := 0 } : Room)
set_option maxHeartbeats 4000000 in
set_option maxRecDepth 100000 in
theorem c_L_low_5 (ll : Launch)   : Met ll yL_low wsL_low rmL_low_5 (va_Pc [.int (0), .int (5)] (fun _ => True)) (vp_Si (fun rr => rr = 0)) 0 0 (fun _ => False) := by
  refine Met.ofW (cc := cL_low) (maxL := 2) (ret := (some .int)) (by decide) rfl ?_
  intro pp ee ss mm ar bel mth cde s₁ B hml hv
  obtain ⟨rfl, -⟩ := hv
  have hx := B.exec
  have hb := B.bytes
  have hr := B.returns
  have hts := atoms_spec (ws := wsL_low) B.pre
  have hown : ss.vm.findClass RL = some mm.cls := findClass_of_methodNamed B.named
  have hlocks := B.notSynchronized
  have hl := lv_entry [.int (0), .int (5)] (n := 2) (Nat.le_of_ble_eq_true rfl)
  rw [lg_entry_eq]
  generalize (lg_sl [.int (0), .int (5)] ++ List.replicate (2 - (lg_sl [.int (0), .int (5)]).length) Slot.unset).toArray = ls at hl ⊢
  have hl : lv_has ls 2 [(0, .int (0)), (1, .int (5))] := hl
  refine lv_iload_n hx hb dL_low_0 rfl (lv_at hl 0 rfl) ?_
  refine lv_ldc (v := 2147483647) hx hb hown (hts (.constant RL 9 (2147483647)) (by decide +kernel)) dL_low_1 ?_
  refine lv_iand hx hb dL_low_3 ?_
  refine b_ti (y := 0) (by decide) ?_
  refine lv_iload_n hx hb dL_low_4 rfl (lv_at hl 1 rfl) ?_
  refine lv_irem hx hb dL_low_5 (by decide) ?_
  refine b_ti (y := 0) (by decide) ?_
  exact W.iret hx hb hr (fun t ht _ => ⟨_, rfl, rfl, ht⟩) (fun _ h => nomatch h) dL_low_6

abbrev rmL_low_6 : Room := ({ frames := 0, cells := 0, slots := 0, locals := 0 } : Room)
set_option maxHeartbeats 4000000 in
set_option maxRecDepth 100000 in
theorem c_L_low_6 (ll : Launch)   : Met ll yL_low wsL_low rmL_low_6 (va_Pc [.int (0), .int (6)] (fun _ => True)) (vp_Si (fun rr => rr = 0)) 0 0 (fun _ => False) := by
  refine Met.ofW (cc := cL_low) (maxL := 2) (ret := (some .int)) (by decide) rfl ?_
  intro pp ee ss mm ar bel mth cde s₁ B hml hv
  obtain ⟨rfl, -⟩ := hv
  have hx := B.exec
  have hb := B.bytes
  have hr := B.returns
  have hts := atoms_spec (ws := wsL_low) B.pre
  have hown : ss.vm.findClass RL = some mm.cls := findClass_of_methodNamed B.named
  have hlocks := B.notSynchronized
  have hl := lv_entry [.int (0), .int (6)] (n := 2) (Nat.le_of_ble_eq_true rfl)
  rw [lg_entry_eq]
  generalize (lg_sl [.int (0), .int (6)] ++ List.replicate (2 - (lg_sl [.int (0), .int (6)]).length) Slot.unset).toArray = ls at hl ⊢
  have hl : lv_has ls 2 [(0, .int (0)), (1, .int (6))] := hl
  refine lv_iload_n hx hb dL_low_0 rfl (lv_at hl 0 rfl) ?_
  refine lv_ldc (v := 2147483647) hx hb hown (hts (.constant RL 9 (2147483647)) (by decide +kernel)) dL_low_1 ?_
  refine lv_iand hx hb dL_low_3 ?_
  refine b_ti (y := 0) (by decide) ?_
  refine lv_iload_n hx hb dL_low_4 rfl (lv_at hl 1 rfl) ?_
  refine lv_irem hx hb dL_low_5 (by decide) ?_
  refine b_ti (y := 0) (by decide) ?_
  exact W.iret hx hb hr (fun t ht _ => ⟨_, rfl, rfl, ht⟩) (fun _ h => nomatch h) dL_low_6

abbrev rmL_low_20 : Room := ({ frames := 0, cells := 0, slots := 0, locals := 0 } : Room)
set_option maxHeartbeats 4000000 in
set_option maxRecDepth 100000 in
theorem c_L_low_20 (ll : Launch)   : Met ll yL_low wsL_low rmL_low_20 (va_Pc [.int (0), .int (20)] (fun _ => True)) (vp_Si (fun rr => rr = 0)) 0 0 (fun _ => False) := by
  refine Met.ofW (cc := cL_low) (maxL := 2) (ret := (some .int)) (by decide) rfl ?_
  intro pp ee ss mm ar bel mth cde s₁ B hml hv
  obtain ⟨rfl, -⟩ := hv
  have hx := B.exec
  have hb := B.bytes
  have hr := B.returns
  have hts := atoms_spec (ws := wsL_low) B.pre
  have hown : ss.vm.findClass RL = some mm.cls := findClass_of_methodNamed B.named
  have hlocks := B.notSynchronized
  have hl := lv_entry [.int (0), .int (20)] (n := 2) (Nat.le_of_ble_eq_true rfl)
  rw [lg_entry_eq]
  generalize (lg_sl [.int (0), .int (20)] ++ List.replicate (2 - (lg_sl [.int (0), .int (20)]).length) Slot.unset).toArray = ls at hl ⊢
  have hl : lv_has ls 2 [(0, .int (0)), (1, .int (20))] := hl
  refine lv_iload_n hx hb dL_low_0 rfl (lv_at hl 0 rfl) ?_
  refine lv_ldc (v := 2147483647) hx hb hown (hts (.constant RL 9 (2147483647)) (by decide +kernel)) dL_low_1 ?_
  refine lv_iand hx hb dL_low_3 ?_
  refine b_ti (y := 0) (by decide) ?_
  refine lv_iload_n hx hb dL_low_4 rfl (lv_at hl 1 rfl) ?_
  refine lv_irem hx hb dL_low_5 (by decide) ?_
  refine b_ti (y := 0) (by decide) ?_
  exact W.iret hx hb hr (fun t ht _ => ⟨_, rfl, rfl, ht⟩) (fun _ h => nomatch h) dL_low_6

abbrev rmL_low_30 : Room := ({ frames := 0, cells := 0, slots := 0, locals := 0 } : Room)
set_option maxHeartbeats 4000000 in
set_option maxRecDepth 100000 in
theorem c_L_low_30 (ll : Launch)   : Met ll yL_low wsL_low rmL_low_30 (va_Pc [.int (0), .int (30)] (fun _ => True)) (vp_Si (fun rr => rr = 0)) 0 0 (fun _ => False) := by
  refine Met.ofW (cc := cL_low) (maxL := 2) (ret := (some .int)) (by decide) rfl ?_
  intro pp ee ss mm ar bel mth cde s₁ B hml hv
  obtain ⟨rfl, -⟩ := hv
  have hx := B.exec
  have hb := B.bytes
  have hr := B.returns
  have hts := atoms_spec (ws := wsL_low) B.pre
  have hown : ss.vm.findClass RL = some mm.cls := findClass_of_methodNamed B.named
  have hlocks := B.notSynchronized
  have hl := lv_entry [.int (0), .int (30)] (n := 2) (Nat.le_of_ble_eq_true rfl)
  rw [lg_entry_eq]
  generalize (lg_sl [.int (0), .int (30)] ++ List.replicate (2 - (lg_sl [.int (0), .int (30)]).length) Slot.unset).toArray = ls at hl ⊢
  have hl : lv_has ls 2 [(0, .int (0)), (1, .int (30))] := hl
  refine lv_iload_n hx hb dL_low_0 rfl (lv_at hl 0 rfl) ?_
  refine lv_ldc (v := 2147483647) hx hb hown (hts (.constant RL 9 (2147483647)) (by decide +kernel)) dL_low_1 ?_
  refine lv_iand hx hb dL_low_3 ?_
  refine b_ti (y := 0) (by decide) ?_
  refine lv_iload_n hx hb dL_low_4 rfl (lv_at hl 1 rfl) ?_
  refine lv_irem hx hb dL_low_5 (by decide) ?_
  refine b_ti (y := 0) (by decide) ?_
  exact W.iret hx hb hr (fun t ht _ => ⟨_, rfl, rfl, ht⟩) (fun _ h => nomatch h) dL_low_6

abbrev rmL_low_2000 : Room := ({ frames := 0, cells := 0, slots := 0, locals := 0 } : Room)
set_option maxHeartbeats 4000000 in
set_option maxRecDepth 100000 in
theorem c_L_low_2000 (ll : Launch)   : Met ll yL_low wsL_low rmL_low_2000 (va_Pc [.int (0), .int (2000)] (fun _ => True)) (vp_Si (fun rr => rr = 0)) 0 0 (fun _ => False) := by
  refine Met.ofW (cc := cL_low) (maxL := 2) (ret := (some .int)) (by decide) rfl ?_
  intro pp ee ss mm ar bel mth cde s₁ B hml hv
  obtain ⟨rfl, -⟩ := hv
  have hx := B.exec
  have hb := B.bytes
  have hr := B.returns
  have hts := atoms_spec (ws := wsL_low) B.pre
  have hown : ss.vm.findClass RL = some mm.cls := findClass_of_methodNamed B.named
  have hlocks := B.notSynchronized
  have hl := lv_entry [.int (0), .int (2000)] (n := 2) (Nat.le_of_ble_eq_true rfl)
  rw [lg_entry_eq]
  generalize (lg_sl [.int (0), .int (2000)] ++ List.replicate (2 - (lg_sl [.int (0), .int (2000)]).length) Slot.unset).toArray = ls at hl ⊢
  have hl : lv_has ls 2 [(0, .int (0)), (1, .int (2000))] := hl
  refine lv_iload_n hx hb dL_low_0 rfl (lv_at hl 0 rfl) ?_
  refine lv_ldc (v := 2147483647) hx hb hown (hts (.constant RL 9 (2147483647)) (by decide +kernel)) dL_low_1 ?_
  refine lv_iand hx hb dL_low_3 ?_
  refine b_ti (y := 0) (by decide) ?_
  refine lv_iload_n hx hb dL_low_4 rfl (lv_at hl 1 rfl) ?_
  refine lv_irem hx hb dL_low_5 (by decide) ?_
  refine b_ti (y := 0) (by decide) ?_
  exact W.iret hx hb hr (fun t ht _ => ⟨_, rfl, rfl, ht⟩) (fun _ h => nomatch h) dL_low_6

abbrev rmL_floor_1 : Room := ({ frames := 0, cells := 0, slots := 0, locals := 0 } : Room)
set_option maxHeartbeats 4000000 in
set_option maxRecDepth 100000 in
theorem c_L_floor_1 (ll : Launch)   : Met ll yL_floor wsL_floor rmL_floor_1 (va_Pc [.long (0), .long (1)] (fun _ => True)) (vp_Sl (fun rr => rr = 0)) 0 0 (fun _ => False) := by
  refine Met.ofW (cc := cL_floor) (maxL := 4) (ret := (some .long)) (by decide) rfl ?_
  intro pp ee ss mm ar bel mth cde s₁ B hml hv
  obtain ⟨rfl, -⟩ := hv
  have hx := B.exec
  have hb := B.bytes
  have hr := B.returns
  have hts := atoms_spec (ws := wsL_floor) B.pre
  have hown : ss.vm.findClass RL = some mm.cls := findClass_of_methodNamed B.named
  have hlocks := B.notSynchronized
  have hl := lv_entry [.long (0), .long (1)] (n := 4) (Nat.le_of_ble_eq_true rfl)
  rw [lg_entry_eq]
  generalize (lg_sl [.long (0), .long (1)] ++ List.replicate (4 - (lg_sl [.long (0), .long (1)]).length) Slot.unset).toArray = ls at hl ⊢
  have hl : lv_has ls 4 [(0, .long (0)), (2, .long (1))] := hl
  refine lv_lload_n hx hb dL_floor_0 rfl (lv_at hl 0 rfl) ?_
  refine lv_lconst (v := 0) hx hb dL_floor_1 (by decide) ?_
  refine W.lcmp hx hb dL_floor_2 ?_
  refine b_ti (y := 0) (by decide) ?_
  refine lv_if_lt (tgt := 12) hx hb dL_floor_3 (by decide) (fun c_1 => ?_) (fun c_1 => ?_)
  · have n_1 := c_1
    exact absurd c_1 (by decide)
  · have n_1 := c_1
    refine lv_lload_n hx hb dL_floor_6 rfl (lv_at hl 0 rfl) ?_
    refine lv_lload_n hx hb dL_floor_7 rfl (lv_at hl 1 rfl) ?_
    refine lv_ldiv hx hb dL_floor_8 (by decide) ?_
    refine b_tl (y := 0) (by decide) ?_
    refine lv_goto (tgt := 20) hx hb dL_floor_9 (by decide) ?_
    exact W.lret hx hb hr (fun t ht _ => ⟨_, rfl, rfl, ht⟩) (fun _ h => nomatch h) dL_floor_20

abbrev rmL_floor_100 : Room := ({ frames := 0, cells := 0, slots := 0, locals := 0 } : Room)
set_option maxHeartbeats 4000000 in
set_option maxRecDepth 100000 in
theorem c_L_floor_100 (ll : Launch)   : Met ll yL_floor wsL_floor rmL_floor_100 (va_Pc [.long (0), .long (100)] (fun _ => True)) (vp_Sl (fun rr => rr = 0)) 0 0 (fun _ => False) := by
  refine Met.ofW (cc := cL_floor) (maxL := 4) (ret := (some .long)) (by decide) rfl ?_
  intro pp ee ss mm ar bel mth cde s₁ B hml hv
  obtain ⟨rfl, -⟩ := hv
  have hx := B.exec
  have hb := B.bytes
  have hr := B.returns
  have hts := atoms_spec (ws := wsL_floor) B.pre
  have hown : ss.vm.findClass RL = some mm.cls := findClass_of_methodNamed B.named
  have hlocks := B.notSynchronized
  have hl := lv_entry [.long (0), .long (100)] (n := 4) (Nat.le_of_ble_eq_true rfl)
  rw [lg_entry_eq]
  generalize (lg_sl [.long (0), .long (100)] ++ List.replicate (4 - (lg_sl [.long (0), .long (100)]).length) Slot.unset).toArray = ls at hl ⊢
  have hl : lv_has ls 4 [(0, .long (0)), (2, .long (100))] := hl
  refine lv_lload_n hx hb dL_floor_0 rfl (lv_at hl 0 rfl) ?_
  refine lv_lconst (v := 0) hx hb dL_floor_1 (by decide) ?_
  refine W.lcmp hx hb dL_floor_2 ?_
  refine b_ti (y := 0) (by decide) ?_
  refine lv_if_lt (tgt := 12) hx hb dL_floor_3 (by decide) (fun c_1 => ?_) (fun c_1 => ?_)
  · have n_1 := c_1
    exact absurd c_1 (by decide)
  · have n_1 := c_1
    refine lv_lload_n hx hb dL_floor_6 rfl (lv_at hl 0 rfl) ?_
    refine lv_lload_n hx hb dL_floor_7 rfl (lv_at hl 1 rfl) ?_
    refine lv_ldiv hx hb dL_floor_8 (by decide) ?_
    refine b_tl (y := 0) (by decide) ?_
    refine lv_goto (tgt := 20) hx hb dL_floor_9 (by decide) ?_
    exact W.lret hx hb hr (fun t ht _ => ⟨_, rfl, rfl, ht⟩) (fun _ h => nomatch h) dL_floor_20

abbrev rmL_at : Room := ({ frames := 1, cells := 0, slots := 0, locals := 23 } : Room)
set_option maxHeartbeats 4000000 in
set_option maxRecDepth 100000 in
theorem c_L_at (ll : Launch)   : Met ll yL_at wsL_at rmL_at (va_Pc [.int (0), .int (100)] (fun _ => True)) (vp_Si (fun rr => rr = 0)) 0 0 (fun _ => False) := by
  refine Met.ofW (cc := cL_at) (maxL := 2) (ret := (some .int)) (by decide) rfl ?_
  intro pp ee ss mm ar bel mth cde s₁ B hml hv
  obtain ⟨rfl, -⟩ := hv
  have hx := B.exec
  have hb := B.bytes
  have hr := B.returns
  have hts := atoms_spec (ws := wsL_at) B.pre
  have hown : ss.vm.findClass RL = some mm.cls := findClass_of_methodNamed B.named
  have hlocks := B.notSynchronized
  have hl := lv_entry [.int (0), .int (100)] (n := 2) (Nat.le_of_ble_eq_true rfl)
  rw [lg_entry_eq]
  generalize (lg_sl [.int (0), .int (100)] ++ List.replicate (2 - (lg_sl [.int (0), .int (100)]).length) Slot.unset).toArray = ls at hl ⊢
  have hl : lv_has ls 2 [(0, .int (0)), (1, .int (100))] := hl
  refine lv_iload_n hx hb dL_at_0 rfl (lv_at hl 0 rfl) ?_
  refine lv_i2l (v := (0 : Int32).toInt64) hx hb dL_at_1 rfl ?_
  refine b_tl (y := 0) (by decide) ?_
  refine lv_iload_n hx hb dL_at_2 rfl (lv_at hl 1 rfl) ?_
  refine lv_i2l (v := (100 : Int32).toInt64) hx hb dL_at_3 rfl ?_
  refine b_tl (y := 100) (by decide) ?_
  refine lv_lmul hx hb dL_at_4 ?_
  refine b_tl (y := 0) (by decide) ?_
  refine lv_ldc2 (v := 100) hx hb hown (hts (.constantLong RL 44 (100)) (by decide +kernel)) dL_at_5 ?_
  refine b_csl (v := 0) (W.runS (As := [.long (0), .long ((100))]) (rest := []) ⟨hx, hb, hml, hown, hts⟩ (c_L_floor_100 ll  ) (va_cwS 2 hts gL_at_L_floor rfl rfl rfl (by decide +kernel) ⟨Nat.le_of_ble_eq_true rfl, Nat.le_of_ble_eq_true rfl⟩) ⟨PT.blind, PT.to⟩ rfl rfl hl.1 rfl (lv_room (Nat.le_of_ble_eq_true rfl)) dL_at_8 ⟨Nat.le_of_ble_eq_true rfl, Nat.le_of_ble_eq_true rfl⟩) ?_
  refine lv_l2i (v := (0 : Int64).toInt32) hx hb dL_at_11 rfl ?_
  refine b_ti (y := 0) (by decide) ?_
  exact W.iret hx hb hr (fun t ht _ => ⟨_, rfl, rfl, ht⟩) (fun _ h => nomatch h) dL_at_12

abbrev rmL_common : Room := ({ frames := 0, cells := 0, slots := 0, locals := 0 } : Room)
set_option maxHeartbeats 4000000 in
set_option maxRecDepth 100000 in
theorem c_L_common (ll : Launch)   : Met ll yL_common wsL_common rmL_common (va_Pc [.long (1), .long (0)] (fun _ => True)) (vp_Sl (fun rr => rr = 1)) 0 0 (fun _ => False) := by
  refine Met.ofW (cc := cL_common) (maxL := 10) (ret := (some .long)) (by decide) rfl ?_
  intro pp ee ss mm ar bel mth cde s₁ B hml hv
  obtain ⟨rfl, -⟩ := hv
  have hx := B.exec
  have hb := B.bytes
  have hr := B.returns
  have hts := atoms_spec (ws := wsL_common) B.pre
  have hown : ss.vm.findClass RL = some mm.cls := findClass_of_methodNamed B.named
  have hlocks := B.notSynchronized
  have hl := lv_entry [.long (1), .long (0)] (n := 10) (Nat.le_of_ble_eq_true rfl)
  rw [lg_entry_eq]
  generalize (lg_sl [.long (1), .long (0)] ++ List.replicate (10 - (lg_sl [.long (1), .long (0)]).length) Slot.unset).toArray = ls at hl ⊢
  have hl : lv_has ls 10 [(0, .long (1)), (2, .long (0))] := hl
  refine lv_lload_n hx hb dL_common_0 rfl (lv_at hl 0 rfl) ?_
  refine lv_lstore (lv' := [(4, .long (1)), (0, .long (1)), (2, .long (0))]) hx hb dL_common_1 hl (by decide) rfl (fun ls hl => ?_)
  refine lv_lload_n hx hb dL_common_3 rfl (lv_at hl 2 rfl) ?_
  refine lv_lstore (lv' := [(6, .long (0)), (4, .long (1)), (0, .long (1)), (2, .long (0))]) hx hb dL_common_4 hl (by decide) rfl (fun ls hl => ?_)
  refine lv_lload hx hb dL_common_6 (lv_at hl 0 rfl) ?_
  refine lv_lconst (v := 0) hx hb dL_common_8 (by decide) ?_
  refine W.lcmp hx hb dL_common_9 ?_
  refine b_ti (y := 0) (by decide) ?_
  refine lv_if_eq (tgt := 31) hx hb dL_common_10 (by decide) (fun c_1 => ?_) (fun c_1 => ?_)
  · have n_1 := c_1
    refine lv_lload hx hb dL_common_31 (lv_at hl 1 rfl) ?_
    exact W.lret hx hb hr (fun t ht _ => ⟨_, rfl, rfl, ht⟩) (fun _ h => nomatch h) dL_common_33
  · have n_1 := c_1
    exact absurd c_1 (by decide)

abbrev rmL_inverse_p1 : Room := ({ frames := 0, cells := 0, slots := 0, locals := 0 } : Room)
set_option maxHeartbeats 4000000 in
set_option maxRecDepth 100000 in
theorem c_L_inverse_p1 (ll : Launch)   : Met ll yL_inverse wsL_inverse rmL_inverse_p1 (va_Pc [.long (1), .long (1000000007)] (fun _ => True)) (vp_Sl (fun rr => rr = 1)) 0 0 (fun _ => False) := by
  refine Met.ofW (cc := cL_inverse) (maxL := 10) (ret := (some .long)) (by decide) rfl ?_
  intro pp ee ss mm ar bel mth cde s₁ B hml hv
  obtain ⟨rfl, -⟩ := hv
  have hx := B.exec
  have hb := B.bytes
  have hr := B.returns
  have hts := atoms_spec (ws := wsL_inverse) B.pre
  have hown : ss.vm.findClass RL = some mm.cls := findClass_of_methodNamed B.named
  have hlocks := B.notSynchronized
  have hl := lv_entry [.long (1), .long (1000000007)] (n := 10) (Nat.le_of_ble_eq_true rfl)
  rw [lg_entry_eq]
  generalize (lg_sl [.long (1), .long (1000000007)] ++ List.replicate (10 - (lg_sl [.long (1), .long (1000000007)]).length) Slot.unset).toArray = ls at hl ⊢
  have hl : lv_has ls 10 [(0, .long (1)), (2, .long (1000000007))] := hl
  generalize hZ : MQ bel _ _ ss _ _ _ = Z
  refine lv_lconst (v := 1) hx hb dL_inverse_0 (by decide) ?_
  refine lv_lstore (lv' := [(4, .long (1)), (0, .long (1)), (2, .long (1000000007))]) hx hb dL_inverse_1 hl (by decide) rfl (fun ls hl => ?_)
  refine lv_lload_n hx hb dL_inverse_3 rfl (lv_at hl 1 rfl) ?_
  refine lv_lload_n hx hb dL_inverse_4 rfl (lv_at hl 2 rfl) ?_
  refine lv_lrem hx hb dL_inverse_5 (by decide) ?_
  refine b_tl (y := 1) (by decide) ?_
  refine lv_lstore (lv' := [(6, .long (1)), (4, .long (1)), (0, .long (1)), (2, .long (1000000007))]) hx hb dL_inverse_6 hl (by decide) rfl (fun ls hl => ?_)
  refine lv_lload_n hx hb dL_inverse_8 rfl (lv_at hl 3 rfl) ?_
  refine lv_ldc2 (v := 2) hx hb hown (hts (.constantLong RL 55 (2)) (by decide +kernel)) dL_inverse_9 ?_
  refine lv_lsub hx hb dL_inverse_12 ?_
  refine b_tl (y := 1000000005) (by decide) ?_
  refine b_tl (y := lN (1000000005)) (by decide) ?_
  refine lv_lstore (lv' := [(8, .long (lN (1000000005))), (6, .long (1)), (4, .long (1)), (0, .long (1)), (2, .long (1000000007))]) hx hb dL_inverse_13 hl (by decide) rfl (fun ls hl => ?_)
  have L1 : ∀ (n1 k1 : Nat) (m : Nat), k1 + n1 = 31 → m < 2 ^ n1 → m < 2147483648 → ∀ (ls : Array Slot), lv_has ls 10 [(8, .long (lN (m))), (6, .long (1)), (4, .long (1)), (0, .long (1)), (2, .long (1000000007))] → W pp ll ee rmL_inverse_p1 ss mm (([.long (1), .long (1000000007)] : List Value).toArray) bel mth cde ss.heap [] 0 0 Z (F0 mm 15 ls []) := by
    intro n1
    induction n1 with
    | zero =>
      intro k1 m hk1 hy1_0 hy1_1 ls hl
      have hk1b : 31 = k1 := by omega
      refine lv_lload hx hb dL_inverse_15 (lv_at hl 0 rfl) ?_
      refine lv_lconst (v := 0) hx hb dL_inverse_17 (by decide) ?_
      refine W.lcmp hx hb dL_inverse_18 ?_
      refine lv_if_le (tgt := 67) hx hb dL_inverse_19 (by decide) (fun c_1 => ?_) (fun c_1 => ?_)
      · have n_1 : lN (m) ≤ 0 := (lg_cmp_le _ _).mp c_1
        refine lv_lload hx hb dL_inverse_67 (lv_at hl 2 rfl) ?_
        subst hZ; exact W.lret hx hb hr (fun t ht _ => ⟨_, rfl, rfl, ht⟩) (fun _ h => nomatch h) dL_inverse_69
      · have n_1 : ¬ (lN (m) ≤ 0) := fun h => c_1 ((lg_cmp_le _ _).mpr h)
        exact absurd (by rw [Nat.lt_one_iff.mp hy1_0]; decide) n_1
    | succ n1 ih1 =>
      intro k1 m hk1 hy1_0 hy1_1 ls hl
      have hk1b : k1 < 31 := by omega
      refine lv_lload hx hb dL_inverse_15 (lv_at hl 0 rfl) ?_
      refine lv_lconst (v := 0) hx hb dL_inverse_17 (by decide) ?_
      refine W.lcmp hx hb dL_inverse_18 ?_
      refine lv_if_le (tgt := 67) hx hb dL_inverse_19 (by decide) (fun c_2 => ?_) (fun c_2 => ?_)
      · have n_2 : lN (m) ≤ 0 := (lg_cmp_le _ _).mp c_2
        refine lv_lload hx hb dL_inverse_67 (lv_at hl 2 rfl) ?_
        subst hZ; exact W.lret hx hb hr (fun t ht _ => ⟨_, rfl, rfl, ht⟩) (fun _ h => nomatch h) dL_inverse_69
      · have n_2 : ¬ (lN (m) ≤ 0) := fun h => c_2 ((lg_cmp_le _ _).mpr h)
        refine lv_lload hx hb dL_inverse_22 (lv_at hl 0 rfl) ?_
        refine lv_ldc2 (v := 2) hx hb hown (hts (.constantLong RL 55 (2)) (by decide +kernel)) dL_inverse_24 ?_
        refine lv_lrem hx hb dL_inverse_27 (by decide) ?_
        refine lv_lconst (v := 1) hx hb dL_inverse_28 (by decide) ?_
        refine W.lcmp hx hb dL_inverse_29 ?_
        refine lv_if_ne (tgt := 43) hx hb dL_inverse_30 (by decide) (fun c_3 => ?_) (fun c_3 => ?_)
        · have n_3 : ¬ ((lN (m)) - (lN (m)) / ((2)) * ((2)) = 1) := fun h => c_3 ((lg_cmp_eq _ _).mpr h)
          refine lv_lload hx hb dL_inverse_43 (lv_at hl 2 rfl) ?_
          refine lv_lstore (lv' := [(4, .long (1)), (8, .long (lN (m))), (6, .long (1)), (0, .long (1)), (2, .long (1000000007))]) hx hb dL_inverse_45 hl (by decide) rfl (fun ls hl => ?_)
          refine lv_lload hx hb dL_inverse_47 (lv_at hl 2 rfl) ?_
          refine lv_lload hx hb dL_inverse_49 (lv_at hl 2 rfl) ?_
          refine lv_lmul hx hb dL_inverse_51 ?_
          refine b_tl (y := 1) (by decide) ?_
          refine lv_lload_n hx hb dL_inverse_52 rfl (lv_at hl 4 rfl) ?_
          refine lv_lrem hx hb dL_inverse_53 (by decide) ?_
          refine b_tl (y := 1) (by decide) ?_
          refine lv_lstore (lv' := [(6, .long (1)), (4, .long (1)), (8, .long (lN (m))), (0, .long (1)), (2, .long (1000000007))]) hx hb dL_inverse_54 hl (by decide) rfl (fun ls hl => ?_)
          refine lv_lload hx hb dL_inverse_56 (lv_at hl 2 rfl) ?_
          refine lv_ldc2 (v := 2) hx hb hown (hts (.constantLong RL 55 (2)) (by decide +kernel)) dL_inverse_58 ?_
          refine lv_ldiv hx hb dL_inverse_61 (by decide) ?_
          refine b_tl (y := lN (m / 2)) (ln_half hy1_1) ?_
          refine lv_lstore (lv' := [(8, .long (lN (m / 2))), (6, .long (1)), (4, .long (1)), (0, .long (1)), (2, .long (1000000007))]) hx hb dL_inverse_62 hl (by decide) rfl (fun ls hl => ?_)
          refine lv_goto (tgt := 15) hx hb dL_inverse_64 (by decide) ?_
          exact ih1 (k1 + 1) (m / 2) (by omega) (hf_lt hy1_0) (by omega) ls (lv_sub hl [0, 1, 2, 3, 4] rfl)
        · have n_3 : (lN (m)) - (lN (m)) / ((2)) * ((2)) = 1 := (lg_cmp_eq _ _).mp c_3
          refine lv_lload hx hb dL_inverse_33 (lv_at hl 2 rfl) ?_
          refine lv_lload hx hb dL_inverse_35 (lv_at hl 1 rfl) ?_
          refine lv_lmul hx hb dL_inverse_37 ?_
          refine b_tl (y := 1) (by decide) ?_
          refine lv_lload_n hx hb dL_inverse_38 rfl (lv_at hl 4 rfl) ?_
          refine lv_lrem hx hb dL_inverse_39 (by decide) ?_
          refine b_tl (y := 1) (by decide) ?_
          refine lv_goto (tgt := 45) hx hb dL_inverse_40 (by decide) ?_
          refine lv_lstore (lv' := [(4, .long (1)), (8, .long (lN (m))), (6, .long (1)), (0, .long (1)), (2, .long (1000000007))]) hx hb dL_inverse_45 hl (by decide) rfl (fun ls hl => ?_)
          refine lv_lload hx hb dL_inverse_47 (lv_at hl 2 rfl) ?_
          refine lv_lload hx hb dL_inverse_49 (lv_at hl 2 rfl) ?_
          refine lv_lmul hx hb dL_inverse_51 ?_
          refine b_tl (y := 1) (by decide) ?_
          refine lv_lload_n hx hb dL_inverse_52 rfl (lv_at hl 4 rfl) ?_
          refine lv_lrem hx hb dL_inverse_53 (by decide) ?_
          refine b_tl (y := 1) (by decide) ?_
          refine lv_lstore (lv' := [(6, .long (1)), (4, .long (1)), (8, .long (lN (m))), (0, .long (1)), (2, .long (1000000007))]) hx hb dL_inverse_54 hl (by decide) rfl (fun ls hl => ?_)
          refine lv_lload hx hb dL_inverse_56 (lv_at hl 2 rfl) ?_
          refine lv_ldc2 (v := 2) hx hb hown (hts (.constantLong RL 55 (2)) (by decide +kernel)) dL_inverse_58 ?_
          refine lv_ldiv hx hb dL_inverse_61 (by decide) ?_
          refine b_tl (y := lN (m / 2)) (ln_half hy1_1) ?_
          refine lv_lstore (lv' := [(8, .long (lN (m / 2))), (6, .long (1)), (4, .long (1)), (0, .long (1)), (2, .long (1000000007))]) hx hb dL_inverse_62 hl (by decide) rfl (fun ls hl => ?_)
          refine lv_goto (tgt := 15) hx hb dL_inverse_64 (by decide) ?_
          exact ih1 (k1 + 1) (m / 2) (by omega) (hf_lt hy1_0) (by omega) ls (lv_sub hl [0, 1, 2, 3, 4] rfl)
  exact L1 (31) 0 1000000005 (by omega) (by decide) (by decide) ls (lv_sub hl [0, 1, 2, 3, 4] rfl)

abbrev rmL_inverse_p2 : Room := ({ frames := 0, cells := 0, slots := 0, locals := 0 } : Room)
set_option maxHeartbeats 4000000 in
set_option maxRecDepth 100000 in
theorem c_L_inverse_p2 (ll : Launch)   : Met ll yL_inverse wsL_inverse rmL_inverse_p2 (va_Pc [.long (1), .long (998244353)] (fun _ => True)) (vp_Sl (fun rr => rr = 1)) 0 0 (fun _ => False) := by
  refine Met.ofW (cc := cL_inverse) (maxL := 10) (ret := (some .long)) (by decide) rfl ?_
  intro pp ee ss mm ar bel mth cde s₁ B hml hv
  obtain ⟨rfl, -⟩ := hv
  have hx := B.exec
  have hb := B.bytes
  have hr := B.returns
  have hts := atoms_spec (ws := wsL_inverse) B.pre
  have hown : ss.vm.findClass RL = some mm.cls := findClass_of_methodNamed B.named
  have hlocks := B.notSynchronized
  have hl := lv_entry [.long (1), .long (998244353)] (n := 10) (Nat.le_of_ble_eq_true rfl)
  rw [lg_entry_eq]
  generalize (lg_sl [.long (1), .long (998244353)] ++ List.replicate (10 - (lg_sl [.long (1), .long (998244353)]).length) Slot.unset).toArray = ls at hl ⊢
  have hl : lv_has ls 10 [(0, .long (1)), (2, .long (998244353))] := hl
  generalize hZ : MQ bel _ _ ss _ _ _ = Z
  refine lv_lconst (v := 1) hx hb dL_inverse_0 (by decide) ?_
  refine lv_lstore (lv' := [(4, .long (1)), (0, .long (1)), (2, .long (998244353))]) hx hb dL_inverse_1 hl (by decide) rfl (fun ls hl => ?_)
  refine lv_lload_n hx hb dL_inverse_3 rfl (lv_at hl 1 rfl) ?_
  refine lv_lload_n hx hb dL_inverse_4 rfl (lv_at hl 2 rfl) ?_
  refine lv_lrem hx hb dL_inverse_5 (by decide) ?_
  refine b_tl (y := 1) (by decide) ?_
  refine lv_lstore (lv' := [(6, .long (1)), (4, .long (1)), (0, .long (1)), (2, .long (998244353))]) hx hb dL_inverse_6 hl (by decide) rfl (fun ls hl => ?_)
  refine lv_lload_n hx hb dL_inverse_8 rfl (lv_at hl 3 rfl) ?_
  refine lv_ldc2 (v := 2) hx hb hown (hts (.constantLong RL 55 (2)) (by decide +kernel)) dL_inverse_9 ?_
  refine lv_lsub hx hb dL_inverse_12 ?_
  refine b_tl (y := 998244351) (by decide) ?_
  refine b_tl (y := lN (998244351)) (by decide) ?_
  refine lv_lstore (lv' := [(8, .long (lN (998244351))), (6, .long (1)), (4, .long (1)), (0, .long (1)), (2, .long (998244353))]) hx hb dL_inverse_13 hl (by decide) rfl (fun ls hl => ?_)
  have L1 : ∀ (n1 k1 : Nat) (m : Nat), k1 + n1 = 31 → m < 2 ^ n1 → m < 2147483648 → ∀ (ls : Array Slot), lv_has ls 10 [(8, .long (lN (m))), (6, .long (1)), (4, .long (1)), (0, .long (1)), (2, .long (998244353))] → W pp ll ee rmL_inverse_p2 ss mm (([.long (1), .long (998244353)] : List Value).toArray) bel mth cde ss.heap [] 0 0 Z (F0 mm 15 ls []) := by
    intro n1
    induction n1 with
    | zero =>
      intro k1 m hk1 hy1_0 hy1_1 ls hl
      have hk1b : 31 = k1 := by omega
      refine lv_lload hx hb dL_inverse_15 (lv_at hl 0 rfl) ?_
      refine lv_lconst (v := 0) hx hb dL_inverse_17 (by decide) ?_
      refine W.lcmp hx hb dL_inverse_18 ?_
      refine lv_if_le (tgt := 67) hx hb dL_inverse_19 (by decide) (fun c_1 => ?_) (fun c_1 => ?_)
      · have n_1 : lN (m) ≤ 0 := (lg_cmp_le _ _).mp c_1
        refine lv_lload hx hb dL_inverse_67 (lv_at hl 2 rfl) ?_
        subst hZ; exact W.lret hx hb hr (fun t ht _ => ⟨_, rfl, rfl, ht⟩) (fun _ h => nomatch h) dL_inverse_69
      · have n_1 : ¬ (lN (m) ≤ 0) := fun h => c_1 ((lg_cmp_le _ _).mpr h)
        exact absurd (by rw [Nat.lt_one_iff.mp hy1_0]; decide) n_1
    | succ n1 ih1 =>
      intro k1 m hk1 hy1_0 hy1_1 ls hl
      have hk1b : k1 < 31 := by omega
      refine lv_lload hx hb dL_inverse_15 (lv_at hl 0 rfl) ?_
      refine lv_lconst (v := 0) hx hb dL_inverse_17 (by decide) ?_
      refine W.lcmp hx hb dL_inverse_18 ?_
      refine lv_if_le (tgt := 67) hx hb dL_inverse_19 (by decide) (fun c_2 => ?_) (fun c_2 => ?_)
      · have n_2 : lN (m) ≤ 0 := (lg_cmp_le _ _).mp c_2
        refine lv_lload hx hb dL_inverse_67 (lv_at hl 2 rfl) ?_
        subst hZ; exact W.lret hx hb hr (fun t ht _ => ⟨_, rfl, rfl, ht⟩) (fun _ h => nomatch h) dL_inverse_69
      · have n_2 : ¬ (lN (m) ≤ 0) := fun h => c_2 ((lg_cmp_le _ _).mpr h)
        refine lv_lload hx hb dL_inverse_22 (lv_at hl 0 rfl) ?_
        refine lv_ldc2 (v := 2) hx hb hown (hts (.constantLong RL 55 (2)) (by decide +kernel)) dL_inverse_24 ?_
        refine lv_lrem hx hb dL_inverse_27 (by decide) ?_
        refine lv_lconst (v := 1) hx hb dL_inverse_28 (by decide) ?_
        refine W.lcmp hx hb dL_inverse_29 ?_
        refine lv_if_ne (tgt := 43) hx hb dL_inverse_30 (by decide) (fun c_3 => ?_) (fun c_3 => ?_)
        · have n_3 : ¬ ((lN (m)) - (lN (m)) / ((2)) * ((2)) = 1) := fun h => c_3 ((lg_cmp_eq _ _).mpr h)
          refine lv_lload hx hb dL_inverse_43 (lv_at hl 2 rfl) ?_
          refine lv_lstore (lv' := [(4, .long (1)), (8, .long (lN (m))), (6, .long (1)), (0, .long (1)), (2, .long (998244353))]) hx hb dL_inverse_45 hl (by decide) rfl (fun ls hl => ?_)
          refine lv_lload hx hb dL_inverse_47 (lv_at hl 2 rfl) ?_
          refine lv_lload hx hb dL_inverse_49 (lv_at hl 2 rfl) ?_
          refine lv_lmul hx hb dL_inverse_51 ?_
          refine b_tl (y := 1) (by decide) ?_
          refine lv_lload_n hx hb dL_inverse_52 rfl (lv_at hl 4 rfl) ?_
          refine lv_lrem hx hb dL_inverse_53 (by decide) ?_
          refine b_tl (y := 1) (by decide) ?_
          refine lv_lstore (lv' := [(6, .long (1)), (4, .long (1)), (8, .long (lN (m))), (0, .long (1)), (2, .long (998244353))]) hx hb dL_inverse_54 hl (by decide) rfl (fun ls hl => ?_)
          refine lv_lload hx hb dL_inverse_56 (lv_at hl 2 rfl) ?_
          refine lv_ldc2 (v := 2) hx hb hown (hts (.constantLong RL 55 (2)) (by decide +kernel)) dL_inverse_58 ?_
          refine lv_ldiv hx hb dL_inverse_61 (by decide) ?_
          refine b_tl (y := lN (m / 2)) (ln_half hy1_1) ?_
          refine lv_lstore (lv' := [(8, .long (lN (m / 2))), (6, .long (1)), (4, .long (1)), (0, .long (1)), (2, .long (998244353))]) hx hb dL_inverse_62 hl (by decide) rfl (fun ls hl => ?_)
          refine lv_goto (tgt := 15) hx hb dL_inverse_64 (by decide) ?_
          exact ih1 (k1 + 1) (m / 2) (by omega) (hf_lt hy1_0) (by omega) ls (lv_sub hl [0, 1, 2, 3, 4] rfl)
        · have n_3 : (lN (m)) - (lN (m)) / ((2)) * ((2)) = 1 := (lg_cmp_eq _ _).mp c_3
          refine lv_lload hx hb dL_inverse_33 (lv_at hl 2 rfl) ?_
          refine lv_lload hx hb dL_inverse_35 (lv_at hl 1 rfl) ?_
          refine lv_lmul hx hb dL_inverse_37 ?_
          refine b_tl (y := 1) (by decide) ?_
          refine lv_lload_n hx hb dL_inverse_38 rfl (lv_at hl 4 rfl) ?_
          refine lv_lrem hx hb dL_inverse_39 (by decide) ?_
          refine b_tl (y := 1) (by decide) ?_
          refine lv_goto (tgt := 45) hx hb dL_inverse_40 (by decide) ?_
          refine lv_lstore (lv' := [(4, .long (1)), (8, .long (lN (m))), (6, .long (1)), (0, .long (1)), (2, .long (998244353))]) hx hb dL_inverse_45 hl (by decide) rfl (fun ls hl => ?_)
          refine lv_lload hx hb dL_inverse_47 (lv_at hl 2 rfl) ?_
          refine lv_lload hx hb dL_inverse_49 (lv_at hl 2 rfl) ?_
          refine lv_lmul hx hb dL_inverse_51 ?_
          refine b_tl (y := 1) (by decide) ?_
          refine lv_lload_n hx hb dL_inverse_52 rfl (lv_at hl 4 rfl) ?_
          refine lv_lrem hx hb dL_inverse_53 (by decide) ?_
          refine b_tl (y := 1) (by decide) ?_
          refine lv_lstore (lv' := [(6, .long (1)), (4, .long (1)), (8, .long (lN (m))), (0, .long (1)), (2, .long (998244353))]) hx hb dL_inverse_54 hl (by decide) rfl (fun ls hl => ?_)
          refine lv_lload hx hb dL_inverse_56 (lv_at hl 2 rfl) ?_
          refine lv_ldc2 (v := 2) hx hb hown (hts (.constantLong RL 55 (2)) (by decide +kernel)) dL_inverse_58 ?_
          refine lv_ldiv hx hb dL_inverse_61 (by decide) ?_
          refine b_tl (y := lN (m / 2)) (ln_half hy1_1) ?_
          refine lv_lstore (lv' := [(8, .long (lN (m / 2))), (6, .long (1)), (4, .long (1)), (0, .long (1)), (2, .long (998244353))]) hx hb dL_inverse_62 hl (by decide) rfl (fun ls hl => ?_)
          refine lv_goto (tgt := 15) hx hb dL_inverse_64 (by decide) ?_
          exact ih1 (k1 + 1) (m / 2) (by omega) (hf_lt hy1_0) (by omega) ls (lv_sub hl [0, 1, 2, 3, 4] rfl)
  exact L1 (31) 0 998244351 (by omega) (by decide) (by decide) ls (lv_sub hl [0, 1, 2, 3, 4] rfl)

abbrev rmL_net : Room := ({ frames := 2, cells := 0, slots := 0, locals := 44 } : Room)
set_option maxHeartbeats 4000000 in
set_option maxRecDepth 100000 in
theorem c_L_net (ll : Launch) (D : va_G) (a : Nat → Nat) (cI cJ : ClassId) (am nx nw : Nat → Int32) (c : Nat) (hc : c < 6) : Met ll yL_net wsL_net rmL_net (va_Pc [.int (nI (c)), .ref (a 24)] (PR D (tyG cI cJ) (KW a cI cJ am nx nw))) (vp_Si (fun rr => rr = 0)) 0 0 (fun _ => False) := by
  refine Met.ofW (cc := cL_net) (maxL := 2) (ret := (some .int)) (by decide) rfl ?_
  intro pp ee ss mm ar bel mth cde s₁ B hml hv
  obtain ⟨rfl, hP, hK, hE⟩ := hv
  have hx := B.exec
  have hb := B.bytes
  have hr := B.returns
  have hts := atoms_spec (ws := wsL_net) B.pre
  have hown : ss.vm.findClass RL = some mm.cls := findClass_of_methodNamed B.named
  have hlocks := B.notSynchronized
  have hl := lv_entry [.int (nI (c)), .ref (a 24)] (n := 2) (Nat.le_of_ble_eq_true rfl)
  rw [lg_entry_eq]
  generalize (lg_sl [.int (nI (c)), .ref (a 24)] ++ List.replicate (2 - (lg_sl [.int (nI (c)), .ref (a 24)]).length) Slot.unset).toArray = ls at hl ⊢
  have hl : lv_has ls 2 [(0, .int (nI (c))), (1, .ref (a 24))] := hl
  refine lv_aload_n hx hb dL_net_0 rfl (lv_at hl 1 rfl) ?_
  refine lv_bipush (v := 7) hx hb dL_net_1 (by decide) ?_
  refine lv_iload_n hx hb dL_net_3 rfl (lv_at hl 0 rfl) ?_
  refine lv_imul hx hb dL_net_4 ?_
  refine b_ti (pk_mul (7) (c)) ?_
  refine b_iald hx hb hK hP 24 0 (f := (bbI 6)) rfl rfl (j := (7) * (c)) (by omega) (by decide) dL_net_5 ?_
  refine b_ti (y := 0) ((kb_v (c) (by omega)).1) ?_
  refine lv_aload_n hx hb dL_net_6 rfl (lv_at hl 1 rfl) ?_
  refine lv_bipush (v := 7) hx hb dL_net_7 (by decide) ?_
  refine lv_iload_n hx hb dL_net_9 rfl (lv_at hl 0 rfl) ?_
  refine lv_imul hx hb dL_net_10 ?_
  refine b_ti (pk_mul (7) (c)) ?_
  refine lv_iconst (v := 4) hx hb dL_net_11 (by decide) ?_
  refine lv_iadd hx hb dL_net_12 ?_
  refine b_ti (nI_add ((7) * (c)) (4)) ?_
  refine b_iald hx hb hK hP 24 0 (f := (bbI 6)) rfl rfl (j := ((7) * (c)) + (4)) (by omega) (by decide) dL_net_13 ?_
  refine b_ti (y := 100) ((kb_v (c) (by omega)).2.2.2.2.1) ?_
  refine b_csi (v := 0) (W.runS (As := [.int (0), .int (100)]) (rest := []) ⟨hx, hb, hml, hown, hts⟩ (c_L_at ll  ) (va_cwS 2 hts gL_net_L_at rfl rfl rfl (by decide +kernel) ⟨Nat.le_of_ble_eq_true rfl, Nat.le_of_ble_eq_true rfl⟩) ⟨PT.blind, PT.to⟩ rfl rfl hl.1 rfl (lv_room (Nat.le_of_ble_eq_true rfl)) dL_net_14 ⟨Nat.le_of_ble_eq_true rfl, Nat.le_of_ble_eq_true rfl⟩) ?_
  refine lv_aload_n hx hb dL_net_17 rfl (lv_at hl 1 rfl) ?_
  refine lv_bipush (v := 7) hx hb dL_net_18 (by decide) ?_
  refine lv_iload_n hx hb dL_net_20 rfl (lv_at hl 0 rfl) ?_
  refine lv_imul hx hb dL_net_21 ?_
  refine b_ti (pk_mul (7) (c)) ?_
  refine lv_iconst (v := 1) hx hb dL_net_22 (by decide) ?_
  refine lv_iadd hx hb dL_net_23 ?_
  refine b_ti (nI_add ((7) * (c)) (1)) ?_
  refine b_iald hx hb hK hP 24 0 (f := (bbI 6)) rfl rfl (j := ((7) * (c)) + (1)) (by omega) (by decide) dL_net_24 ?_
  refine b_ti (y := 0) ((kb_v (c) (by omega)).2.1) ?_
  refine lv_aload_n hx hb dL_net_25 rfl (lv_at hl 1 rfl) ?_
  refine lv_bipush (v := 7) hx hb dL_net_26 (by decide) ?_
  refine lv_iload_n hx hb dL_net_28 rfl (lv_at hl 0 rfl) ?_
  refine lv_imul hx hb dL_net_29 ?_
  refine b_ti (pk_mul (7) (c)) ?_
  refine lv_iconst (v := 4) hx hb dL_net_30 (by decide) ?_
  refine lv_iadd hx hb dL_net_31 ?_
  refine b_ti (nI_add ((7) * (c)) (4)) ?_
  refine b_iald hx hb hK hP 24 0 (f := (bbI 6)) rfl rfl (j := ((7) * (c)) + (4)) (by omega) (by decide) dL_net_32 ?_
  refine b_ti (y := 100) ((kb_v (c) (by omega)).2.2.2.2.1) ?_
  refine b_csi (v := 0) (W.runS (As := [.int (0), .int (100)]) (rest := [.int (0)]) ⟨hx, hb, hml, hown, hts⟩ (c_L_at ll  ) (va_cwS 2 hts gL_net_L_at rfl rfl rfl (by decide +kernel) ⟨Nat.le_of_ble_eq_true rfl, Nat.le_of_ble_eq_true rfl⟩) ⟨PT.blind, PT.to⟩ rfl rfl hl.1 rfl (lv_room (Nat.le_of_ble_eq_true rfl)) dL_net_33 ⟨Nat.le_of_ble_eq_true rfl, Nat.le_of_ble_eq_true rfl⟩) ?_
  refine lv_isub hx hb dL_net_36 ?_
  refine b_ti (y := 0) (by decide) ?_
  exact W.iret hx hb hr (fun t ht _ => ⟨_, rfl, rfl, ht⟩) (fun _ h => nomatch h) dL_net_37

abbrev rmL_group : Room := ({ frames := 0, cells := 0, slots := 0, locals := 0 } : Room)
set_option maxHeartbeats 4000000 in
set_option maxRecDepth 100000 in
theorem c_L_group (ll : Launch) (D : va_G) (a : Nat → Nat) (cI cJ : ClassId) (am nx nw : Nat → Int32)   : Met ll yL_group wsL_group rmL_group (va_Pc [.ref (a 21)] (PR D (tyG cI cJ) (KW a cI cJ am nx nw))) (vp_Si (fun rr => rr = 1)) 0 0 (fun _ => False) := by
  refine Met.ofW (cc := cL_group) (maxL := 7) (ret := (some .int)) (by decide) rfl ?_
  intro pp ee ss mm ar bel mth cde s₁ B hml hv
  obtain ⟨rfl, hP, hK, hE⟩ := hv
  have hx := B.exec
  have hb := B.bytes
  have hr := B.returns
  have hts := atoms_spec (ws := wsL_group) B.pre
  have hown : ss.vm.findClass RL = some mm.cls := findClass_of_methodNamed B.named
  have hlocks := B.notSynchronized
  have hl := lv_entry [.ref (a 21)] (n := 7) (Nat.le_of_ble_eq_true rfl)
  rw [lg_entry_eq]
  generalize (lg_sl [.ref (a 21)] ++ List.replicate (7 - (lg_sl [.ref (a 21)]).length) Slot.unset).toArray = ls at hl ⊢
  have hl : lv_has ls 7 [(0, .ref (a 21))] := hl
  generalize hZ : MQ bel _ _ ss _ _ _ = Z
  refine lv_iconst (v := 1) hx hb dL_group_0 (by decide) ?_
  refine lv_istore_n (lv' := [(1, .int (1)), (0, .ref (a 21))]) hx hb dL_group_1 rfl hl (by decide) rfl (fun ls hl => ?_)
  refine lv_iconst (v := 0) hx hb dL_group_2 (by decide) ?_
  refine lv_istore_n (lv' := [(2, .int (0)), (1, .int (1)), (0, .ref (a 21))]) hx hb dL_group_3 rfl hl (by decide) rfl (fun ls hl => ?_)
  have L1 : ∀ (n1 k1 : Nat), k1 + n1 = 6 → ∀ (ls : Array Slot), lv_has ls 7 [(2, .int (nI (k1))), (1, .int (1)), (0, .ref (a 21))] → W pp ll ee rmL_group ss mm (([.ref (a 21)] : List Value).toArray) bel mth cde ss.heap [] 0 0 Z (F0 mm 4 ls []) := by
    intro n1
    induction n1 with
    | zero =>
      intro k1 hk1  ls hl
      have hk1b : 6 = k1 := by omega
      subst hk1b
      refine lv_iload_n hx hb dL_group_4 rfl (lv_at hl 0 rfl) ?_
      refine lv_bipush (v := 6) hx hb dL_group_5 (by decide) ?_
      refine lv_icmp_ge (tgt := 95) hx hb dL_group_7 (by decide) (fun c_1 => ?_) (fun c_1 => ?_)
      · have n_1 : (6) ≤ (6) := (nI_leI (a := 6) (b := 6) (by omega) (by omega)).mp c_1
        refine lv_iload_n hx hb dL_group_95 rfl (lv_at hl 1 rfl) ?_
        subst hZ; exact W.iret hx hb hr (fun t ht _ => ⟨_, rfl, rfl, ht⟩) (fun _ h => nomatch h) dL_group_96
      · have n_1 : ¬ ((6) ≤ (6)) := fun h => c_1 ((nI_leI (a := 6) (b := 6) (by omega) (by omega)).mpr h)
        exfalso; omega
    | succ n1 ih1 =>
      intro k1 hk1  ls hl
      have hk1b : k1 < 6 := by omega
      refine lv_iload_n hx hb dL_group_4 rfl (lv_at hl 0 rfl) ?_
      refine lv_bipush (v := 6) hx hb dL_group_5 (by decide) ?_
      refine lv_icmp_ge (tgt := 95) hx hb dL_group_7 (by decide) (fun c_2 => ?_) (fun c_2 => ?_)
      · have n_2 : (6) ≤ (k1) := (nI_leI (a := 6) (b := k1) (by omega) (by omega)).mp c_2
        exfalso; omega
      · have n_2 : ¬ ((6) ≤ (k1)) := fun h => c_2 ((nI_leI (a := 6) (b := k1) (by omega) (by omega)).mpr h)
        refine lv_iload_n hx hb dL_group_10 rfl (lv_at hl 1 rfl) ?_
        refine lv_istore_n (lv' := [(3, .int (1)), (2, .int (nI (k1))), (1, .int (1)), (0, .ref (a 21))]) hx hb dL_group_11 rfl hl (by decide) rfl (fun ls hl => ?_)
        refine lv_iconst (v := 1) hx hb dL_group_12 (by decide) ?_
        refine lv_istore (lv' := [(4, .int (1)), (3, .int (1)), (2, .int (nI (k1))), (1, .int (1)), (0, .ref (a 21))]) hx hb dL_group_13 hl (by decide) rfl (fun ls hl => ?_)
        have L2 : ∀ (n2 k2 : Nat), k2 + n2 = 5 → ∀ (ls : Array Slot), lv_has ls 7 [(4, .int (nI (k2 + 1))), (3, .int (1)), (2, .int (nI (k1))), (1, .int (1)), (0, .ref (a 21))] → W pp ll ee rmL_group ss mm (([.ref (a 21)] : List Value).toArray) bel mth cde ss.heap [] 0 0 Z (F0 mm 15 ls []) := by
          intro n2
          induction n2 with
          | zero =>
            intro k2 hk2  ls hl
            have hk2b : 5 = k2 := by omega
            subst hk2b
            refine lv_iload hx hb dL_group_15 (lv_at hl 0 rfl) ?_
            refine lv_bipush (v := 6) hx hb dL_group_17 (by decide) ?_
            refine lv_icmp_ge (tgt := 87) hx hb dL_group_19 (by decide) (fun c_3 => ?_) (fun c_3 => ?_)
            · have n_3 : (6) ≤ (5 + 1) := (nI_leI (a := 6) (b := 5 + 1) (by omega) (by omega)).mp c_3
              refine lv_iload_n hx hb dL_group_87 rfl (lv_at hl 1 rfl) ?_
              refine lv_istore_n (lv' := [(1, .int (1)), (4, .int (nI (5 + 1))), (3, .int (1)), (2, .int (nI (k1))), (0, .ref (a 21))]) hx hb dL_group_88 rfl hl (by decide) rfl (fun ls hl => ?_)
              refine lv_iinc (v := nI (k1 + 1)) (lv' := [(2, .int (nI (k1 + 1))), (1, .int (1)), (4, .int (nI (5 + 1))), (3, .int (1)), (0, .ref (a 21))]) hx hb dL_group_89 hl (k := 3) rfl (nI_1 (k1)) (by decide) rfl (fun ls hl => ?_)
              refine lv_goto (tgt := 4) hx hb dL_group_92 (by decide) ?_
              exact ih1 (k1 + 1) (by omega) ls (lv_sub hl [0, 1, 4] rfl)
            · have n_3 : ¬ ((6) ≤ (5 + 1)) := fun h => c_3 ((nI_leI (a := 6) (b := 5 + 1) (by omega) (by omega)).mpr h)
              exfalso; omega
          | succ n2 ih2 =>
            intro k2 hk2  ls hl
            have hk2b : k2 < 5 := by omega
            refine lv_iload hx hb dL_group_15 (lv_at hl 0 rfl) ?_
            refine lv_bipush (v := 6) hx hb dL_group_17 (by decide) ?_
            refine lv_icmp_ge (tgt := 87) hx hb dL_group_19 (by decide) (fun c_4 => ?_) (fun c_4 => ?_)
            · have n_4 : (6) ≤ (k2 + 1) := (nI_leI (a := 6) (b := k2 + 1) (by omega) (by omega)).mp c_4
              exfalso; omega
            · have n_4 : ¬ ((6) ≤ (k2 + 1)) := fun h => c_4 ((nI_leI (a := 6) (b := k2 + 1) (by omega) (by omega)).mpr h)
              refine lv_iconst (v := 0) hx hb dL_group_22 (by decide) ?_
              refine lv_istore (lv' := [(5, .int (0)), (4, .int (nI (k2 + 1))), (3, .int (1)), (2, .int (nI (k1))), (1, .int (1)), (0, .ref (a 21))]) hx hb dL_group_23 hl (by decide) rfl (fun ls hl => ?_)
              refine lv_iconst (v := 0) hx hb dL_group_25 (by decide) ?_
              refine lv_istore (lv' := [(6, .int (0)), (5, .int (0)), (4, .int (nI (k2 + 1))), (3, .int (1)), (2, .int (nI (k1))), (1, .int (1)), (0, .ref (a 21))]) hx hb dL_group_26 hl (by decide) rfl (fun ls hl => ?_)
              have L3 : ∀ (n3 k3 : Nat), k3 + n3 = 6 → ∀ (ls : Array Slot), lv_has ls 7 [(6, .int (nI (k3))), (5, .int (0)), (4, .int (nI (k2 + 1))), (3, .int (1)), (2, .int (nI (k1))), (1, .int (1)), (0, .ref (a 21))] → W pp ll ee rmL_group ss mm (([.ref (a 21)] : List Value).toArray) bel mth cde ss.heap [] 0 0 Z (F0 mm 28 ls []) := by
                intro n3
                induction n3 with
                | zero =>
                  intro k3 hk3  ls hl
                  have hk3b : 6 = k3 := by omega
                  subst hk3b
                  refine lv_iload hx hb dL_group_28 (lv_at hl 0 rfl) ?_
                  refine lv_bipush (v := 6) hx hb dL_group_30 (by decide) ?_
                  refine lv_icmp_ge (tgt := 63) hx hb dL_group_32 (by decide) (fun c_5 => ?_) (fun c_5 => ?_)
                  · have n_5 : (6) ≤ (6) := (nI_leI (a := 6) (b := 6) (by omega) (by omega)).mp c_5
                    refine lv_iload_n hx hb dL_group_63 rfl (lv_at hl 3 rfl) ?_
                    refine lv_iload hx hb dL_group_64 (lv_at hl 1 rfl) ?_
                    refine lv_bipush (v := 50) hx hb dL_group_66 (by decide) ?_
                    refine lv_icmp_le (tgt := 78) hx hb dL_group_68 (by decide) (fun c_6 => ?_) (fun c_6 => ?_)
                    · have n_6 := c_6
                      refine lv_iconst (v := 0) hx hb dL_group_78 (by decide) ?_
                      refine lv_ior hx hb dL_group_79 ?_
                      refine b_ti (y := 1) (by decide) ?_
                      refine lv_istore_n (lv' := [(3, .int (1)), (6, .int (nI (6))), (5, .int (0)), (4, .int (nI (k2 + 1))), (2, .int (nI (k1))), (1, .int (1)), (0, .ref (a 21))]) hx hb dL_group_80 rfl hl (by decide) rfl (fun ls hl => ?_)
                      refine lv_iinc (v := nI (k2 + 1 + 1)) (lv' := [(4, .int (nI (k2 + 1 + 1))), (3, .int (1)), (6, .int (nI (6))), (5, .int (0)), (2, .int (nI (k1))), (1, .int (1)), (0, .ref (a 21))]) hx hb dL_group_81 hl (k := 3) rfl (nI_1 (k2 + 1)) (by decide) rfl (fun ls hl => ?_)
                      refine lv_goto (tgt := 15) hx hb dL_group_84 (by decide) ?_
                      exact ih2 (k2 + 1) (by omega) ls (lv_sub hl [0, 1, 4, 5, 6] rfl)
                    · have n_6 := c_6
                      exact absurd c_6 (by decide)
                  · have n_5 : ¬ ((6) ≤ (6)) := fun h => c_5 ((nI_leI (a := 6) (b := 6) (by omega) (by omega)).mpr h)
                    exfalso; omega
                | succ n3 ih3 =>
                  intro k3 hk3  ls hl
                  have hk3b : k3 < 6 := by omega
                  refine lv_iload hx hb dL_group_28 (lv_at hl 0 rfl) ?_
                  refine lv_bipush (v := 6) hx hb dL_group_30 (by decide) ?_
                  refine lv_icmp_ge (tgt := 63) hx hb dL_group_32 (by decide) (fun c_7 => ?_) (fun c_7 => ?_)
                  · have n_7 : (6) ≤ (k3) := (nI_leI (a := 6) (b := k3) (by omega) (by omega)).mp c_7
                    exfalso; omega
                  · have n_7 : ¬ ((6) ≤ (k3)) := fun h => c_7 ((nI_leI (a := 6) (b := k3) (by omega) (by omega)).mpr h)
                    refine lv_iload hx hb dL_group_35 (lv_at hl 1 rfl) ?_
                    refine lv_iload_n hx hb dL_group_37 rfl (lv_at hl 5 rfl) ?_
                    refine lv_iload hx hb dL_group_38 (lv_at hl 0 rfl) ?_
                    refine lv_ishr hx hb dL_group_40 ?_
                    refine lv_iconst (v := 1) hx hb dL_group_41 (by decide) ?_
                    refine lv_iand hx hb dL_group_42 ?_
                    refine lv_aload_n hx hb dL_group_43 rfl (lv_at hl 6 rfl) ?_
                    refine lv_bipush (v := 6) hx hb dL_group_44 (by decide) ?_
                    refine lv_iload hx hb dL_group_46 (lv_at hl 0 rfl) ?_
                    refine lv_imul hx hb dL_group_48 ?_
                    refine b_ti (pk_mul (6) (k3)) ?_
                    refine lv_iload hx hb dL_group_49 (lv_at hl 2 rfl) ?_
                    refine lv_iadd hx hb dL_group_51 ?_
                    refine b_ti (nI_add ((6) * (k3)) (k2 + 1)) ?_
                    refine b_iald hx hb hK hP 21 0 (f := z32) rfl rfl (j := ((6) * (k3)) + (k2 + 1)) (by omega) (by decide) dL_group_52 ?_
                    refine b_ti (y := 0) rfl ?_
                    refine lv_imul hx hb dL_group_53 ?_
                    refine b_ti (y := 0) Int32.mul_zero ?_
                    refine lv_iadd hx hb dL_group_54 ?_
                    refine b_ti (y := 0) (by decide) ?_
                    refine lv_istore (lv' := [(5, .int (0)), (6, .int (nI (k3))), (4, .int (nI (k2 + 1))), (3, .int (1)), (2, .int (nI (k1))), (1, .int (1)), (0, .ref (a 21))]) hx hb dL_group_55 hl (by decide) rfl (fun ls hl => ?_)
                    refine lv_iinc (v := nI (k3 + 1)) (lv' := [(6, .int (nI (k3 + 1))), (5, .int (0)), (4, .int (nI (k2 + 1))), (3, .int (1)), (2, .int (nI (k1))), (1, .int (1)), (0, .ref (a 21))]) hx hb dL_group_57 hl (k := 1) rfl (nI_1 (k3)) (by decide) rfl (fun ls hl => ?_)
                    refine lv_goto (tgt := 28) hx hb dL_group_60 (by decide) ?_
                    exact ih3 (k3 + 1) (by omega) ls (lv_sub hl [0, 1, 2, 3, 4, 5, 6] rfl)
              exact L3 (6) 0 (by omega) ls (lv_sub hl [0, 1, 2, 3, 4, 5, 6] rfl)
        exact L2 (5) 0 (by omega) ls (lv_sub hl [0, 1, 2, 3, 4] rfl)
  exact L1 (6) 0 (by omega) ls (lv_sub hl [0, 1, 2] rfl)

abbrev rmL_result : Room := ({ frames := 3, cells := 0, slots := 0, locals := 63 } : Room)
set_option maxHeartbeats 4000000 in
set_option maxRecDepth 100000 in
theorem c_L_result (ll : Launch) (D : va_G) (a : Nat → Nat) (cI cJ : ClassId) (am nx nw : Nat → Int32)   : Met ll yL_result wsL_result rmL_result (va_Pc [.ref (a 0), .int (1), .ref (a 24)] (PR D (tyG cI cJ) (KW a cI cJ am nx nw))) (vp_Si (fun rr => rr = 0)) 0 0 (fun _ => False) := by
  refine Met.ofW (cc := cL_result) (maxL := 5) (ret := (some .int)) (by decide) rfl ?_
  intro pp ee ss mm ar bel mth cde s₁ B hml hv
  obtain ⟨rfl, hP, hK, hE⟩ := hv
  have hx := B.exec
  have hb := B.bytes
  have hr := B.returns
  have hts := atoms_spec (ws := wsL_result) B.pre
  have hown : ss.vm.findClass RL = some mm.cls := findClass_of_methodNamed B.named
  have hlocks := B.notSynchronized
  have hl := lv_entry [.ref (a 0), .int (1), .ref (a 24)] (n := 5) (Nat.le_of_ble_eq_true rfl)
  rw [lg_entry_eq]
  generalize (lg_sl [.ref (a 0), .int (1), .ref (a 24)] ++ List.replicate (5 - (lg_sl [.ref (a 0), .int (1), .ref (a 24)]).length) Slot.unset).toArray = ls at hl ⊢
  have hl : lv_has ls 5 [(0, .ref (a 0)), (1, .int (1)), (2, .ref (a 24))] := hl
  generalize hZ : MQ bel _ _ ss _ _ _ = Z
  refine lv_iconst (v := 0) hx hb dL_result_0 (by decide) ?_
  refine lv_istore_n (lv' := [(3, .int (0)), (0, .ref (a 0)), (1, .int (1)), (2, .ref (a 24))]) hx hb dL_result_1 rfl hl (by decide) rfl (fun ls hl => ?_)
  refine lv_iconst (v := 0) hx hb dL_result_2 (by decide) ?_
  refine lv_istore (lv' := [(4, .int (0)), (3, .int (0)), (0, .ref (a 0)), (1, .int (1)), (2, .ref (a 24))]) hx hb dL_result_3 hl (by decide) rfl (fun ls hl => ?_)
  have L1 : ∀ (n1 k1 : Nat), k1 + n1 = 6 → ∀ (ls : Array Slot), lv_has ls 5 [(4, .int (nI (k1))), (3, .int (0)), (0, .ref (a 0)), (1, .int (1)), (2, .ref (a 24))] → W pp ll ee rmL_result ss mm (([.ref (a 0), .int (1), .ref (a 24)] : List Value).toArray) bel mth cde ss.heap [] 0 0 Z (F0 mm 5 ls []) := by
    intro n1
    induction n1 with
    | zero =>
      intro k1 hk1  ls hl
      have hk1b : 6 = k1 := by omega
      subst hk1b
      refine lv_iload hx hb dL_result_5 (lv_at hl 0 rfl) ?_
      refine lv_bipush (v := 6) hx hb dL_result_7 (by decide) ?_
      refine lv_icmp_ge (tgt := 73) hx hb dL_result_9 (by decide) (fun c_1 => ?_) (fun c_1 => ?_)
      · have n_1 : (6) ≤ (6) := (nI_leI (a := 6) (b := 6) (by omega) (by omega)).mp c_1
        refine lv_iload_n hx hb dL_result_73 rfl (lv_at hl 1 rfl) ?_
        subst hZ; exact W.iret hx hb hr (fun t ht _ => ⟨_, rfl, rfl, ht⟩) (fun _ h => nomatch h) dL_result_74
      · have n_1 : ¬ ((6) ≤ (6)) := fun h => c_1 ((nI_leI (a := 6) (b := 6) (by omega) (by omega)).mpr h)
        exfalso; omega
    | succ n1 ih1 =>
      intro k1 hk1  ls hl
      have hk1b : k1 < 6 := by omega
      refine lv_iload hx hb dL_result_5 (lv_at hl 0 rfl) ?_
      refine lv_bipush (v := 6) hx hb dL_result_7 (by decide) ?_
      refine lv_icmp_ge (tgt := 73) hx hb dL_result_9 (by decide) (fun c_2 => ?_) (fun c_2 => ?_)
      · have n_2 : (6) ≤ (k1) := (nI_leI (a := 6) (b := k1) (by omega) (by omega)).mp c_2
        exfalso; omega
      · have n_2 : ¬ ((6) ≤ (k1)) := fun h => c_2 ((nI_leI (a := 6) (b := k1) (by omega) (by omega)).mpr h)
        refine lv_iload_n hx hb dL_result_12 rfl (lv_at hl 1 rfl) ?_
        refine lv_iload_n hx hb dL_result_13 rfl (lv_at hl 3 rfl) ?_
        refine lv_iload hx hb dL_result_14 (lv_at hl 0 rfl) ?_
        refine lv_ishr hx hb dL_result_16 ?_
        refine lv_iconst (v := 1) hx hb dL_result_17 (by decide) ?_
        refine lv_iand hx hb dL_result_18 ?_
        refine lv_if_ne (tgt := 26) hx hb dL_result_19 (by decide) (fun c_3 => ?_) (fun c_3 => ?_)
        · have n_3 := c_3
          refine lv_aload_n hx hb dL_result_26 rfl (lv_at hl 4 rfl) ?_
          refine lv_bipush (v := 7) hx hb dL_result_27 (by decide) ?_
          refine lv_iload hx hb dL_result_29 (lv_at hl 0 rfl) ?_
          refine lv_imul hx hb dL_result_31 ?_
          refine b_ti (pk_mul (7) (k1)) ?_
          refine lv_iconst (v := 3) hx hb dL_result_32 (by decide) ?_
          refine lv_iadd hx hb dL_result_33 ?_
          refine b_ti (nI_add ((7) * (k1)) (3)) ?_
          refine b_iald hx hb hK hP 24 0 (f := (bbI 6)) rfl rfl (j := ((7) * (k1)) + (3)) (by omega) (by decide) dL_result_34 ?_
          refine b_ti (y := 0) ((kb_v (k1) (by omega)).2.2.2.1) ?_
          refine lv_aload_n hx hb dL_result_35 rfl (lv_at hl 4 rfl) ?_
          refine lv_bipush (v := 7) hx hb dL_result_36 (by decide) ?_
          refine lv_iload hx hb dL_result_38 (lv_at hl 0 rfl) ?_
          refine lv_imul hx hb dL_result_40 ?_
          refine b_ti (pk_mul (7) (k1)) ?_
          refine lv_iconst (v := 5) hx hb dL_result_41 (by decide) ?_
          refine lv_iadd hx hb dL_result_42 ?_
          refine b_ti (nI_add ((7) * (k1)) (5)) ?_
          refine b_iald hx hb hK hP 24 0 (f := (bbI 6)) rfl rfl (j := ((7) * (k1)) + (5)) (by omega) (by decide) dL_result_43 ?_
          refine b_ti (y := 100) ((kb_v (k1) (by omega)).2.2.2.2.2.1) ?_
          refine b_csi (v := 0) (W.runS (As := [.int (0), .int (100)]) (rest := [.int (0)]) ⟨hx, hb, hml, hown, hts⟩ (c_L_at ll  ) (va_cwS 2 hts gL_result_L_at rfl rfl rfl (by decide +kernel) ⟨Nat.le_of_ble_eq_true rfl, Nat.le_of_ble_eq_true rfl⟩) ⟨PT.blind, PT.to⟩ rfl rfl hl.1 rfl (lv_room (Nat.le_of_ble_eq_true rfl)) dL_result_44 ⟨Nat.le_of_ble_eq_true rfl, Nat.le_of_ble_eq_true rfl⟩) ?_
          refine lv_i2l (v := (0 : Int32).toInt64) hx hb dL_result_47 rfl ?_
          refine b_tl (y := 0) (by decide) ?_
          refine lv_aload_n hx hb dL_result_48 rfl (lv_at hl 2 rfl) ?_
          refine lv_iload hx hb dL_result_49 (lv_at hl 0 rfl) ?_
          refine b_csl (v := (nuI 6) k1) (W.runV (As := [.int (nI (k1))]) (rest := [.long (0), .int (0)]) ⟨hx, hb, hml, hown, hts⟩ (c_X3_shareNumerator ll D a cI cJ z32 (nuI 6) (dnmI 6) z64 am nx z32 z32 z32 z32 (rtI 6) (rtI 6) (rtI 6) z32 z32 z32 z32 0 k1 (by omega)) (cwV 1 hts gL_result_X3_shareNumerator rfl rfl rfl (by decide +kernel) ⟨Nat.le_of_ble_eq_true rfl, Nat.le_of_ble_eq_true rfl⟩) ⟨PR.blind, va_recv hK hP (ci := 3) (q0 := 0) rfl rfl, PR.goP (wr := (LR a cI nw)) hP hK hE⟩ rfl rfl hl.1 rfl (lv_room (Nat.le_of_ble_eq_true rfl)) dL_result_51 ⟨Nat.le_of_ble_eq_true rfl, Nat.le_of_ble_eq_true rfl⟩) ?_
          refine lv_lmul hx hb dL_result_54 ?_
          refine b_tl (y := 0) Int64.zero_mul ?_
          refine lv_aload_n hx hb dL_result_55 rfl (lv_at hl 2 rfl) ?_
          refine lv_iload hx hb dL_result_56 (lv_at hl 0 rfl) ?_
          refine b_csl (v := (dnmI 6) k1) (W.runV (As := [.int (nI (k1))]) (rest := [.long (0), .int (0)]) ⟨hx, hb, hml, hown, hts⟩ (c_X3_shareDenominator ll D a cI cJ z32 (nuI 6) (dnmI 6) z64 am nx z32 z32 z32 z32 (rtI 6) (rtI 6) (rtI 6) z32 z32 z32 z32 0 k1 (by omega)) (cwV 1 hts gL_result_X3_shareDenominator rfl rfl rfl (by decide +kernel) ⟨Nat.le_of_ble_eq_true rfl, Nat.le_of_ble_eq_true rfl⟩) ⟨PR.blind, va_recv hK hP (ci := 3) (q0 := 0) rfl rfl, PR.goP (wr := (LR a cI nw)) hP hK hE⟩ rfl rfl hl.1 rfl (lv_room (Nat.le_of_ble_eq_true rfl)) dL_result_58 ⟨Nat.le_of_ble_eq_true rfl, Nat.le_of_ble_eq_true rfl⟩) ?_
          refine b_tl (y := 1) (kq_de (k1) (by omega)) ?_
          refine b_csl (v := 0) (W.runS (As := [.long (0), .long (1)]) (rest := [.int (0)]) ⟨hx, hb, hml, hown, hts⟩ (c_L_floor_1 ll  ) (va_cwS 2 hts gL_result_L_floor rfl rfl rfl (by decide +kernel) ⟨Nat.le_of_ble_eq_true rfl, Nat.le_of_ble_eq_true rfl⟩) ⟨PT.blind, PT.to⟩ rfl rfl hl.1 rfl (lv_room (Nat.le_of_ble_eq_true rfl)) dL_result_61 ⟨Nat.le_of_ble_eq_true rfl, Nat.le_of_ble_eq_true rfl⟩) ?_
          refine lv_l2i (v := (0 : Int64).toInt32) hx hb dL_result_64 rfl ?_
          refine b_ti (y := 0) (by decide) ?_
          refine lv_iadd hx hb dL_result_65 ?_
          refine b_ti (y := 0) (by decide) ?_
          refine lv_istore_n (lv' := [(3, .int (0)), (4, .int (nI (k1))), (0, .ref (a 0)), (1, .int (1)), (2, .ref (a 24))]) hx hb dL_result_66 rfl hl (by decide) rfl (fun ls hl => ?_)
          refine lv_iinc (v := nI (k1 + 1)) (lv' := [(4, .int (nI (k1 + 1))), (3, .int (0)), (0, .ref (a 0)), (1, .int (1)), (2, .ref (a 24))]) hx hb dL_result_67 hl (k := 1) rfl (nI_1 (k1)) (by decide) rfl (fun ls hl => ?_)
          refine lv_goto (tgt := 5) hx hb dL_result_70 (by decide) ?_
          exact ih1 (k1 + 1) (by omega) ls (lv_sub hl [0, 1, 2, 3, 4] rfl)
        · have n_3 := c_3
          refine lv_iconst (v := 0) hx hb dL_result_22 (by decide) ?_
          refine lv_goto (tgt := 65) hx hb dL_result_23 (by decide) ?_
          refine lv_iadd hx hb dL_result_65 ?_
          refine b_ti (y := 0) (by decide) ?_
          refine lv_istore_n (lv' := [(3, .int (0)), (4, .int (nI (k1))), (0, .ref (a 0)), (1, .int (1)), (2, .ref (a 24))]) hx hb dL_result_66 rfl hl (by decide) rfl (fun ls hl => ?_)
          refine lv_iinc (v := nI (k1 + 1)) (lv' := [(4, .int (nI (k1 + 1))), (3, .int (0)), (0, .ref (a 0)), (1, .int (1)), (2, .ref (a 24))]) hx hb dL_result_67 hl (k := 1) rfl (nI_1 (k1)) (by decide) rfl (fun ls hl => ?_)
          refine lv_goto (tgt := 5) hx hb dL_result_70 (by decide) ?_
          exact ih1 (k1 + 1) (by omega) ls (lv_sub hl [0, 1, 2, 3, 4] rfl)
  exact L1 (6) 0 (by omega) ls (lv_sub hl [0, 1, 2, 3, 4] rfl)

abbrev rmL_due : Room := ({ frames := 0, cells := 0, slots := 0, locals := 0 } : Room)
set_option maxHeartbeats 4000000 in
set_option maxRecDepth 100000 in
theorem c_L_due (ll : Launch) (D : va_G) (a : Nat → Nat) (cI cJ : ClassId) (am nx nw : Nat → Int32)   : Met ll yL_due wsL_due rmL_due (va_Pc [.int (0), .int (0), .int (0), .int (100), .int (0), .ref (a 21), .ref (a 24), .ref (a 25)] (PR D (tyG cI cJ) (KW a cI cJ am nx nw))) (vp_Si (fun rr => rr = (-2000002))) 0 0 (fun _ => False) := by
  refine Met.ofW (cc := cL_due) (maxL := 10) (ret := (some .int)) (by decide) rfl ?_
  intro pp ee ss mm ar bel mth cde s₁ B hml hv
  obtain ⟨rfl, hP, hK, hE⟩ := hv
  have hx := B.exec
  have hb := B.bytes
  have hr := B.returns
  have hts := atoms_spec (ws := wsL_due) B.pre
  have hown : ss.vm.findClass RL = some mm.cls := findClass_of_methodNamed B.named
  have hlocks := B.notSynchronized
  have hl := lv_entry [.int (0), .int (0), .int (0), .int (100), .int (0), .ref (a 21), .ref (a 24), .ref (a 25)] (n := 10) (Nat.le_of_ble_eq_true rfl)
  rw [lg_entry_eq]
  generalize (lg_sl [.int (0), .int (0), .int (0), .int (100), .int (0), .ref (a 21), .ref (a 24), .ref (a 25)] ++ List.replicate (10 - (lg_sl [.int (0), .int (0), .int (0), .int (100), .int (0), .ref (a 21), .ref (a 24), .ref (a 25)]).length) Slot.unset).toArray = ls at hl ⊢
  have hl : lv_has ls 10 [(0, .int (0)), (1, .int (0)), (2, .int (0)), (3, .int (100)), (4, .int (0)), (5, .ref (a 21)), (6, .ref (a 24)), (7, .ref (a 25))] := hl
  refine lv_bipush (v := 6) hx hb dL_due_0 (by decide) ?_
  refine lv_iload_n hx hb dL_due_2 rfl (lv_at hl 1 rfl) ?_
  refine lv_imul hx hb dL_due_3 ?_
  refine b_ti (y := 0) (by decide) ?_
  refine lv_iload_n hx hb dL_due_4 rfl (lv_at hl 2 rfl) ?_
  refine lv_iadd hx hb dL_due_5 ?_
  refine b_ti (y := 0) (by decide) ?_
  refine lv_istore (lv' := [(8, .int (0)), (0, .int (0)), (1, .int (0)), (2, .int (0)), (3, .int (100)), (4, .int (0)), (5, .ref (a 21)), (6, .ref (a 24)), (7, .ref (a 25))]) hx hb dL_due_6 hl (by decide) rfl (fun ls hl => ?_)
  refine lv_aload hx hb dL_due_8 (lv_at hl 6 rfl) ?_
  refine lv_iload hx hb dL_due_10 (lv_at hl 0 rfl) ?_
  refine b_iald hx hb hK hP 21 0 (f := z32) rfl rfl (j := 0) (by omega) (by decide) dL_due_12 ?_
  refine b_ti (y := 0) rfl ?_
  refine lv_istore (lv' := [(9, .int (0)), (8, .int (0)), (0, .int (0)), (1, .int (0)), (2, .int (0)), (3, .int (100)), (4, .int (0)), (5, .ref (a 21)), (6, .ref (a 24)), (7, .ref (a 25))]) hx hb dL_due_13 hl (by decide) rfl (fun ls hl => ?_)
  refine lv_iload_n hx hb dL_due_15 rfl (lv_at hl 3 rfl) ?_
  refine lv_iload_n hx hb dL_due_16 rfl (lv_at hl 4 rfl) ?_
  refine lv_icmp_eq (tgt := 29) hx hb dL_due_17 (by decide) (fun c_1 => ?_) (fun c_1 => ?_)
  · have n_1 := c_1
    refine lv_ldc (v := -2000002) hx hb hown (hts (.constant RL 36 (-2000002)) (by decide +kernel)) dL_due_29 ?_
    exact W.iret hx hb hr (fun t ht _ => ⟨_, rfl, rfl, ht⟩) (fun _ h => nomatch h) dL_due_31
  · have n_1 := c_1
    exact absurd c_1 (by decide)

abbrev rmL_shares_p1 : Room := ({ frames := 3, cells := 0, slots := 0, locals := 63 } : Room)
set_option maxHeartbeats 4000000 in
set_option maxRecDepth 100000 in
theorem c_L_shares_p1 (ll : Launch) (D : va_G) (a : Nat → Nat) (cI cJ : ClassId) (am nx nw : Nat → Int32)   : Met ll yL_shares wsL_shares rmL_shares_p1 (va_Pc [.ref (a 0), .ref (a 21), .long (1000000007)] (PR D (tyG cI cJ) (KW a cI cJ am nx nw))) (vp_Si (fun rr => rr = 1)) 0 0 (fun _ => False) := by
  refine Met.ofW (cc := cL_shares) (maxL := 12) (ret := (some .boolean)) (by decide) rfl ?_
  intro pp ee ss mm ar bel mth cde s₁ B hml hv
  obtain ⟨rfl, hP, hK, hE⟩ := hv
  have hx := B.exec
  have hb := B.bytes
  have hr := B.returns
  have hts := atoms_spec (ws := wsL_shares) B.pre
  have hown : ss.vm.findClass RL = some mm.cls := findClass_of_methodNamed B.named
  have hlocks := B.notSynchronized
  have hl := lv_entry [.ref (a 0), .ref (a 21), .long (1000000007)] (n := 12) (Nat.le_of_ble_eq_true rfl)
  rw [lg_entry_eq]
  generalize (lg_sl [.ref (a 0), .ref (a 21), .long (1000000007)] ++ List.replicate (12 - (lg_sl [.ref (a 0), .ref (a 21), .long (1000000007)]).length) Slot.unset).toArray = ls at hl ⊢
  have hl : lv_has ls 12 [(0, .ref (a 0)), (1, .ref (a 21)), (2, .long (1000000007))] := hl
  generalize hZ : MQ bel _ _ ss _ _ _ = Z
  refine lv_aload_n hx hb dL_shares_0 rfl (lv_at hl 0 rfl) ?_
  refine lv_iconst (v := 0) hx hb dL_shares_1 (by decide) ?_
  refine b_csl (v := (nuI 6) 0) (W.runV (As := [.int (0)]) (rest := []) ⟨hx, hb, hml, hown, hts⟩ (c_X3_shareNumerator ll D a cI cJ z32 (nuI 6) (dnmI 6) z64 am nx z32 z32 z32 z32 (rtI 6) (rtI 6) (rtI 6) z32 z32 z32 z32 0 0 (by omega)) (cwV 1 hts gL_shares_X3_shareNumerator rfl rfl rfl (by decide +kernel) ⟨Nat.le_of_ble_eq_true rfl, Nat.le_of_ble_eq_true rfl⟩) ⟨PR.blind, va_recv hK hP (ci := 3) (q0 := 0) rfl rfl, PR.goP (wr := (LR a cI nw)) hP hK hE⟩ rfl rfl hl.1 rfl (lv_room (Nat.le_of_ble_eq_true rfl)) dL_shares_2 ⟨Nat.le_of_ble_eq_true rfl, Nat.le_of_ble_eq_true rfl⟩) ?_
  refine b_tl (y := 1) kq_nu0 ?_
  refine lv_lconst (v := 1) hx hb dL_shares_5 (by decide) ?_
  refine W.lcmp hx hb dL_shares_6 ?_
  refine b_ti (y := 0) (by decide) ?_
  refine lv_if_ne (tgt := 24) hx hb dL_shares_7 (by decide) (fun c_1 => ?_) (fun c_1 => ?_)
  · have n_1 := c_1
    exact absurd c_1 (by decide)
  · have n_1 := c_1
    refine lv_aload_n hx hb dL_shares_10 rfl (lv_at hl 0 rfl) ?_
    refine lv_iconst (v := 0) hx hb dL_shares_11 (by decide) ?_
    refine b_csl (v := (dnmI 6) 0) (W.runV (As := [.int (0)]) (rest := []) ⟨hx, hb, hml, hown, hts⟩ (c_X3_shareDenominator ll D a cI cJ z32 (nuI 6) (dnmI 6) z64 am nx z32 z32 z32 z32 (rtI 6) (rtI 6) (rtI 6) z32 z32 z32 z32 0 0 (by omega)) (cwV 1 hts gL_shares_X3_shareDenominator rfl rfl rfl (by decide +kernel) ⟨Nat.le_of_ble_eq_true rfl, Nat.le_of_ble_eq_true rfl⟩) ⟨PR.blind, va_recv hK hP (ci := 3) (q0 := 0) rfl rfl, PR.goP (wr := (LR a cI nw)) hP hK hE⟩ rfl rfl hl.1 rfl (lv_room (Nat.le_of_ble_eq_true rfl)) dL_shares_12 ⟨Nat.le_of_ble_eq_true rfl, Nat.le_of_ble_eq_true rfl⟩) ?_
    refine b_tl (y := 1) (kq_de (0) (by omega)) ?_
    refine lv_lconst (v := 1) hx hb dL_shares_15 (by decide) ?_
    refine W.lcmp hx hb dL_shares_16 ?_
    refine b_ti (y := 0) (by decide) ?_
    refine lv_if_ne (tgt := 24) hx hb dL_shares_17 (by decide) (fun c_2 => ?_) (fun c_2 => ?_)
    · have n_2 := c_2
      exact absurd c_2 (by decide)
    · have n_2 := c_2
      refine lv_iconst (v := 1) hx hb dL_shares_20 (by decide) ?_
      refine lv_goto (tgt := 25) hx hb dL_shares_21 (by decide) ?_
      refine lv_istore (lv' := [(4, .int (1)), (0, .ref (a 0)), (1, .ref (a 21)), (2, .long (1000000007))]) hx hb dL_shares_25 hl (by decide) rfl (fun ls hl => ?_)
      refine lv_iconst (v := 1) hx hb dL_shares_27 (by decide) ?_
      refine lv_istore (lv' := [(5, .int (1)), (4, .int (1)), (0, .ref (a 0)), (1, .ref (a 21)), (2, .long (1000000007))]) hx hb dL_shares_28 hl (by decide) rfl (fun ls hl => ?_)
      refine lv_iconst (v := 1) hx hb dL_shares_30 (by decide) ?_
      refine lv_istore (lv' := [(6, .int (1)), (5, .int (1)), (4, .int (1)), (0, .ref (a 0)), (1, .ref (a 21)), (2, .long (1000000007))]) hx hb dL_shares_31 hl (by decide) rfl (fun ls hl => ?_)
      have L1 : ∀ (n1 k1 : Nat), k1 + n1 = 5 → ∀ (ls : Array Slot), lv_has ls 12 [(6, .int (nI (k1 + 1))), (5, .int (1)), (4, .int (1)), (0, .ref (a 0)), (1, .ref (a 21)), (2, .long (1000000007))] → W pp ll ee rmL_shares_p1 ss mm (([.ref (a 0), .ref (a 21), .long (1000000007)] : List Value).toArray) bel mth cde ss.heap [] 0 0 Z (F0 mm 33 ls []) := by
        intro n1
        induction n1 with
        | zero =>
          intro k1 hk1  ls hl
          have hk1b : 5 = k1 := by omega
          subst hk1b
          refine lv_iload hx hb dL_shares_33 (lv_at hl 0 rfl) ?_
          refine lv_bipush (v := 6) hx hb dL_shares_35 (by decide) ?_
          refine lv_icmp_ge (tgt := 129) hx hb dL_shares_37 (by decide) (fun c_3 => ?_) (fun c_3 => ?_)
          · have n_3 : (6) ≤ (5 + 1) := (nI_leI (a := 6) (b := 5 + 1) (by omega) (by omega)).mp c_3
            refine lv_iconst (v := 1) hx hb dL_shares_129 (by decide) ?_
            refine lv_istore (lv' := [(6, .int (1)), (5, .int (1)), (4, .int (1)), (0, .ref (a 0)), (1, .ref (a 21)), (2, .long (1000000007))]) hx hb dL_shares_130 hl (by decide) rfl (fun ls hl => ?_)
            have L2 : ∀ (n2 k2 : Nat), k2 + n2 = 5 → ∀ (ls : Array Slot), lv_has ls 12 [(6, .int (nI (k2 + 1))), (5, .int (1)), (4, .int (1)), (0, .ref (a 0)), (1, .ref (a 21)), (2, .long (1000000007))] → W pp ll ee rmL_shares_p1 ss mm (([.ref (a 0), .ref (a 21), .long (1000000007)] : List Value).toArray) bel mth cde ss.heap [] 0 0 Z (F0 mm 132 ls []) := by
              intro n2
              induction n2 with
              | zero =>
                intro k2 hk2  ls hl
                have hk2b : 5 = k2 := by omega
                subst hk2b
                refine lv_iload hx hb dL_shares_132 (lv_at hl 0 rfl) ?_
                refine lv_bipush (v := 6) hx hb dL_shares_134 (by decide) ?_
                refine lv_icmp_ge (tgt := 258) hx hb dL_shares_136 (by decide) (fun c_4 => ?_) (fun c_4 => ?_)
                · have n_4 : (6) ≤ (5 + 1) := (nI_leI (a := 6) (b := 5 + 1) (by omega) (by omega)).mp c_4
                  refine lv_iload hx hb dL_shares_258 (lv_at hl 2 rfl) ?_
                  subst hZ; exact W.zret hx hb hr ((by decide)) (fun t ht _ => ⟨_, rfl, rfl, ht⟩) (fun _ h => nomatch h) dL_shares_260
                · have n_4 : ¬ ((6) ≤ (5 + 1)) := fun h => c_4 ((nI_leI (a := 6) (b := 5 + 1) (by omega) (by omega)).mpr h)
                  exfalso; omega
              | succ n2 ih2 =>
                intro k2 hk2  ls hl
                have hk2b : k2 < 5 := by omega
                refine lv_iload hx hb dL_shares_132 (lv_at hl 0 rfl) ?_
                refine lv_bipush (v := 6) hx hb dL_shares_134 (by decide) ?_
                refine lv_icmp_ge (tgt := 258) hx hb dL_shares_136 (by decide) (fun c_5 => ?_) (fun c_5 => ?_)
                · have n_5 : (6) ≤ (k2 + 1) := (nI_leI (a := 6) (b := k2 + 1) (by omega) (by omega)).mp c_5
                  exfalso; omega
                · have n_5 : ¬ ((6) ≤ (k2 + 1)) := fun h => c_5 ((nI_leI (a := 6) (b := k2 + 1) (by omega) (by omega)).mpr h)
                  refine lv_iload hx hb dL_shares_139 (lv_at hl 2 rfl) ?_
                  refine lv_if_eq (tgt := 258) hx hb dL_shares_141 (by decide) (fun c_6 => ?_) (fun c_6 => ?_)
                  · have n_6 := c_6
                    exact absurd c_6 (by decide)
                  · have n_6 := c_6
                    refine lv_iload hx hb dL_shares_144 (lv_at hl 1 rfl) ?_
                    refine lv_if_eq (tgt := 258) hx hb dL_shares_146 (by decide) (fun c_7 => ?_) (fun c_7 => ?_)
                    · have n_7 := c_7
                      exact absurd c_7 (by decide)
                    · have n_7 := c_7
                      refine lv_lconst (v := 0) hx hb dL_shares_149 (by decide) ?_
                      refine lv_lstore (lv' := [(7, .long (0)), (6, .int (nI (k2 + 1))), (5, .int (1)), (4, .int (1)), (0, .ref (a 0)), (1, .ref (a 21)), (2, .long (1000000007))]) hx hb dL_shares_150 hl (by decide) rfl (fun ls hl => ?_)
                      refine lv_iconst (v := 0) hx hb dL_shares_152 (by decide) ?_
                      refine lv_istore (lv' := [(9, .int (0)), (7, .long (0)), (6, .int (nI (k2 + 1))), (5, .int (1)), (4, .int (1)), (0, .ref (a 0)), (1, .ref (a 21)), (2, .long (1000000007))]) hx hb dL_shares_153 hl (by decide) rfl (fun ls hl => ?_)
                      have L3 : ∀ (n3 k3 : Nat), k3 + n3 = 6 → ∀ (ls : Array Slot), lv_has ls 12 [(9, .int (nI (k3))), (7, .long (0)), (6, .int (nI (k2 + 1))), (5, .int (1)), (4, .int (1)), (0, .ref (a 0)), (1, .ref (a 21)), (2, .long (1000000007))] → W pp ll ee rmL_shares_p1 ss mm (([.ref (a 0), .ref (a 21), .long (1000000007)] : List Value).toArray) bel mth cde ss.heap [] 0 0 Z (F0 mm 155 ls []) := by
                        intro n3
                        induction n3 with
                        | zero =>
                          intro k3 hk3  ls hl
                          have hk3b : 6 = k3 := by omega
                          subst hk3b
                          refine lv_iload hx hb dL_shares_155 (lv_at hl 0 rfl) ?_
                          refine lv_bipush (v := 6) hx hb dL_shares_157 (by decide) ?_
                          refine lv_icmp_ge (tgt := 212) hx hb dL_shares_159 (by decide) (fun c_8 => ?_) (fun c_8 => ?_)
                          · have n_8 : (6) ≤ (6) := (nI_leI (a := 6) (b := 6) (by omega) (by omega)).mp c_8
                            refine lv_lload hx hb dL_shares_212 (lv_at hl 1 rfl) ?_
                            refine lv_ldc2 (v := 100) hx hb hown (hts (.constantLong RL 44 (100)) (by decide +kernel)) dL_shares_214 ?_
                            refine lv_aload_n hx hb dL_shares_217 rfl (lv_at hl 5 rfl) ?_
                            refine lv_iload hx hb dL_shares_218 (lv_at hl 2 rfl) ?_
                            refine b_csl (v := (nuI 6) (k2 + 1)) (W.runV (As := [.int (nI (k2 + 1))]) (rest := [.long ((100)), .long (0)]) ⟨hx, hb, hml, hown, hts⟩ (c_X3_shareNumerator ll D a cI cJ z32 (nuI 6) (dnmI 6) z64 am nx z32 z32 z32 z32 (rtI 6) (rtI 6) (rtI 6) z32 z32 z32 z32 0 (k2 + 1) (by omega)) (cwV 1 hts gL_shares_X3_shareNumerator rfl rfl rfl (by decide +kernel) ⟨Nat.le_of_ble_eq_true rfl, Nat.le_of_ble_eq_true rfl⟩) ⟨PR.blind, va_recv hK hP (ci := 3) (q0 := 0) rfl rfl, PR.goP (wr := (LR a cI nw)) hP hK hE⟩ rfl rfl hl.1 rfl (lv_room (Nat.le_of_ble_eq_true rfl)) dL_shares_220 ⟨Nat.le_of_ble_eq_true rfl, Nat.le_of_ble_eq_true rfl⟩) ?_
                            refine b_tl (y := 0) (kq_nu (k2 + 1) (by omega) (by omega)) ?_
                            refine lv_lload_n hx hb dL_shares_223 rfl (lv_at hl 7 rfl) ?_
                            refine lv_lrem hx hb dL_shares_224 (by decide) ?_
                            refine b_tl (y := 0) (by decide) ?_
                            refine lv_aload_n hx hb dL_shares_225 rfl (lv_at hl 5 rfl) ?_
                            refine lv_iload hx hb dL_shares_226 (lv_at hl 2 rfl) ?_
                            refine b_csl (v := (dnmI 6) (k2 + 1)) (W.runV (As := [.int (nI (k2 + 1))]) (rest := [.long (0), .long ((100)), .long (0)]) ⟨hx, hb, hml, hown, hts⟩ (c_X3_shareDenominator ll D a cI cJ z32 (nuI 6) (dnmI 6) z64 am nx z32 z32 z32 z32 (rtI 6) (rtI 6) (rtI 6) z32 z32 z32 z32 0 (k2 + 1) (by omega)) (cwV 1 hts gL_shares_X3_shareDenominator rfl rfl rfl (by decide +kernel) ⟨Nat.le_of_ble_eq_true rfl, Nat.le_of_ble_eq_true rfl⟩) ⟨PR.blind, va_recv hK hP (ci := 3) (q0 := 0) rfl rfl, PR.goP (wr := (LR a cI nw)) hP hK hE⟩ rfl rfl hl.1 rfl (lv_room (Nat.le_of_ble_eq_true rfl)) dL_shares_228 ⟨Nat.le_of_ble_eq_true rfl, Nat.le_of_ble_eq_true rfl⟩) ?_
                            refine b_tl (y := 1) (kq_de (k2 + 1) (by omega)) ?_
                            refine lv_lload_n hx hb dL_shares_231 rfl (lv_at hl 7 rfl) ?_
                            refine b_csl (v := 1) (W.runS (As := [.long (1), .long (1000000007)]) (rest := [.long (0), .long ((100)), .long (0)]) ⟨hx, hb, hml, hown, hts⟩ (c_L_inverse_p1 ll  ) (va_cwS 2 hts gL_shares_L_inverse rfl rfl rfl (by decide +kernel) ⟨Nat.le_of_ble_eq_true rfl, Nat.le_of_ble_eq_true rfl⟩) ⟨PT.blind, PT.to⟩ rfl rfl hl.1 rfl (lv_room (Nat.le_of_ble_eq_true rfl)) dL_shares_232 ⟨Nat.le_of_ble_eq_true rfl, Nat.le_of_ble_eq_true rfl⟩) ?_
                            refine lv_lmul hx hb dL_shares_235 ?_
                            refine b_tl (y := 0) (by decide) ?_
                            refine lv_lload_n hx hb dL_shares_236 rfl (lv_at hl 7 rfl) ?_
                            refine lv_lrem hx hb dL_shares_237 (by decide) ?_
                            refine b_tl (y := 0) (by decide) ?_
                            refine lv_lmul hx hb dL_shares_238 ?_
                            refine b_tl (y := 0) (by decide) ?_
                            refine lv_lload_n hx hb dL_shares_239 rfl (lv_at hl 7 rfl) ?_
                            refine lv_lrem hx hb dL_shares_240 (by decide) ?_
                            refine b_tl (y := 0) (by decide) ?_
                            refine W.lcmp hx hb dL_shares_241 ?_
                            refine b_ti (y := 0) (by decide) ?_
                            refine lv_if_ne (tgt := 249) hx hb dL_shares_242 (by decide) (fun c_9 => ?_) (fun c_9 => ?_)
                            · have n_9 := c_9
                              exact absurd c_9 (by decide)
                            · have n_9 := c_9
                              refine lv_iconst (v := 1) hx hb dL_shares_245 (by decide) ?_
                              refine lv_goto (tgt := 250) hx hb dL_shares_246 (by decide) ?_
                              refine lv_istore (lv' := [(4, .int (1)), (9, .int (nI (6))), (7, .long (0)), (6, .int (nI (k2 + 1))), (5, .int (1)), (0, .ref (a 0)), (1, .ref (a 21)), (2, .long (1000000007))]) hx hb dL_shares_250 hl (by decide) rfl (fun ls hl => ?_)
                              refine lv_iinc (v := nI (k2 + 1 + 1)) (lv' := [(6, .int (nI (k2 + 1 + 1))), (4, .int (1)), (9, .int (nI (6))), (7, .long (0)), (5, .int (1)), (0, .ref (a 0)), (1, .ref (a 21)), (2, .long (1000000007))]) hx hb dL_shares_252 hl (k := 3) rfl (nI_1 (k2 + 1)) (by decide) rfl (fun ls hl => ?_)
                              refine lv_goto (tgt := 132) hx hb dL_shares_255 (by decide) ?_
                              exact ih2 (k2 + 1) (by omega) ls (lv_sub hl [0, 4, 1, 5, 6, 7] rfl)
                          · have n_8 : ¬ ((6) ≤ (6)) := fun h => c_8 ((nI_leI (a := 6) (b := 6) (by omega) (by omega)).mpr h)
                            exfalso; omega
                        | succ n3 ih3 =>
                          intro k3 hk3  ls hl
                          have hk3b : k3 < 6 := by omega
                          refine lv_iload hx hb dL_shares_155 (lv_at hl 0 rfl) ?_
                          refine lv_bipush (v := 6) hx hb dL_shares_157 (by decide) ?_
                          refine lv_icmp_ge (tgt := 212) hx hb dL_shares_159 (by decide) (fun c_10 => ?_) (fun c_10 => ?_)
                          · have n_10 : (6) ≤ (k3) := (nI_leI (a := 6) (b := k3) (by omega) (by omega)).mp c_10
                            exfalso; omega
                          · have n_10 : ¬ ((6) ≤ (k3)) := fun h => c_10 ((nI_leI (a := 6) (b := k3) (by omega) (by omega)).mpr h)
                            refine lv_aload_n hx hb dL_shares_162 rfl (lv_at hl 5 rfl) ?_
                            refine lv_iload hx hb dL_shares_163 (lv_at hl 0 rfl) ?_
                            refine b_csl (v := (nuI 6) k3) (W.runV (As := [.int (nI (k3))]) (rest := []) ⟨hx, hb, hml, hown, hts⟩ (c_X3_shareNumerator ll D a cI cJ z32 (nuI 6) (dnmI 6) z64 am nx z32 z32 z32 z32 (rtI 6) (rtI 6) (rtI 6) z32 z32 z32 z32 0 k3 (by omega)) (cwV 1 hts gL_shares_X3_shareNumerator rfl rfl rfl (by decide +kernel) ⟨Nat.le_of_ble_eq_true rfl, Nat.le_of_ble_eq_true rfl⟩) ⟨PR.blind, va_recv hK hP (ci := 3) (q0 := 0) rfl rfl, PR.goP (wr := (LR a cI nw)) hP hK hE⟩ rfl rfl hl.1 rfl (lv_room (Nat.le_of_ble_eq_true rfl)) dL_shares_165 ⟨Nat.le_of_ble_eq_true rfl, Nat.le_of_ble_eq_true rfl⟩) ?_
                            refine lv_lload_n hx hb dL_shares_168 rfl (lv_at hl 7 rfl) ?_
                            refine lv_lrem hx hb dL_shares_169 (by decide) ?_
                            refine lv_aload_n hx hb dL_shares_170 rfl (lv_at hl 5 rfl) ?_
                            refine lv_iload hx hb dL_shares_171 (lv_at hl 0 rfl) ?_
                            refine b_csl (v := (dnmI 6) k3) (W.runV (As := [.int (nI (k3))]) (rest := [.long (((nuI 6) k3) - ((nuI 6) k3) / (1000000007) * (1000000007))]) ⟨hx, hb, hml, hown, hts⟩ (c_X3_shareDenominator ll D a cI cJ z32 (nuI 6) (dnmI 6) z64 am nx z32 z32 z32 z32 (rtI 6) (rtI 6) (rtI 6) z32 z32 z32 z32 0 k3 (by omega)) (cwV 1 hts gL_shares_X3_shareDenominator rfl rfl rfl (by decide +kernel) ⟨Nat.le_of_ble_eq_true rfl, Nat.le_of_ble_eq_true rfl⟩) ⟨PR.blind, va_recv hK hP (ci := 3) (q0 := 0) rfl rfl, PR.goP (wr := (LR a cI nw)) hP hK hE⟩ rfl rfl hl.1 rfl (lv_room (Nat.le_of_ble_eq_true rfl)) dL_shares_173 ⟨Nat.le_of_ble_eq_true rfl, Nat.le_of_ble_eq_true rfl⟩) ?_
                            refine b_tl (y := 1) (kq_de (k3) (by omega)) ?_
                            refine lv_lload_n hx hb dL_shares_176 rfl (lv_at hl 7 rfl) ?_
                            refine b_csl (v := 1) (W.runS (As := [.long (1), .long (1000000007)]) (rest := [.long (((nuI 6) k3) - ((nuI 6) k3) / (1000000007) * (1000000007))]) ⟨hx, hb, hml, hown, hts⟩ (c_L_inverse_p1 ll  ) (va_cwS 2 hts gL_shares_L_inverse rfl rfl rfl (by decide +kernel) ⟨Nat.le_of_ble_eq_true rfl, Nat.le_of_ble_eq_true rfl⟩) ⟨PT.blind, PT.to⟩ rfl rfl hl.1 rfl (lv_room (Nat.le_of_ble_eq_true rfl)) dL_shares_177 ⟨Nat.le_of_ble_eq_true rfl, Nat.le_of_ble_eq_true rfl⟩) ?_
                            refine lv_lmul hx hb dL_shares_180 ?_
                            refine lv_lload_n hx hb dL_shares_181 rfl (lv_at hl 7 rfl) ?_
                            refine lv_lrem hx hb dL_shares_182 (by decide) ?_
                            refine lv_lstore (lv' := [(10, .long (((((nuI 6) k3) - ((nuI 6) k3) / (1000000007) * (1000000007)) * (1)) - ((((nuI 6) k3) - ((nuI 6) k3) / (1000000007) * (1000000007)) * (1)) / (1000000007) * (1000000007))), (9, .int (nI (k3))), (7, .long (0)), (6, .int (nI (k2 + 1))), (5, .int (1)), (4, .int (1)), (0, .ref (a 0)), (1, .ref (a 21)), (2, .long (1000000007))]) hx hb dL_shares_183 hl (by decide) rfl (fun ls hl => ?_)
                            refine lv_lload hx hb dL_shares_185 (lv_at hl 2 rfl) ?_
                            refine lv_aload_n hx hb dL_shares_187 rfl (lv_at hl 7 rfl) ?_
                            refine lv_bipush (v := 6) hx hb dL_shares_188 (by decide) ?_
                            refine lv_iload hx hb dL_shares_190 (lv_at hl 1 rfl) ?_
                            refine lv_imul hx hb dL_shares_192 ?_
                            refine b_ti (pk_mul (6) (k3)) ?_
                            refine lv_iload hx hb dL_shares_193 (lv_at hl 3 rfl) ?_
                            refine lv_iadd hx hb dL_shares_195 ?_
                            refine b_ti (nI_add ((6) * (k3)) (k2 + 1)) ?_
                            refine b_iald hx hb hK hP 21 0 (f := z32) rfl rfl (j := ((6) * (k3)) + (k2 + 1)) (by omega) (by decide) dL_shares_196 ?_
                            refine b_ti (y := 0) rfl ?_
                            refine lv_i2l (v := (0 : Int32).toInt64) hx hb dL_shares_197 rfl ?_
                            refine b_tl (y := 0) (by decide) ?_
                            refine lv_lload hx hb dL_shares_198 (lv_at hl 0 rfl) ?_
                            refine lv_lmul hx hb dL_shares_200 ?_
                            refine b_tl (y := 0) Int64.zero_mul ?_
                            refine lv_ladd hx hb dL_shares_201 ?_
                            refine b_tl (y := 0) (by decide) ?_
                            refine lv_lload_n hx hb dL_shares_202 rfl (lv_at hl 8 rfl) ?_
                            refine lv_lrem hx hb dL_shares_203 (by decide) ?_
                            refine b_tl (y := 0) (by decide) ?_
                            refine lv_lstore (lv' := [(7, .long (0)), (10, .long (((((nuI 6) k3) - ((nuI 6) k3) / (1000000007) * (1000000007)) * (1)) - ((((nuI 6) k3) - ((nuI 6) k3) / (1000000007) * (1000000007)) * (1)) / (1000000007) * (1000000007))), (9, .int (nI (k3))), (6, .int (nI (k2 + 1))), (5, .int (1)), (4, .int (1)), (0, .ref (a 0)), (1, .ref (a 21)), (2, .long (1000000007))]) hx hb dL_shares_204 hl (by decide) rfl (fun ls hl => ?_)
                            refine lv_iinc (v := nI (k3 + 1)) (lv' := [(9, .int (nI (k3 + 1))), (7, .long (0)), (10, .long (((((nuI 6) k3) - ((nuI 6) k3) / (1000000007) * (1000000007)) * (1)) - ((((nuI 6) k3) - ((nuI 6) k3) / (1000000007) * (1000000007)) * (1)) / (1000000007) * (1000000007))), (6, .int (nI (k2 + 1))), (5, .int (1)), (4, .int (1)), (0, .ref (a 0)), (1, .ref (a 21)), (2, .long (1000000007))]) hx hb dL_shares_206 hl (k := 2) rfl (nI_1 (k3)) (by decide) rfl (fun ls hl => ?_)
                            refine lv_goto (tgt := 155) hx hb dL_shares_209 (by decide) ?_
                            exact ih3 (k3 + 1) (by omega) ls (lv_sub hl [0, 1, 3, 4, 5, 6, 7, 8] rfl)
                      exact L3 (6) 0 (by omega) ls (lv_sub hl [0, 1, 2, 3, 4, 5, 6, 7] rfl)
            exact L2 (5) 0 (by omega) ls (lv_sub hl [0, 1, 2, 3, 4, 5] rfl)
          · have n_3 : ¬ ((6) ≤ (5 + 1)) := fun h => c_3 ((nI_leI (a := 6) (b := 5 + 1) (by omega) (by omega)).mpr h)
            exfalso; omega
        | succ n1 ih1 =>
          intro k1 hk1  ls hl
          have hk1b : k1 < 5 := by omega
          refine lv_iload hx hb dL_shares_33 (lv_at hl 0 rfl) ?_
          refine lv_bipush (v := 6) hx hb dL_shares_35 (by decide) ?_
          refine lv_icmp_ge (tgt := 129) hx hb dL_shares_37 (by decide) (fun c_11 => ?_) (fun c_11 => ?_)
          · have n_11 : (6) ≤ (k1 + 1) := (nI_leI (a := 6) (b := k1 + 1) (by omega) (by omega)).mp c_11
            exfalso; omega
          · have n_11 : ¬ ((6) ≤ (k1 + 1)) := fun h => c_11 ((nI_leI (a := 6) (b := k1 + 1) (by omega) (by omega)).mpr h)
            refine lv_iload hx hb dL_shares_40 (lv_at hl 2 rfl) ?_
            refine lv_if_eq (tgt := 129) hx hb dL_shares_42 (by decide) (fun c_12 => ?_) (fun c_12 => ?_)
            · have n_12 := c_12
              exact absurd c_12 (by decide)
            · have n_12 := c_12
              refine lv_aload_n hx hb dL_shares_45 rfl (lv_at hl 3 rfl) ?_
              refine lv_iload hx hb dL_shares_46 (lv_at hl 0 rfl) ?_
              refine b_csl (v := (nuI 6) (k1 + 1)) (W.runV (As := [.int (nI (k1 + 1))]) (rest := []) ⟨hx, hb, hml, hown, hts⟩ (c_X3_shareNumerator ll D a cI cJ z32 (nuI 6) (dnmI 6) z64 am nx z32 z32 z32 z32 (rtI 6) (rtI 6) (rtI 6) z32 z32 z32 z32 0 (k1 + 1) (by omega)) (cwV 1 hts gL_shares_X3_shareNumerator rfl rfl rfl (by decide +kernel) ⟨Nat.le_of_ble_eq_true rfl, Nat.le_of_ble_eq_true rfl⟩) ⟨PR.blind, va_recv hK hP (ci := 3) (q0 := 0) rfl rfl, PR.goP (wr := (LR a cI nw)) hP hK hE⟩ rfl rfl hl.1 rfl (lv_room (Nat.le_of_ble_eq_true rfl)) dL_shares_48 ⟨Nat.le_of_ble_eq_true rfl, Nat.le_of_ble_eq_true rfl⟩) ?_
              refine b_tl (y := 0) (kq_nu (k1 + 1) (by omega) (by omega)) ?_
              refine lv_lstore (lv' := [(7, .long (0)), (6, .int (nI (k1 + 1))), (5, .int (1)), (4, .int (1)), (0, .ref (a 0)), (1, .ref (a 21)), (2, .long (1000000007))]) hx hb dL_shares_51 hl (by decide) rfl (fun ls hl => ?_)
              refine lv_aload_n hx hb dL_shares_53 rfl (lv_at hl 4 rfl) ?_
              refine lv_iload hx hb dL_shares_54 (lv_at hl 1 rfl) ?_
              refine b_csl (v := (dnmI 6) (k1 + 1)) (W.runV (As := [.int (nI (k1 + 1))]) (rest := []) ⟨hx, hb, hml, hown, hts⟩ (c_X3_shareDenominator ll D a cI cJ z32 (nuI 6) (dnmI 6) z64 am nx z32 z32 z32 z32 (rtI 6) (rtI 6) (rtI 6) z32 z32 z32 z32 0 (k1 + 1) (by omega)) (cwV 1 hts gL_shares_X3_shareDenominator rfl rfl rfl (by decide +kernel) ⟨Nat.le_of_ble_eq_true rfl, Nat.le_of_ble_eq_true rfl⟩) ⟨PR.blind, va_recv hK hP (ci := 3) (q0 := 0) rfl rfl, PR.goP (wr := (LR a cI nw)) hP hK hE⟩ rfl rfl hl.1 rfl (lv_room (Nat.le_of_ble_eq_true rfl)) dL_shares_56 ⟨Nat.le_of_ble_eq_true rfl, Nat.le_of_ble_eq_true rfl⟩) ?_
              refine b_tl (y := 1) (kq_de (k1 + 1) (by omega)) ?_
              refine lv_lstore (lv' := [(9, .long (1)), (7, .long (0)), (6, .int (nI (k1 + 1))), (5, .int (1)), (4, .int (1)), (0, .ref (a 0)), (1, .ref (a 21)), (2, .long (1000000007))]) hx hb dL_shares_59 hl (by decide) rfl (fun ls hl => ?_)
              refine lv_lload hx hb dL_shares_61 (lv_at hl 0 rfl) ?_
              refine lv_lconst (v := 0) hx hb dL_shares_63 (by decide) ?_
              refine W.lcmp hx hb dL_shares_64 ?_
              refine b_ti (y := 1) (by decide) ?_
              refine lv_if_le (tgt := 99) hx hb dL_shares_65 (by decide) (fun c_13 => ?_) (fun c_13 => ?_)
              · have n_13 := c_13
                exact absurd c_13 (by decide)
              · have n_13 := c_13
                refine lv_lload hx hb dL_shares_68 (lv_at hl 1 rfl) ?_
                refine lv_lconst (v := 0) hx hb dL_shares_70 (by decide) ?_
                refine W.lcmp hx hb dL_shares_71 ?_
                refine b_ti (y := 0) (by decide) ?_
                refine lv_if_lt (tgt := 99) hx hb dL_shares_72 (by decide) (fun c_14 => ?_) (fun c_14 => ?_)
                · have n_14 := c_14
                  exact absurd c_14 (by decide)
                · have n_14 := c_14
                  refine lv_lload hx hb dL_shares_75 (lv_at hl 1 rfl) ?_
                  refine lv_lload hx hb dL_shares_77 (lv_at hl 0 rfl) ?_
                  refine W.lcmp hx hb dL_shares_79 ?_
                  refine b_ti (y := (-1)) (by decide) ?_
                  refine lv_if_gt (tgt := 99) hx hb dL_shares_80 (by decide) (fun c_15 => ?_) (fun c_15 => ?_)
                  · have n_15 := c_15
                    exact absurd c_15 (by decide)
                  · have n_15 := c_15
                    refine lv_lload hx hb dL_shares_83 (lv_at hl 0 rfl) ?_
                    refine lv_lload hx hb dL_shares_85 (lv_at hl 1 rfl) ?_
                    refine b_csl (v := 1) (W.runS (As := [.long (1), .long (0)]) (rest := []) ⟨hx, hb, hml, hown, hts⟩ (c_L_common ll  ) (va_cwS 2 hts gL_shares_L_common rfl rfl rfl (by decide +kernel) ⟨Nat.le_of_ble_eq_true rfl, Nat.le_of_ble_eq_true rfl⟩) ⟨PT.blind, PT.to⟩ rfl rfl hl.1 rfl (lv_room (Nat.le_of_ble_eq_true rfl)) dL_shares_87 ⟨Nat.le_of_ble_eq_true rfl, Nat.le_of_ble_eq_true rfl⟩) ?_
                    refine lv_lconst (v := 1) hx hb dL_shares_90 (by decide) ?_
                    refine W.lcmp hx hb dL_shares_91 ?_
                    refine b_ti (y := 0) (by decide) ?_
                    refine lv_if_ne (tgt := 99) hx hb dL_shares_92 (by decide) (fun c_16 => ?_) (fun c_16 => ?_)
                    · have n_16 := c_16
                      exact absurd c_16 (by decide)
                    · have n_16 := c_16
                      refine lv_iconst (v := 1) hx hb dL_shares_95 (by decide) ?_
                      refine lv_goto (tgt := 100) hx hb dL_shares_96 (by decide) ?_
                      refine lv_istore (lv' := [(4, .int (1)), (9, .long (1)), (7, .long (0)), (6, .int (nI (k1 + 1))), (5, .int (1)), (0, .ref (a 0)), (1, .ref (a 21)), (2, .long (1000000007))]) hx hb dL_shares_100 hl (by decide) rfl (fun ls hl => ?_)
                      refine lv_iload hx hb dL_shares_102 (lv_at hl 4 rfl) ?_
                      refine lv_if_eq (tgt := 120) hx hb dL_shares_104 (by decide) (fun c_17 => ?_) (fun c_17 => ?_)
                      · have n_17 := c_17
                        exact absurd c_17 (by decide)
                      · have n_17 := c_17
                        refine lv_lload hx hb dL_shares_107 (lv_at hl 1 rfl) ?_
                        refine lv_lload_n hx hb dL_shares_109 rfl (lv_at hl 7 rfl) ?_
                        refine lv_lrem hx hb dL_shares_110 (by decide) ?_
                        refine b_tl (y := 1) (by decide) ?_
                        refine lv_lconst (v := 0) hx hb dL_shares_111 (by decide) ?_
                        refine W.lcmp hx hb dL_shares_112 ?_
                        refine b_ti (y := 1) (by decide) ?_
                        refine lv_if_eq (tgt := 120) hx hb dL_shares_113 (by decide) (fun c_18 => ?_) (fun c_18 => ?_)
                        · have n_18 := c_18
                          exact absurd c_18 (by decide)
                        · have n_18 := c_18
                          refine lv_iconst (v := 1) hx hb dL_shares_116 (by decide) ?_
                          refine lv_goto (tgt := 121) hx hb dL_shares_117 (by decide) ?_
                          refine lv_istore (lv' := [(5, .int (1)), (4, .int (1)), (9, .long (1)), (7, .long (0)), (6, .int (nI (k1 + 1))), (0, .ref (a 0)), (1, .ref (a 21)), (2, .long (1000000007))]) hx hb dL_shares_121 hl (by decide) rfl (fun ls hl => ?_)
                          refine lv_iinc (v := nI (k1 + 1 + 1)) (lv' := [(6, .int (nI (k1 + 1 + 1))), (5, .int (1)), (4, .int (1)), (9, .long (1)), (7, .long (0)), (0, .ref (a 0)), (1, .ref (a 21)), (2, .long (1000000007))]) hx hb dL_shares_123 hl (k := 4) rfl (nI_1 (k1 + 1)) (by decide) rfl (fun ls hl => ?_)
                          refine lv_goto (tgt := 33) hx hb dL_shares_126 (by decide) ?_
                          exact ih1 (k1 + 1) (by omega) ls (lv_sub hl [0, 1, 2, 5, 6, 7] rfl)
      exact L1 (5) 0 (by omega) ls (lv_sub hl [0, 1, 2, 3, 4, 5] rfl)

abbrev rmL_shares_p2 : Room := ({ frames := 3, cells := 0, slots := 0, locals := 63 } : Room)
set_option maxHeartbeats 4000000 in
set_option maxRecDepth 100000 in
theorem c_L_shares_p2 (ll : Launch) (D : va_G) (a : Nat → Nat) (cI cJ : ClassId) (am nx nw : Nat → Int32)   : Met ll yL_shares wsL_shares rmL_shares_p2 (va_Pc [.ref (a 0), .ref (a 21), .long (998244353)] (PR D (tyG cI cJ) (KW a cI cJ am nx nw))) (vp_Si (fun rr => rr = 1)) 0 0 (fun _ => False) := by
  refine Met.ofW (cc := cL_shares) (maxL := 12) (ret := (some .boolean)) (by decide) rfl ?_
  intro pp ee ss mm ar bel mth cde s₁ B hml hv
  obtain ⟨rfl, hP, hK, hE⟩ := hv
  have hx := B.exec
  have hb := B.bytes
  have hr := B.returns
  have hts := atoms_spec (ws := wsL_shares) B.pre
  have hown : ss.vm.findClass RL = some mm.cls := findClass_of_methodNamed B.named
  have hlocks := B.notSynchronized
  have hl := lv_entry [.ref (a 0), .ref (a 21), .long (998244353)] (n := 12) (Nat.le_of_ble_eq_true rfl)
  rw [lg_entry_eq]
  generalize (lg_sl [.ref (a 0), .ref (a 21), .long (998244353)] ++ List.replicate (12 - (lg_sl [.ref (a 0), .ref (a 21), .long (998244353)]).length) Slot.unset).toArray = ls at hl ⊢
  have hl : lv_has ls 12 [(0, .ref (a 0)), (1, .ref (a 21)), (2, .long (998244353))] := hl
  generalize hZ : MQ bel _ _ ss _ _ _ = Z
  refine lv_aload_n hx hb dL_shares_0 rfl (lv_at hl 0 rfl) ?_
  refine lv_iconst (v := 0) hx hb dL_shares_1 (by decide) ?_
  refine b_csl (v := (nuI 6) 0) (W.runV (As := [.int (0)]) (rest := []) ⟨hx, hb, hml, hown, hts⟩ (c_X3_shareNumerator ll D a cI cJ z32 (nuI 6) (dnmI 6) z64 am nx z32 z32 z32 z32 (rtI 6) (rtI 6) (rtI 6) z32 z32 z32 z32 0 0 (by omega)) (cwV 1 hts gL_shares_X3_shareNumerator rfl rfl rfl (by decide +kernel) ⟨Nat.le_of_ble_eq_true rfl, Nat.le_of_ble_eq_true rfl⟩) ⟨PR.blind, va_recv hK hP (ci := 3) (q0 := 0) rfl rfl, PR.goP (wr := (LR a cI nw)) hP hK hE⟩ rfl rfl hl.1 rfl (lv_room (Nat.le_of_ble_eq_true rfl)) dL_shares_2 ⟨Nat.le_of_ble_eq_true rfl, Nat.le_of_ble_eq_true rfl⟩) ?_
  refine b_tl (y := 1) kq_nu0 ?_
  refine lv_lconst (v := 1) hx hb dL_shares_5 (by decide) ?_
  refine W.lcmp hx hb dL_shares_6 ?_
  refine b_ti (y := 0) (by decide) ?_
  refine lv_if_ne (tgt := 24) hx hb dL_shares_7 (by decide) (fun c_1 => ?_) (fun c_1 => ?_)
  · have n_1 := c_1
    exact absurd c_1 (by decide)
  · have n_1 := c_1
    refine lv_aload_n hx hb dL_shares_10 rfl (lv_at hl 0 rfl) ?_
    refine lv_iconst (v := 0) hx hb dL_shares_11 (by decide) ?_
    refine b_csl (v := (dnmI 6) 0) (W.runV (As := [.int (0)]) (rest := []) ⟨hx, hb, hml, hown, hts⟩ (c_X3_shareDenominator ll D a cI cJ z32 (nuI 6) (dnmI 6) z64 am nx z32 z32 z32 z32 (rtI 6) (rtI 6) (rtI 6) z32 z32 z32 z32 0 0 (by omega)) (cwV 1 hts gL_shares_X3_shareDenominator rfl rfl rfl (by decide +kernel) ⟨Nat.le_of_ble_eq_true rfl, Nat.le_of_ble_eq_true rfl⟩) ⟨PR.blind, va_recv hK hP (ci := 3) (q0 := 0) rfl rfl, PR.goP (wr := (LR a cI nw)) hP hK hE⟩ rfl rfl hl.1 rfl (lv_room (Nat.le_of_ble_eq_true rfl)) dL_shares_12 ⟨Nat.le_of_ble_eq_true rfl, Nat.le_of_ble_eq_true rfl⟩) ?_
    refine b_tl (y := 1) (kq_de (0) (by omega)) ?_
    refine lv_lconst (v := 1) hx hb dL_shares_15 (by decide) ?_
    refine W.lcmp hx hb dL_shares_16 ?_
    refine b_ti (y := 0) (by decide) ?_
    refine lv_if_ne (tgt := 24) hx hb dL_shares_17 (by decide) (fun c_2 => ?_) (fun c_2 => ?_)
    · have n_2 := c_2
      exact absurd c_2 (by decide)
    · have n_2 := c_2
      refine lv_iconst (v := 1) hx hb dL_shares_20 (by decide) ?_
      refine lv_goto (tgt := 25) hx hb dL_shares_21 (by decide) ?_
      refine lv_istore (lv' := [(4, .int (1)), (0, .ref (a 0)), (1, .ref (a 21)), (2, .long (998244353))]) hx hb dL_shares_25 hl (by decide) rfl (fun ls hl => ?_)
      refine lv_iconst (v := 1) hx hb dL_shares_27 (by decide) ?_
      refine lv_istore (lv' := [(5, .int (1)), (4, .int (1)), (0, .ref (a 0)), (1, .ref (a 21)), (2, .long (998244353))]) hx hb dL_shares_28 hl (by decide) rfl (fun ls hl => ?_)
      refine lv_iconst (v := 1) hx hb dL_shares_30 (by decide) ?_
      refine lv_istore (lv' := [(6, .int (1)), (5, .int (1)), (4, .int (1)), (0, .ref (a 0)), (1, .ref (a 21)), (2, .long (998244353))]) hx hb dL_shares_31 hl (by decide) rfl (fun ls hl => ?_)
      have L1 : ∀ (n1 k1 : Nat), k1 + n1 = 5 → ∀ (ls : Array Slot), lv_has ls 12 [(6, .int (nI (k1 + 1))), (5, .int (1)), (4, .int (1)), (0, .ref (a 0)), (1, .ref (a 21)), (2, .long (998244353))] → W pp ll ee rmL_shares_p2 ss mm (([.ref (a 0), .ref (a 21), .long (998244353)] : List Value).toArray) bel mth cde ss.heap [] 0 0 Z (F0 mm 33 ls []) := by
        intro n1
        induction n1 with
        | zero =>
          intro k1 hk1  ls hl
          have hk1b : 5 = k1 := by omega
          subst hk1b
          refine lv_iload hx hb dL_shares_33 (lv_at hl 0 rfl) ?_
          refine lv_bipush (v := 6) hx hb dL_shares_35 (by decide) ?_
          refine lv_icmp_ge (tgt := 129) hx hb dL_shares_37 (by decide) (fun c_3 => ?_) (fun c_3 => ?_)
          · have n_3 : (6) ≤ (5 + 1) := (nI_leI (a := 6) (b := 5 + 1) (by omega) (by omega)).mp c_3
            refine lv_iconst (v := 1) hx hb dL_shares_129 (by decide) ?_
            refine lv_istore (lv' := [(6, .int (1)), (5, .int (1)), (4, .int (1)), (0, .ref (a 0)), (1, .ref (a 21)), (2, .long (998244353))]) hx hb dL_shares_130 hl (by decide) rfl (fun ls hl => ?_)
            have L2 : ∀ (n2 k2 : Nat), k2 + n2 = 5 → ∀ (ls : Array Slot), lv_has ls 12 [(6, .int (nI (k2 + 1))), (5, .int (1)), (4, .int (1)), (0, .ref (a 0)), (1, .ref (a 21)), (2, .long (998244353))] → W pp ll ee rmL_shares_p2 ss mm (([.ref (a 0), .ref (a 21), .long (998244353)] : List Value).toArray) bel mth cde ss.heap [] 0 0 Z (F0 mm 132 ls []) := by
              intro n2
              induction n2 with
              | zero =>
                intro k2 hk2  ls hl
                have hk2b : 5 = k2 := by omega
                subst hk2b
                refine lv_iload hx hb dL_shares_132 (lv_at hl 0 rfl) ?_
                refine lv_bipush (v := 6) hx hb dL_shares_134 (by decide) ?_
                refine lv_icmp_ge (tgt := 258) hx hb dL_shares_136 (by decide) (fun c_4 => ?_) (fun c_4 => ?_)
                · have n_4 : (6) ≤ (5 + 1) := (nI_leI (a := 6) (b := 5 + 1) (by omega) (by omega)).mp c_4
                  refine lv_iload hx hb dL_shares_258 (lv_at hl 2 rfl) ?_
                  subst hZ; exact W.zret hx hb hr ((by decide)) (fun t ht _ => ⟨_, rfl, rfl, ht⟩) (fun _ h => nomatch h) dL_shares_260
                · have n_4 : ¬ ((6) ≤ (5 + 1)) := fun h => c_4 ((nI_leI (a := 6) (b := 5 + 1) (by omega) (by omega)).mpr h)
                  exfalso; omega
              | succ n2 ih2 =>
                intro k2 hk2  ls hl
                have hk2b : k2 < 5 := by omega
                refine lv_iload hx hb dL_shares_132 (lv_at hl 0 rfl) ?_
                refine lv_bipush (v := 6) hx hb dL_shares_134 (by decide) ?_
                refine lv_icmp_ge (tgt := 258) hx hb dL_shares_136 (by decide) (fun c_5 => ?_) (fun c_5 => ?_)
                · have n_5 : (6) ≤ (k2 + 1) := (nI_leI (a := 6) (b := k2 + 1) (by omega) (by omega)).mp c_5
                  exfalso; omega
                · have n_5 : ¬ ((6) ≤ (k2 + 1)) := fun h => c_5 ((nI_leI (a := 6) (b := k2 + 1) (by omega) (by omega)).mpr h)
                  refine lv_iload hx hb dL_shares_139 (lv_at hl 2 rfl) ?_
                  refine lv_if_eq (tgt := 258) hx hb dL_shares_141 (by decide) (fun c_6 => ?_) (fun c_6 => ?_)
                  · have n_6 := c_6
                    exact absurd c_6 (by decide)
                  · have n_6 := c_6
                    refine lv_iload hx hb dL_shares_144 (lv_at hl 1 rfl) ?_
                    refine lv_if_eq (tgt := 258) hx hb dL_shares_146 (by decide) (fun c_7 => ?_) (fun c_7 => ?_)
                    · have n_7 := c_7
                      exact absurd c_7 (by decide)
                    · have n_7 := c_7
                      refine lv_lconst (v := 0) hx hb dL_shares_149 (by decide) ?_
                      refine lv_lstore (lv' := [(7, .long (0)), (6, .int (nI (k2 + 1))), (5, .int (1)), (4, .int (1)), (0, .ref (a 0)), (1, .ref (a 21)), (2, .long (998244353))]) hx hb dL_shares_150 hl (by decide) rfl (fun ls hl => ?_)
                      refine lv_iconst (v := 0) hx hb dL_shares_152 (by decide) ?_
                      refine lv_istore (lv' := [(9, .int (0)), (7, .long (0)), (6, .int (nI (k2 + 1))), (5, .int (1)), (4, .int (1)), (0, .ref (a 0)), (1, .ref (a 21)), (2, .long (998244353))]) hx hb dL_shares_153 hl (by decide) rfl (fun ls hl => ?_)
                      have L3 : ∀ (n3 k3 : Nat), k3 + n3 = 6 → ∀ (ls : Array Slot), lv_has ls 12 [(9, .int (nI (k3))), (7, .long (0)), (6, .int (nI (k2 + 1))), (5, .int (1)), (4, .int (1)), (0, .ref (a 0)), (1, .ref (a 21)), (2, .long (998244353))] → W pp ll ee rmL_shares_p2 ss mm (([.ref (a 0), .ref (a 21), .long (998244353)] : List Value).toArray) bel mth cde ss.heap [] 0 0 Z (F0 mm 155 ls []) := by
                        intro n3
                        induction n3 with
                        | zero =>
                          intro k3 hk3  ls hl
                          have hk3b : 6 = k3 := by omega
                          subst hk3b
                          refine lv_iload hx hb dL_shares_155 (lv_at hl 0 rfl) ?_
                          refine lv_bipush (v := 6) hx hb dL_shares_157 (by decide) ?_
                          refine lv_icmp_ge (tgt := 212) hx hb dL_shares_159 (by decide) (fun c_8 => ?_) (fun c_8 => ?_)
                          · have n_8 : (6) ≤ (6) := (nI_leI (a := 6) (b := 6) (by omega) (by omega)).mp c_8
                            refine lv_lload hx hb dL_shares_212 (lv_at hl 1 rfl) ?_
                            refine lv_ldc2 (v := 100) hx hb hown (hts (.constantLong RL 44 (100)) (by decide +kernel)) dL_shares_214 ?_
                            refine lv_aload_n hx hb dL_shares_217 rfl (lv_at hl 5 rfl) ?_
                            refine lv_iload hx hb dL_shares_218 (lv_at hl 2 rfl) ?_
                            refine b_csl (v := (nuI 6) (k2 + 1)) (W.runV (As := [.int (nI (k2 + 1))]) (rest := [.long ((100)), .long (0)]) ⟨hx, hb, hml, hown, hts⟩ (c_X3_shareNumerator ll D a cI cJ z32 (nuI 6) (dnmI 6) z64 am nx z32 z32 z32 z32 (rtI 6) (rtI 6) (rtI 6) z32 z32 z32 z32 0 (k2 + 1) (by omega)) (cwV 1 hts gL_shares_X3_shareNumerator rfl rfl rfl (by decide +kernel) ⟨Nat.le_of_ble_eq_true rfl, Nat.le_of_ble_eq_true rfl⟩) ⟨PR.blind, va_recv hK hP (ci := 3) (q0 := 0) rfl rfl, PR.goP (wr := (LR a cI nw)) hP hK hE⟩ rfl rfl hl.1 rfl (lv_room (Nat.le_of_ble_eq_true rfl)) dL_shares_220 ⟨Nat.le_of_ble_eq_true rfl, Nat.le_of_ble_eq_true rfl⟩) ?_
                            refine b_tl (y := 0) (kq_nu (k2 + 1) (by omega) (by omega)) ?_
                            refine lv_lload_n hx hb dL_shares_223 rfl (lv_at hl 7 rfl) ?_
                            refine lv_lrem hx hb dL_shares_224 (by decide) ?_
                            refine b_tl (y := 0) (by decide) ?_
                            refine lv_aload_n hx hb dL_shares_225 rfl (lv_at hl 5 rfl) ?_
                            refine lv_iload hx hb dL_shares_226 (lv_at hl 2 rfl) ?_
                            refine b_csl (v := (dnmI 6) (k2 + 1)) (W.runV (As := [.int (nI (k2 + 1))]) (rest := [.long (0), .long ((100)), .long (0)]) ⟨hx, hb, hml, hown, hts⟩ (c_X3_shareDenominator ll D a cI cJ z32 (nuI 6) (dnmI 6) z64 am nx z32 z32 z32 z32 (rtI 6) (rtI 6) (rtI 6) z32 z32 z32 z32 0 (k2 + 1) (by omega)) (cwV 1 hts gL_shares_X3_shareDenominator rfl rfl rfl (by decide +kernel) ⟨Nat.le_of_ble_eq_true rfl, Nat.le_of_ble_eq_true rfl⟩) ⟨PR.blind, va_recv hK hP (ci := 3) (q0 := 0) rfl rfl, PR.goP (wr := (LR a cI nw)) hP hK hE⟩ rfl rfl hl.1 rfl (lv_room (Nat.le_of_ble_eq_true rfl)) dL_shares_228 ⟨Nat.le_of_ble_eq_true rfl, Nat.le_of_ble_eq_true rfl⟩) ?_
                            refine b_tl (y := 1) (kq_de (k2 + 1) (by omega)) ?_
                            refine lv_lload_n hx hb dL_shares_231 rfl (lv_at hl 7 rfl) ?_
                            refine b_csl (v := 1) (W.runS (As := [.long (1), .long (998244353)]) (rest := [.long (0), .long ((100)), .long (0)]) ⟨hx, hb, hml, hown, hts⟩ (c_L_inverse_p2 ll  ) (va_cwS 2 hts gL_shares_L_inverse rfl rfl rfl (by decide +kernel) ⟨Nat.le_of_ble_eq_true rfl, Nat.le_of_ble_eq_true rfl⟩) ⟨PT.blind, PT.to⟩ rfl rfl hl.1 rfl (lv_room (Nat.le_of_ble_eq_true rfl)) dL_shares_232 ⟨Nat.le_of_ble_eq_true rfl, Nat.le_of_ble_eq_true rfl⟩) ?_
                            refine lv_lmul hx hb dL_shares_235 ?_
                            refine b_tl (y := 0) (by decide) ?_
                            refine lv_lload_n hx hb dL_shares_236 rfl (lv_at hl 7 rfl) ?_
                            refine lv_lrem hx hb dL_shares_237 (by decide) ?_
                            refine b_tl (y := 0) (by decide) ?_
                            refine lv_lmul hx hb dL_shares_238 ?_
                            refine b_tl (y := 0) (by decide) ?_
                            refine lv_lload_n hx hb dL_shares_239 rfl (lv_at hl 7 rfl) ?_
                            refine lv_lrem hx hb dL_shares_240 (by decide) ?_
                            refine b_tl (y := 0) (by decide) ?_
                            refine W.lcmp hx hb dL_shares_241 ?_
                            refine b_ti (y := 0) (by decide) ?_
                            refine lv_if_ne (tgt := 249) hx hb dL_shares_242 (by decide) (fun c_9 => ?_) (fun c_9 => ?_)
                            · have n_9 := c_9
                              exact absurd c_9 (by decide)
                            · have n_9 := c_9
                              refine lv_iconst (v := 1) hx hb dL_shares_245 (by decide) ?_
                              refine lv_goto (tgt := 250) hx hb dL_shares_246 (by decide) ?_
                              refine lv_istore (lv' := [(4, .int (1)), (9, .int (nI (6))), (7, .long (0)), (6, .int (nI (k2 + 1))), (5, .int (1)), (0, .ref (a 0)), (1, .ref (a 21)), (2, .long (998244353))]) hx hb dL_shares_250 hl (by decide) rfl (fun ls hl => ?_)
                              refine lv_iinc (v := nI (k2 + 1 + 1)) (lv' := [(6, .int (nI (k2 + 1 + 1))), (4, .int (1)), (9, .int (nI (6))), (7, .long (0)), (5, .int (1)), (0, .ref (a 0)), (1, .ref (a 21)), (2, .long (998244353))]) hx hb dL_shares_252 hl (k := 3) rfl (nI_1 (k2 + 1)) (by decide) rfl (fun ls hl => ?_)
                              refine lv_goto (tgt := 132) hx hb dL_shares_255 (by decide) ?_
                              exact ih2 (k2 + 1) (by omega) ls (lv_sub hl [0, 4, 1, 5, 6, 7] rfl)
                          · have n_8 : ¬ ((6) ≤ (6)) := fun h => c_8 ((nI_leI (a := 6) (b := 6) (by omega) (by omega)).mpr h)
                            exfalso; omega
                        | succ n3 ih3 =>
                          intro k3 hk3  ls hl
                          have hk3b : k3 < 6 := by omega
                          refine lv_iload hx hb dL_shares_155 (lv_at hl 0 rfl) ?_
                          refine lv_bipush (v := 6) hx hb dL_shares_157 (by decide) ?_
                          refine lv_icmp_ge (tgt := 212) hx hb dL_shares_159 (by decide) (fun c_10 => ?_) (fun c_10 => ?_)
                          · have n_10 : (6) ≤ (k3) := (nI_leI (a := 6) (b := k3) (by omega) (by omega)).mp c_10
                            exfalso; omega
                          · have n_10 : ¬ ((6) ≤ (k3)) := fun h => c_10 ((nI_leI (a := 6) (b := k3) (by omega) (by omega)).mpr h)
                            refine lv_aload_n hx hb dL_shares_162 rfl (lv_at hl 5 rfl) ?_
                            refine lv_iload hx hb dL_shares_163 (lv_at hl 0 rfl) ?_
                            refine b_csl (v := (nuI 6) k3) (W.runV (As := [.int (nI (k3))]) (rest := []) ⟨hx, hb, hml, hown, hts⟩ (c_X3_shareNumerator ll D a cI cJ z32 (nuI 6) (dnmI 6) z64 am nx z32 z32 z32 z32 (rtI 6) (rtI 6) (rtI 6) z32 z32 z32 z32 0 k3 (by omega)) (cwV 1 hts gL_shares_X3_shareNumerator rfl rfl rfl (by decide +kernel) ⟨Nat.le_of_ble_eq_true rfl, Nat.le_of_ble_eq_true rfl⟩) ⟨PR.blind, va_recv hK hP (ci := 3) (q0 := 0) rfl rfl, PR.goP (wr := (LR a cI nw)) hP hK hE⟩ rfl rfl hl.1 rfl (lv_room (Nat.le_of_ble_eq_true rfl)) dL_shares_165 ⟨Nat.le_of_ble_eq_true rfl, Nat.le_of_ble_eq_true rfl⟩) ?_
                            refine lv_lload_n hx hb dL_shares_168 rfl (lv_at hl 7 rfl) ?_
                            refine lv_lrem hx hb dL_shares_169 (by decide) ?_
                            refine lv_aload_n hx hb dL_shares_170 rfl (lv_at hl 5 rfl) ?_
                            refine lv_iload hx hb dL_shares_171 (lv_at hl 0 rfl) ?_
                            refine b_csl (v := (dnmI 6) k3) (W.runV (As := [.int (nI (k3))]) (rest := [.long (((nuI 6) k3) - ((nuI 6) k3) / (998244353) * (998244353))]) ⟨hx, hb, hml, hown, hts⟩ (c_X3_shareDenominator ll D a cI cJ z32 (nuI 6) (dnmI 6) z64 am nx z32 z32 z32 z32 (rtI 6) (rtI 6) (rtI 6) z32 z32 z32 z32 0 k3 (by omega)) (cwV 1 hts gL_shares_X3_shareDenominator rfl rfl rfl (by decide +kernel) ⟨Nat.le_of_ble_eq_true rfl, Nat.le_of_ble_eq_true rfl⟩) ⟨PR.blind, va_recv hK hP (ci := 3) (q0 := 0) rfl rfl, PR.goP (wr := (LR a cI nw)) hP hK hE⟩ rfl rfl hl.1 rfl (lv_room (Nat.le_of_ble_eq_true rfl)) dL_shares_173 ⟨Nat.le_of_ble_eq_true rfl, Nat.le_of_ble_eq_true rfl⟩) ?_
                            refine b_tl (y := 1) (kq_de (k3) (by omega)) ?_
                            refine lv_lload_n hx hb dL_shares_176 rfl (lv_at hl 7 rfl) ?_
                            refine b_csl (v := 1) (W.runS (As := [.long (1), .long (998244353)]) (rest := [.long (((nuI 6) k3) - ((nuI 6) k3) / (998244353) * (998244353))]) ⟨hx, hb, hml, hown, hts⟩ (c_L_inverse_p2 ll  ) (va_cwS 2 hts gL_shares_L_inverse rfl rfl rfl (by decide +kernel) ⟨Nat.le_of_ble_eq_true rfl, Nat.le_of_ble_eq_true rfl⟩) ⟨PT.blind, PT.to⟩ rfl rfl hl.1 rfl (lv_room (Nat.le_of_ble_eq_true rfl)) dL_shares_177 ⟨Nat.le_of_ble_eq_true rfl, Nat.le_of_ble_eq_true rfl⟩) ?_
                            refine lv_lmul hx hb dL_shares_180 ?_
                            refine lv_lload_n hx hb dL_shares_181 rfl (lv_at hl 7 rfl) ?_
                            refine lv_lrem hx hb dL_shares_182 (by decide) ?_
                            refine lv_lstore (lv' := [(10, .long (((((nuI 6) k3) - ((nuI 6) k3) / (998244353) * (998244353)) * (1)) - ((((nuI 6) k3) - ((nuI 6) k3) / (998244353) * (998244353)) * (1)) / (998244353) * (998244353))), (9, .int (nI (k3))), (7, .long (0)), (6, .int (nI (k2 + 1))), (5, .int (1)), (4, .int (1)), (0, .ref (a 0)), (1, .ref (a 21)), (2, .long (998244353))]) hx hb dL_shares_183 hl (by decide) rfl (fun ls hl => ?_)
                            refine lv_lload hx hb dL_shares_185 (lv_at hl 2 rfl) ?_
                            refine lv_aload_n hx hb dL_shares_187 rfl (lv_at hl 7 rfl) ?_
                            refine lv_bipush (v := 6) hx hb dL_shares_188 (by decide) ?_
                            refine lv_iload hx hb dL_shares_190 (lv_at hl 1 rfl) ?_
                            refine lv_imul hx hb dL_shares_192 ?_
                            refine b_ti (pk_mul (6) (k3)) ?_
                            refine lv_iload hx hb dL_shares_193 (lv_at hl 3 rfl) ?_
                            refine lv_iadd hx hb dL_shares_195 ?_
                            refine b_ti (nI_add ((6) * (k3)) (k2 + 1)) ?_
                            refine b_iald hx hb hK hP 21 0 (f := z32) rfl rfl (j := ((6) * (k3)) + (k2 + 1)) (by omega) (by decide) dL_shares_196 ?_
                            refine b_ti (y := 0) rfl ?_
                            refine lv_i2l (v := (0 : Int32).toInt64) hx hb dL_shares_197 rfl ?_
                            refine b_tl (y := 0) (by decide) ?_
                            refine lv_lload hx hb dL_shares_198 (lv_at hl 0 rfl) ?_
                            refine lv_lmul hx hb dL_shares_200 ?_
                            refine b_tl (y := 0) Int64.zero_mul ?_
                            refine lv_ladd hx hb dL_shares_201 ?_
                            refine b_tl (y := 0) (by decide) ?_
                            refine lv_lload_n hx hb dL_shares_202 rfl (lv_at hl 8 rfl) ?_
                            refine lv_lrem hx hb dL_shares_203 (by decide) ?_
                            refine b_tl (y := 0) (by decide) ?_
                            refine lv_lstore (lv' := [(7, .long (0)), (10, .long (((((nuI 6) k3) - ((nuI 6) k3) / (998244353) * (998244353)) * (1)) - ((((nuI 6) k3) - ((nuI 6) k3) / (998244353) * (998244353)) * (1)) / (998244353) * (998244353))), (9, .int (nI (k3))), (6, .int (nI (k2 + 1))), (5, .int (1)), (4, .int (1)), (0, .ref (a 0)), (1, .ref (a 21)), (2, .long (998244353))]) hx hb dL_shares_204 hl (by decide) rfl (fun ls hl => ?_)
                            refine lv_iinc (v := nI (k3 + 1)) (lv' := [(9, .int (nI (k3 + 1))), (7, .long (0)), (10, .long (((((nuI 6) k3) - ((nuI 6) k3) / (998244353) * (998244353)) * (1)) - ((((nuI 6) k3) - ((nuI 6) k3) / (998244353) * (998244353)) * (1)) / (998244353) * (998244353))), (6, .int (nI (k2 + 1))), (5, .int (1)), (4, .int (1)), (0, .ref (a 0)), (1, .ref (a 21)), (2, .long (998244353))]) hx hb dL_shares_206 hl (k := 2) rfl (nI_1 (k3)) (by decide) rfl (fun ls hl => ?_)
                            refine lv_goto (tgt := 155) hx hb dL_shares_209 (by decide) ?_
                            exact ih3 (k3 + 1) (by omega) ls (lv_sub hl [0, 1, 3, 4, 5, 6, 7, 8] rfl)
                      exact L3 (6) 0 (by omega) ls (lv_sub hl [0, 1, 2, 3, 4, 5, 6, 7] rfl)
            exact L2 (5) 0 (by omega) ls (lv_sub hl [0, 1, 2, 3, 4, 5] rfl)
          · have n_3 : ¬ ((6) ≤ (5 + 1)) := fun h => c_3 ((nI_leI (a := 6) (b := 5 + 1) (by omega) (by omega)).mpr h)
            exfalso; omega
        | succ n1 ih1 =>
          intro k1 hk1  ls hl
          have hk1b : k1 < 5 := by omega
          refine lv_iload hx hb dL_shares_33 (lv_at hl 0 rfl) ?_
          refine lv_bipush (v := 6) hx hb dL_shares_35 (by decide) ?_
          refine lv_icmp_ge (tgt := 129) hx hb dL_shares_37 (by decide) (fun c_11 => ?_) (fun c_11 => ?_)
          · have n_11 : (6) ≤ (k1 + 1) := (nI_leI (a := 6) (b := k1 + 1) (by omega) (by omega)).mp c_11
            exfalso; omega
          · have n_11 : ¬ ((6) ≤ (k1 + 1)) := fun h => c_11 ((nI_leI (a := 6) (b := k1 + 1) (by omega) (by omega)).mpr h)
            refine lv_iload hx hb dL_shares_40 (lv_at hl 2 rfl) ?_
            refine lv_if_eq (tgt := 129) hx hb dL_shares_42 (by decide) (fun c_12 => ?_) (fun c_12 => ?_)
            · have n_12 := c_12
              exact absurd c_12 (by decide)
            · have n_12 := c_12
              refine lv_aload_n hx hb dL_shares_45 rfl (lv_at hl 3 rfl) ?_
              refine lv_iload hx hb dL_shares_46 (lv_at hl 0 rfl) ?_
              refine b_csl (v := (nuI 6) (k1 + 1)) (W.runV (As := [.int (nI (k1 + 1))]) (rest := []) ⟨hx, hb, hml, hown, hts⟩ (c_X3_shareNumerator ll D a cI cJ z32 (nuI 6) (dnmI 6) z64 am nx z32 z32 z32 z32 (rtI 6) (rtI 6) (rtI 6) z32 z32 z32 z32 0 (k1 + 1) (by omega)) (cwV 1 hts gL_shares_X3_shareNumerator rfl rfl rfl (by decide +kernel) ⟨Nat.le_of_ble_eq_true rfl, Nat.le_of_ble_eq_true rfl⟩) ⟨PR.blind, va_recv hK hP (ci := 3) (q0 := 0) rfl rfl, PR.goP (wr := (LR a cI nw)) hP hK hE⟩ rfl rfl hl.1 rfl (lv_room (Nat.le_of_ble_eq_true rfl)) dL_shares_48 ⟨Nat.le_of_ble_eq_true rfl, Nat.le_of_ble_eq_true rfl⟩) ?_
              refine b_tl (y := 0) (kq_nu (k1 + 1) (by omega) (by omega)) ?_
              refine lv_lstore (lv' := [(7, .long (0)), (6, .int (nI (k1 + 1))), (5, .int (1)), (4, .int (1)), (0, .ref (a 0)), (1, .ref (a 21)), (2, .long (998244353))]) hx hb dL_shares_51 hl (by decide) rfl (fun ls hl => ?_)
              refine lv_aload_n hx hb dL_shares_53 rfl (lv_at hl 4 rfl) ?_
              refine lv_iload hx hb dL_shares_54 (lv_at hl 1 rfl) ?_
              refine b_csl (v := (dnmI 6) (k1 + 1)) (W.runV (As := [.int (nI (k1 + 1))]) (rest := []) ⟨hx, hb, hml, hown, hts⟩ (c_X3_shareDenominator ll D a cI cJ z32 (nuI 6) (dnmI 6) z64 am nx z32 z32 z32 z32 (rtI 6) (rtI 6) (rtI 6) z32 z32 z32 z32 0 (k1 + 1) (by omega)) (cwV 1 hts gL_shares_X3_shareDenominator rfl rfl rfl (by decide +kernel) ⟨Nat.le_of_ble_eq_true rfl, Nat.le_of_ble_eq_true rfl⟩) ⟨PR.blind, va_recv hK hP (ci := 3) (q0 := 0) rfl rfl, PR.goP (wr := (LR a cI nw)) hP hK hE⟩ rfl rfl hl.1 rfl (lv_room (Nat.le_of_ble_eq_true rfl)) dL_shares_56 ⟨Nat.le_of_ble_eq_true rfl, Nat.le_of_ble_eq_true rfl⟩) ?_
              refine b_tl (y := 1) (kq_de (k1 + 1) (by omega)) ?_
              refine lv_lstore (lv' := [(9, .long (1)), (7, .long (0)), (6, .int (nI (k1 + 1))), (5, .int (1)), (4, .int (1)), (0, .ref (a 0)), (1, .ref (a 21)), (2, .long (998244353))]) hx hb dL_shares_59 hl (by decide) rfl (fun ls hl => ?_)
              refine lv_lload hx hb dL_shares_61 (lv_at hl 0 rfl) ?_
              refine lv_lconst (v := 0) hx hb dL_shares_63 (by decide) ?_
              refine W.lcmp hx hb dL_shares_64 ?_
              refine b_ti (y := 1) (by decide) ?_
              refine lv_if_le (tgt := 99) hx hb dL_shares_65 (by decide) (fun c_13 => ?_) (fun c_13 => ?_)
              · have n_13 := c_13
                exact absurd c_13 (by decide)
              · have n_13 := c_13
                refine lv_lload hx hb dL_shares_68 (lv_at hl 1 rfl) ?_
                refine lv_lconst (v := 0) hx hb dL_shares_70 (by decide) ?_
                refine W.lcmp hx hb dL_shares_71 ?_
                refine b_ti (y := 0) (by decide) ?_
                refine lv_if_lt (tgt := 99) hx hb dL_shares_72 (by decide) (fun c_14 => ?_) (fun c_14 => ?_)
                · have n_14 := c_14
                  exact absurd c_14 (by decide)
                · have n_14 := c_14
                  refine lv_lload hx hb dL_shares_75 (lv_at hl 1 rfl) ?_
                  refine lv_lload hx hb dL_shares_77 (lv_at hl 0 rfl) ?_
                  refine W.lcmp hx hb dL_shares_79 ?_
                  refine b_ti (y := (-1)) (by decide) ?_
                  refine lv_if_gt (tgt := 99) hx hb dL_shares_80 (by decide) (fun c_15 => ?_) (fun c_15 => ?_)
                  · have n_15 := c_15
                    exact absurd c_15 (by decide)
                  · have n_15 := c_15
                    refine lv_lload hx hb dL_shares_83 (lv_at hl 0 rfl) ?_
                    refine lv_lload hx hb dL_shares_85 (lv_at hl 1 rfl) ?_
                    refine b_csl (v := 1) (W.runS (As := [.long (1), .long (0)]) (rest := []) ⟨hx, hb, hml, hown, hts⟩ (c_L_common ll  ) (va_cwS 2 hts gL_shares_L_common rfl rfl rfl (by decide +kernel) ⟨Nat.le_of_ble_eq_true rfl, Nat.le_of_ble_eq_true rfl⟩) ⟨PT.blind, PT.to⟩ rfl rfl hl.1 rfl (lv_room (Nat.le_of_ble_eq_true rfl)) dL_shares_87 ⟨Nat.le_of_ble_eq_true rfl, Nat.le_of_ble_eq_true rfl⟩) ?_
                    refine lv_lconst (v := 1) hx hb dL_shares_90 (by decide) ?_
                    refine W.lcmp hx hb dL_shares_91 ?_
                    refine b_ti (y := 0) (by decide) ?_
                    refine lv_if_ne (tgt := 99) hx hb dL_shares_92 (by decide) (fun c_16 => ?_) (fun c_16 => ?_)
                    · have n_16 := c_16
                      exact absurd c_16 (by decide)
                    · have n_16 := c_16
                      refine lv_iconst (v := 1) hx hb dL_shares_95 (by decide) ?_
                      refine lv_goto (tgt := 100) hx hb dL_shares_96 (by decide) ?_
                      refine lv_istore (lv' := [(4, .int (1)), (9, .long (1)), (7, .long (0)), (6, .int (nI (k1 + 1))), (5, .int (1)), (0, .ref (a 0)), (1, .ref (a 21)), (2, .long (998244353))]) hx hb dL_shares_100 hl (by decide) rfl (fun ls hl => ?_)
                      refine lv_iload hx hb dL_shares_102 (lv_at hl 4 rfl) ?_
                      refine lv_if_eq (tgt := 120) hx hb dL_shares_104 (by decide) (fun c_17 => ?_) (fun c_17 => ?_)
                      · have n_17 := c_17
                        exact absurd c_17 (by decide)
                      · have n_17 := c_17
                        refine lv_lload hx hb dL_shares_107 (lv_at hl 1 rfl) ?_
                        refine lv_lload_n hx hb dL_shares_109 rfl (lv_at hl 7 rfl) ?_
                        refine lv_lrem hx hb dL_shares_110 (by decide) ?_
                        refine b_tl (y := 1) (by decide) ?_
                        refine lv_lconst (v := 0) hx hb dL_shares_111 (by decide) ?_
                        refine W.lcmp hx hb dL_shares_112 ?_
                        refine b_ti (y := 1) (by decide) ?_
                        refine lv_if_eq (tgt := 120) hx hb dL_shares_113 (by decide) (fun c_18 => ?_) (fun c_18 => ?_)
                        · have n_18 := c_18
                          exact absurd c_18 (by decide)
                        · have n_18 := c_18
                          refine lv_iconst (v := 1) hx hb dL_shares_116 (by decide) ?_
                          refine lv_goto (tgt := 121) hx hb dL_shares_117 (by decide) ?_
                          refine lv_istore (lv' := [(5, .int (1)), (4, .int (1)), (9, .long (1)), (7, .long (0)), (6, .int (nI (k1 + 1))), (0, .ref (a 0)), (1, .ref (a 21)), (2, .long (998244353))]) hx hb dL_shares_121 hl (by decide) rfl (fun ls hl => ?_)
                          refine lv_iinc (v := nI (k1 + 1 + 1)) (lv' := [(6, .int (nI (k1 + 1 + 1))), (5, .int (1)), (4, .int (1)), (9, .long (1)), (7, .long (0)), (0, .ref (a 0)), (1, .ref (a 21)), (2, .long (998244353))]) hx hb dL_shares_123 hl (k := 4) rfl (nI_1 (k1 + 1)) (by decide) rfl (fun ls hl => ?_)
                          refine lv_goto (tgt := 33) hx hb dL_shares_126 (by decide) ?_
                          exact ih1 (k1 + 1) (by omega) ls (lv_sub hl [0, 1, 2, 5, 6, 7] rfl)
      exact L1 (5) 0 (by omega) ls (lv_sub hl [0, 1, 2, 3, 4, 5] rfl)

abbrev rmL_rounds : Room := ({ frames := 0, cells := 0, slots := 0, locals := 0 } : Room)
set_option maxHeartbeats 4000000 in
set_option maxRecDepth 100000 in
theorem c_L_rounds (ll : Launch) (D : va_G) (a : Nat → Nat) (cI cJ : ClassId) (sz : Nat) (am nx nw : Nat → Int32)   : Met ll yL_rounds wsL_rounds rmL_rounds (va_Pc [.int (0), .int (0), .ref (a 21), .ref (a 27), .ref (a 28)] (PW D (tyG cI cJ) (KW a cI cJ am nx nw) sz)) (va_Qi (fun (rr : Int32) (u : Unit) => rr = 1000000) (fun (u : Unit) t => AW D (tyG cI cJ) (va_A (KW a cI cJ am nx nw) sz) (KW a cI cJ am nx (rnI nw 6)) t) (va_A (KW a cI cJ am nx nw) sz)) 0 0 (va_A (KW a cI cJ am nx nw) sz) := by
  refine Met.ofW (cc := cL_rounds) (maxL := 8) (ret := (some .int)) (by decide) rfl ?_
  intro pp ee ss mm ar bel mth cde s₁ B hml hv
  obtain ⟨rfl, hsz, hP, hK, hD0, hE⟩ := hv
  have hx := B.exec
  have hb := B.bytes
  have hr := B.returns
  have hts := atoms_spec (ws := wsL_rounds) B.pre
  have hown : ss.vm.findClass RL = some mm.cls := findClass_of_methodNamed B.named
  have hlocks := B.notSynchronized
  subst hsz
  have hD := hD0.self (sz := ss.heap.size)
  generalize hAe : va_A (KW a cI cJ am nx nw) ss.heap.size = A at hD ⊢
  have hA : ∀ q : Nat, ss.heap.size ≤ q → A q := fun q h => by rw [← hAe]; exact Or.inr h
  have hS : va_S A ss.heap ss.heap [] := va_S.rf
  have hl := lv_entry [.int (0), .int (0), .ref (a 21), .ref (a 27), .ref (a 28)] (n := 8) (Nat.le_of_ble_eq_true rfl)
  rw [lg_entry_eq]
  generalize (lg_sl [.int (0), .int (0), .ref (a 21), .ref (a 27), .ref (a 28)] ++ List.replicate (8 - (lg_sl [.int (0), .int (0), .ref (a 21), .ref (a 27), .ref (a 28)]).length) Slot.unset).toArray = ls at hl ⊢
  have hl : lv_has ls 8 [(0, .int (0)), (1, .int (0)), (2, .ref (a 21)), (3, .ref (a 27)), (4, .ref (a 28))] := hl
  generalize hZ : MQ bel _ _ ss _ _ _ = Z
  refine lv_iconst (v := 0) hx hb dL_rounds_0 (by decide) ?_
  refine lv_istore (lv' := [(5, .int (0)), (0, .int (0)), (1, .int (0)), (2, .ref (a 21)), (3, .ref (a 27)), (4, .ref (a 28))]) hx hb dL_rounds_1 hl (by decide) rfl (fun ls hl => ?_)
  have L1 : ∀ (n1 k1 : Nat), k1 + n1 = 6 → ∀ (H : Heap) (locs : List Loc) (ls : Array Slot), va_P D vwCl (KW a cI cJ am nx (rnI nw (k1))) H → va_D A (KW a cI cJ am nx (rnI nw (k1))) → va_S A ss.heap H locs → lv_has ls 8 [(5, .int (nI (k1))), (0, .int (0)), (1, .int (0)), (2, .ref (a 21)), (3, .ref (a 27)), (4, .ref (a 28))] → W pp ll ee rmL_rounds ss mm (([.int (0), .int (0), .ref (a 21), .ref (a 27), .ref (a 28)] : List Value).toArray) bel mth cde H locs 0 0 Z (F0 mm 3 ls []) := by
    intro n1
    induction n1 with
    | zero =>
      intro k1 hk1  H locs ls hP hD hS hl
      have hk1b : 6 = k1 := by omega
      subst hk1b
      refine lv_iload hx hb dL_rounds_3 (lv_at hl 0 rfl) ?_
      refine lv_bipush (v := 6) hx hb dL_rounds_5 (by decide) ?_
      refine lv_icmp_ge (tgt := 31) hx hb dL_rounds_7 (by decide) (fun c_1 => ?_) (fun c_1 => ?_)
      · have n_1 : (6) ≤ (6) := (nI_leI (a := 6) (b := 6) (by omega) (by omega)).mp c_1
        refine lv_iconst (v := 0) hx hb dL_rounds_31 (by decide) ?_
        refine lv_istore (lv' := [(5, .int (0)), (0, .int (0)), (1, .int (0)), (2, .ref (a 21)), (3, .ref (a 27)), (4, .ref (a 28))]) hx hb dL_rounds_32 hl (by decide) rfl (fun ls hl => ?_)
        refine lv_iload hx hb dL_rounds_34 (lv_at hl 0 rfl) ?_
        refine lv_iload_n hx hb dL_rounds_36 rfl (lv_at hl 2 rfl) ?_
        refine lv_icmp_ge (tgt := 135) hx hb dL_rounds_37 (by decide) (fun c_2 => ?_) (fun c_2 => ?_)
        · have n_2 := c_2
          refine lv_aload_n hx hb dL_rounds_135 rfl (lv_at hl 4 rfl) ?_
          refine lv_iload_n hx hb dL_rounds_136 rfl (lv_at hl 1 rfl) ?_
          refine b_iald hx hb hK hP 27 0 (f := (rnI nw (6))) rfl rfl (j := 0) (by omega) (by decide) dL_rounds_137 ?_
          refine b_ti (y := 1000000) (rnI_0 nw) ?_
          have e_3 : (rnI nw 6) = (rnI nw (6)) := by first | rfl | exact if_pos (by assumption) | exact if_neg (by assumption) | (simp only [n_1, n_2, Bool.false_eq_true, ↓reduceIte])
          have hP := (congrArg (fun z9 => va_P D vwCl (KW a cI cJ am nx z9) _) e_3).mpr hP
          have hD := (congrArg (fun z9 => va_D A (KW a cI cJ am nx z9)) e_3).mpr hD
          subst hZ; exact W.iret hx hb hr (fun t ht hW => ⟨⟨_, (), rfl, rfl, (by rw [ht]; exact hP), va_K.moved hW.alike hK, hD⟩, hS.F ht⟩) hS.2.2 dL_rounds_138
        · have n_2 := c_2
          exact absurd c_2 (by decide)
      · have n_1 : ¬ ((6) ≤ (6)) := fun h => c_1 ((nI_leI (a := 6) (b := 6) (by omega) (by omega)).mpr h)
        exfalso; omega
    | succ n1 ih1 =>
      intro k1 hk1  H locs ls hP hD hS hl
      have hk1b : k1 < 6 := by omega
      refine lv_iload hx hb dL_rounds_3 (lv_at hl 0 rfl) ?_
      refine lv_bipush (v := 6) hx hb dL_rounds_5 (by decide) ?_
      refine lv_icmp_ge (tgt := 31) hx hb dL_rounds_7 (by decide) (fun c_4 => ?_) (fun c_4 => ?_)
      · have n_4 : (6) ≤ (k1) := (nI_leI (a := 6) (b := k1) (by omega) (by omega)).mp c_4
        exfalso; omega
      · have n_4 : ¬ ((6) ≤ (k1)) := fun h => c_4 ((nI_leI (a := 6) (b := k1) (by omega) (by omega)).mpr h)
        refine lv_aload_n hx hb dL_rounds_10 rfl (lv_at hl 4 rfl) ?_
        refine lv_iload hx hb dL_rounds_11 (lv_at hl 0 rfl) ?_
        refine lv_iload hx hb dL_rounds_13 (lv_at hl 0 rfl) ?_
        refine lv_if_ne (tgt := 23) hx hb dL_rounds_15 (by decide) (fun c_5 => ?_) (fun c_5 => ?_)
        · have n_5 : ¬ ((k1) = (0)) := fun h => c_5 ((nI_eq (a := k1) (b := 0) (by omega) (by omega)).mpr h)
          refine lv_iconst (v := 0) hx hb dL_rounds_23 (by decide) ?_
          refine b_iast (w' := KW a cI cJ am nx (upd (rnI nw (k1)) (k1) (0))) hx hb hK hP hD hS 27 0 (f := (rnI nw (k1))) rfl rfl (j := k1) (by omega) (by decide) rfl dL_rounds_24 (fun H locs hP hD hS => ?_)
          refine lv_iinc (v := nI (k1 + 1)) (lv' := [(5, .int (nI (k1 + 1))), (0, .int (0)), (1, .int (0)), (2, .ref (a 21)), (3, .ref (a 27)), (4, .ref (a 28))]) hx hb dL_rounds_25 hl (k := 0) rfl (nI_1 (k1)) (by decide) rfl (fun ls hl => ?_)
          refine lv_goto (tgt := 3) hx hb dL_rounds_28 (by decide) ?_
          have e_6 : (rnI nw (k1 + 1)) = (upd (rnI nw (k1)) (k1) (0)) := by first | rfl | exact if_pos (by assumption) | exact if_neg (by assumption) | (simp only [rnI, n_4, n_5, Bool.false_eq_true, ↓reduceIte])
          exact ih1 (k1 + 1) (by omega) _ _ ls (by rw [e_6]; exact hP) (by rw [e_6]; exact hD) hS (lv_sub hl [0, 1, 2, 3, 4, 5] rfl)
        · have n_5 : (k1) = (0) := (nI_eq (a := k1) (b := 0) (by omega) (by omega)).mp c_5
          refine lv_ldc (v := 1000000) hx hb hown (hts (.constant RL 70 (1000000)) (by decide +kernel)) dL_rounds_18 ?_
          refine lv_goto (tgt := 24) hx hb dL_rounds_20 (by decide) ?_
          refine b_iast (w' := KW a cI cJ am nx (upd (rnI nw (k1)) (k1) ((1000000)))) hx hb hK hP hD hS 27 0 (f := (rnI nw (k1))) rfl rfl (j := k1) (by omega) (by decide) rfl dL_rounds_24 (fun H locs hP hD hS => ?_)
          refine lv_iinc (v := nI (k1 + 1)) (lv' := [(5, .int (nI (k1 + 1))), (0, .int (0)), (1, .int (0)), (2, .ref (a 21)), (3, .ref (a 27)), (4, .ref (a 28))]) hx hb dL_rounds_25 hl (k := 0) rfl (nI_1 (k1)) (by decide) rfl (fun ls hl => ?_)
          refine lv_goto (tgt := 3) hx hb dL_rounds_28 (by decide) ?_
          have e_7 : (rnI nw (k1 + 1)) = (upd (rnI nw (k1)) (k1) ((1000000))) := by first | rfl | exact if_pos (by assumption) | exact if_neg (by assumption) | (simp only [rnI, n_4, n_5, Bool.false_eq_true, ↓reduceIte])
          exact ih1 (k1 + 1) (by omega) _ _ ls (by rw [e_7]; exact hP) (by rw [e_7]; exact hD) hS (lv_sub hl [0, 1, 2, 3, 4, 5] rfl)
  exact L1 (6) 0 (by omega) _ _ ls hP hD hS (lv_sub hl [0, 1, 2, 3, 4, 5] rfl)
