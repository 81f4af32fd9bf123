abbrev rmX3_pair : Room := ({ frames := 0, cells := 0, slots := 0, locals := 0 } : Room)
set_option maxHeartbeats 4000000 in
set_option maxRecDepth 100000 in
theorem c_X3_pair (ll : Launch) (r c : Nat)  : Met ll yX3_pair wsX3_pair rmX3_pair (va_Pc [.int (nI (r)), .int (nI (c))] (fun _ => True)) (vp_Si (fun rr => rr = nI (6 * r + c))) 0 0 (fun _ => False) := by
  refine Met.ofW (cc := cX3_pair) (maxL := 2) (ret := (some .int)) (by decide) rfl ?_
  intro pp ee ss mm ar bel mth cd s₁ B hml hv
  obtain ⟨rfl, -⟩ := hv
  have hx := B.exec
  have hb := B.bytes
  have hr := B.returns
  have hts := atoms_spec (ws := wsX3_pair) B.pre
  have hown : ss.vm.findClass RX3 = some mm.cls := findClass_of_methodNamed B.named
  have hlocks := B.notSynchronized
  have hl := lv_entry [.int (nI (r)), .int (nI (c))] (n := 2) (Nat.le_of_ble_eq_true rfl)
  rw [lg_entry_eq]
  generalize (lg_sl [.int (nI (r)), .int (nI (c))] ++ List.replicate (2 - (lg_sl [.int (nI (r)), .int (nI (c))]).length) Slot.unset).toArray = ls at hl ⊢
  have hl : lv_has ls 2 [(0, .int (nI (r))), (1, .int (nI (c)))] := hl
  refine lv_iload_n hx hb dX3_pair_0 rfl (lv_at hl 0 rfl) ?_
  refine lv_bipush (v := 6) hx hb dX3_pair_1 (by decide) ?_
  refine lv_imul hx hb dX3_pair_3 ?_
  refine b_ti (pk_mul (r) (6)) ?_
  refine lv_iload_n hx hb dX3_pair_4 rfl (lv_at hl 1 rfl) ?_
  refine lv_iadd hx hb dX3_pair_5 ?_
  refine b_ti (nI_add ((r) * (6)) (c)) ?_
  exact W.iret hx hb hr (fun t ht _ => ⟨_, rfl, (by rw [Nat.mul_comm]), ht⟩) (fun _ h => nomatch h) dX3_pair_6

abbrev rmX3_isMember : Room := ({ frames := 0, cells := 0, slots := 0, locals := 0 } : Room)
set_option maxHeartbeats 4000000 in
set_option maxRecDepth 100000 in
theorem c_X3_isMember (ll : Launch) (M c : Nat) (hM : M < 2 ^ 31) (hc : c < 32) : Met ll yX3_isMember wsX3_isMember rmX3_isMember (va_Pc [.int (nI (M)), .int (nI (c))] (fun _ => True)) (vp_Si (fun rr => rr = bI (mB M c))) 0 0 (fun _ => False) := by
  refine Met.ofW (cc := cX3_isMember) (maxL := 2) (ret := (some .boolean)) (by decide) rfl ?_
  intro pp ee ss mm ar bel mth cd s₁ B hml hv
  obtain ⟨rfl, -⟩ := hv
  have hx := B.exec
  have hb := B.bytes
  have hr := B.returns
  have hts := atoms_spec (ws := wsX3_isMember) B.pre
  have hown : ss.vm.findClass RX3 = some mm.cls := findClass_of_methodNamed B.named
  have hlocks := B.notSynchronized
  have hl := lv_entry [.int (nI (M)), .int (nI (c))] (n := 2) (Nat.le_of_ble_eq_true rfl)
  rw [lg_entry_eq]
  generalize (lg_sl [.int (nI (M)), .int (nI (c))] ++ List.replicate (2 - (lg_sl [.int (nI (M)), .int (nI (c))]).length) Slot.unset).toArray = ls at hl ⊢
  have hl : lv_has ls 2 [(0, .int (nI (M))), (1, .int (nI (c)))] := hl
  refine lv_iload_n hx hb dX3_isMember_0 rfl (lv_at hl 0 rfl) ?_
  refine lv_iload_n hx hb dX3_isMember_1 rfl (lv_at hl 1 rfl) ?_
  refine lv_ishr hx hb dX3_isMember_2 ?_
  refine b_ti (y := nI (M / 2 ^ c)) (sh_and M c hM hc) ?_
  refine lv_iconst (v := 1) hx hb dX3_isMember_3 (by decide) ?_
  refine lv_iand hx hb dX3_isMember_4 ?_
  refine b_ti (y := nI (M / 2 ^ c % 2)) (an_1 _ (dv_lt hM)) ?_
  refine lv_iconst (v := 1) hx hb dX3_isMember_5 (by decide) ?_
  refine lv_icmp_ne (tgt := 13) hx hb dX3_isMember_6 (by decide) (fun c_1 => ?_) (fun c_1 => ?_)
  · have n_1 : ¬ ((M / 2 ^ c % 2) = (1)) := fun h => c_1 ((nI_eq (a := M / 2 ^ c % 2) (b := 1) (by omega) (by omega)).mpr h)
    refine lv_iconst (v := 0) hx hb dX3_isMember_13 (by decide) ?_
    exact W.zret hx hb hr ((by decide)) (fun t ht _ => ⟨_, rfl, (by simp only [mB, n_1, decide_true, decide_false, bI]; rfl), ht⟩) (fun _ h => nomatch h) dX3_isMember_14
  · have n_1 : (M / 2 ^ c % 2) = (1) := (nI_eq (a := M / 2 ^ c % 2) (b := 1) (by omega) (by omega)).mp c_1
    refine lv_iconst (v := 1) hx hb dX3_isMember_9 (by decide) ?_
    refine lv_goto (tgt := 14) hx hb dX3_isMember_10 (by decide) ?_
    exact W.zret hx hb hr ((by decide)) (fun t ht _ => ⟨_, rfl, (by simp only [mB, n_1, decide_true, decide_false, bI]; rfl), ht⟩) (fun _ h => nomatch h) dX3_isMember_14

abbrev rmJ9_floorDiv_7cf53 : Room := ({ frames := 0, cells := 0, slots := 0, locals := 0 } : Room)
set_option maxHeartbeats 4000000 in
set_option maxRecDepth 100000 in
theorem c_J9_floorDiv_7cf53 (ll : Launch) (x y : Int32) (hy : ¬ y = 0) : Met ll yJ9_floorDiv_7cf53 wsJ9_floorDiv_7cf53 rmJ9_floorDiv_7cf53 (va_Pc [.int (x), .int (y)] (fun _ => True)) (vp_Si (fun rr => rr = fdI x y)) 0 0 (fun _ => False) := by
  refine ofWF (cc := cJ9_floorDiv_7cf53) (maxL := 3) (ret := (some .int)) (by decide +kernel) rfl ?_
  intro pp ee ss mm ar bel mth cd s₁ B hml hv
  obtain ⟨rfl, -⟩ := hv
  have hx := B.exec
  have hb := B.bytes
  have hr := B.returns
  have hts := atoms_spec (ws := wsJ9_floorDiv_7cf53) B.pre
  have hown : ss.vm.findClass RJ9 = some mm.cls := findClass_of_methodNamed B.named
  have hlocks := B.notSynchronized
  have hl := lv_entry [.int (x), .int (y)] (n := 3) (Nat.le_of_ble_eq_true rfl)
  rw [lg_entry_eq]
  generalize (lg_sl [.int (x), .int (y)] ++ List.replicate (3 - (lg_sl [.int (x), .int (y)]).length) Slot.unset).toArray = ls at hl ⊢
  have hl : lv_has ls 3 [(0, .int (x)), (1, .int (y))] := hl
  refine lv_iload_n hx hb dJ9_floorDiv_7cf53_0 rfl (lv_at hl 0 rfl) ?_
  refine lv_iload_n hx hb dJ9_floorDiv_7cf53_1 rfl (lv_at hl 1 rfl) ?_
  refine lv_idiv hx hb dJ9_floorDiv_7cf53_2 hy ?_
  refine lv_istore_n (lv' := [(2, .int ((x) / (y))), (0, .int (x)), (1, .int (y))]) hx hb dJ9_floorDiv_7cf53_3 rfl hl (by decide) rfl (fun ls hl => ?_)
  refine lv_iload_n hx hb dJ9_floorDiv_7cf53_4 rfl (lv_at hl 1 rfl) ?_
  refine lv_iload_n hx hb dJ9_floorDiv_7cf53_5 rfl (lv_at hl 2 rfl) ?_
  refine lv_ixor hx hb dJ9_floorDiv_7cf53_6 ?_
  refine lv_if_ge (tgt := 21) hx hb dJ9_floorDiv_7cf53_7 (by decide) (fun c_1 => ?_) (fun c_1 => ?_)
  · have n_1 := c_1
    refine lv_iload_n hx hb dJ9_floorDiv_7cf53_21 rfl (lv_at hl 0 rfl) ?_
    exact W.iret hx hb hr (fun t ht _ => ⟨_, rfl, (by simp only [fdI, n_1, ↓reduceIte]), ht⟩) (fun _ h => nomatch h) dJ9_floorDiv_7cf53_22
  · have n_1 := c_1
    refine lv_iload_n hx hb dJ9_floorDiv_7cf53_10 rfl (lv_at hl 0 rfl) ?_
    refine lv_iload_n hx hb dJ9_floorDiv_7cf53_11 rfl (lv_at hl 2 rfl) ?_
    refine lv_imul hx hb dJ9_floorDiv_7cf53_12 ?_
    refine lv_iload_n hx hb dJ9_floorDiv_7cf53_13 rfl (lv_at hl 1 rfl) ?_
    refine lv_icmp_eq (tgt := 21) hx hb dJ9_floorDiv_7cf53_14 (by decide) (fun c_2 => ?_) (fun c_2 => ?_)
    · have n_2 := c_2
      refine lv_iload_n hx hb dJ9_floorDiv_7cf53_21 rfl (lv_at hl 0 rfl) ?_
      exact W.iret hx hb hr (fun t ht _ => ⟨_, rfl, (by simp only [fdI, n_1, n_2, ↓reduceIte]), ht⟩) (fun _ h => nomatch h) dJ9_floorDiv_7cf53_22
    · have n_2 := c_2
      refine lv_iload_n hx hb dJ9_floorDiv_7cf53_17 rfl (lv_at hl 0 rfl) ?_
      refine lv_iconst (v := 1) hx hb dJ9_floorDiv_7cf53_18 (by decide) ?_
      refine lv_isub hx hb dJ9_floorDiv_7cf53_19 ?_
      exact W.iret hx hb hr (fun t ht _ => ⟨_, rfl, (by simp only [fdI, n_1, n_2, ↓reduceIte]), ht⟩) (fun _ h => nomatch h) dJ9_floorDiv_7cf53_20

abbrev rmJ9_floorDiv_f86c9 : Room := ({ frames := 0, cells := 0, slots := 0, locals := 0 } : Room)
set_option maxHeartbeats 4000000 in
set_option maxRecDepth 100000 in
theorem c_J9_floorDiv_f86c9 (ll : Launch) (x y : Int64) (hy : ¬ y = 0) : Met ll yJ9_floorDiv_f86c9 wsJ9_floorDiv_f86c9 rmJ9_floorDiv_f86c9 (va_Pc [.long (x), .long (y)] (fun _ => True)) (vp_Sl (fun rr => rr = fdL x y)) 0 0 (fun _ => False) := by
  refine ofWF (cc := cJ9_floorDiv_f86c9) (maxL := 6) (ret := (some .long)) (by decide +kernel) rfl ?_
  intro pp ee ss mm ar bel mth cd s₁ B hml hv
  obtain ⟨rfl, -⟩ := hv
  have hx := B.exec
  have hb := B.bytes
  have hr := B.returns
  have hts := atoms_spec (ws := wsJ9_floorDiv_f86c9) B.pre
  have hown : ss.vm.findClass RJ9 = some mm.cls := findClass_of_methodNamed B.named
  have hlocks := B.notSynchronized
  have hl := lv_entry [.long (x), .long (y)] (n := 6) (Nat.le_of_ble_eq_true rfl)
  rw [lg_entry_eq]
  generalize (lg_sl [.long (x), .long (y)] ++ List.replicate (6 - (lg_sl [.long (x), .long (y)]).length) Slot.unset).toArray = ls at hl ⊢
  have hl : lv_has ls 6 [(0, .long (x)), (2, .long (y))] := hl
  refine lv_lload_n hx hb dJ9_floorDiv_f86c9_0 rfl (lv_at hl 0 rfl) ?_
  refine lv_lload_n hx hb dJ9_floorDiv_f86c9_1 rfl (lv_at hl 1 rfl) ?_
  refine lv_ldiv hx hb dJ9_floorDiv_f86c9_2 hy ?_
  refine lv_lstore (lv' := [(4, .long ((x) / (y))), (0, .long (x)), (2, .long (y))]) hx hb dJ9_floorDiv_f86c9_3 hl (by decide) rfl (fun ls hl => ?_)
  refine lv_lload_n hx hb dJ9_floorDiv_f86c9_5 rfl (lv_at hl 1 rfl) ?_
  refine lv_lload_n hx hb dJ9_floorDiv_f86c9_6 rfl (lv_at hl 2 rfl) ?_
  refine lv_lxor hx hb dJ9_floorDiv_f86c9_7 ?_
  refine lv_lconst (v := 0) hx hb dJ9_floorDiv_f86c9_8 (by decide) ?_
  refine W.lcmp hx hb dJ9_floorDiv_f86c9_9 ?_
  refine lv_if_ge (tgt := 27) hx hb dJ9_floorDiv_f86c9_10 (by decide) (fun c_1 => ?_) (fun c_1 => ?_)
  · have n_1 : 0 ≤ (x) ^^^ (y) := (lg_cmp_ge _ _).mp c_1
    refine lv_lload hx hb dJ9_floorDiv_f86c9_27 (lv_at hl 0 rfl) ?_
    exact W.lret hx hb hr (fun t ht _ => ⟨_, rfl, (by simp only [fdL, n_1, ↓reduceIte]), ht⟩) (fun _ h => nomatch h) dJ9_floorDiv_f86c9_29
  · have n_1 : ¬ (0 ≤ (x) ^^^ (y)) := fun h => c_1 ((lg_cmp_ge _ _).mpr h)
    refine lv_lload hx hb dJ9_floorDiv_f86c9_13 (lv_at hl 0 rfl) ?_
    refine lv_lload_n hx hb dJ9_floorDiv_f86c9_15 rfl (lv_at hl 2 rfl) ?_
    refine lv_lmul hx hb dJ9_floorDiv_f86c9_16 ?_
    refine lv_lload_n hx hb dJ9_floorDiv_f86c9_17 rfl (lv_at hl 1 rfl) ?_
    refine W.lcmp hx hb dJ9_floorDiv_f86c9_18 ?_
    refine lv_if_eq (tgt := 27) hx hb dJ9_floorDiv_f86c9_19 (by decide) (fun c_2 => ?_) (fun c_2 => ?_)
    · have n_2 : ((x) / (y)) * (y) = x := (lg_cmp_eq _ _).mp c_2
      refine lv_lload hx hb dJ9_floorDiv_f86c9_27 (lv_at hl 0 rfl) ?_
      exact W.lret hx hb hr (fun t ht _ => ⟨_, rfl, (by simp only [fdL, n_1, n_2, ↓reduceIte]), ht⟩) (fun _ h => nomatch h) dJ9_floorDiv_f86c9_29
    · have n_2 : ¬ (((x) / (y)) * (y) = x) := fun h => c_2 ((lg_cmp_eq _ _).mpr h)
      refine lv_lload hx hb dJ9_floorDiv_f86c9_22 (lv_at hl 0 rfl) ?_
      refine lv_lconst (v := 1) hx hb dJ9_floorDiv_f86c9_24 (by decide) ?_
      refine lv_lsub hx hb dJ9_floorDiv_f86c9_25 ?_
      exact W.lret hx hb hr (fun t ht _ => ⟨_, rfl, (by simp only [fdL, n_1, n_2, ↓reduceIte]), ht⟩) (fun _ h => nomatch h) dJ9_floorDiv_f86c9_26

abbrev rmX2_scale : Room := ({ frames := 1, cells := 0, slots := 0, locals := 25 } : Room)
set_option maxHeartbeats 4000000 in
set_option maxRecDepth 100000 in
theorem c_X2_scale (ll : Launch) (x : Int32) (b w : Int64)  : Met ll yX2_scale wsX2_scale rmX2_scale (va_Pc [.int (x), .long (b), .long (w)] (fun _ => True)) (vp_Si (fun rr => rr = scl x b w)) 0 0 (fun _ => False) := by
  refine Met.ofW (cc := cX2_scale) (maxL := 5) (ret := (some .int)) (by decide) rfl ?_
  intro pp ee ss mm ar bel mth cd s₁ B hml hv
  obtain ⟨rfl, -⟩ := hv
  have hx := B.exec
  have hb := B.bytes
  have hr := B.returns
  have hts := atoms_spec (ws := wsX2_scale) B.pre
  have hown : ss.vm.findClass RX2 = some mm.cls := findClass_of_methodNamed B.named
  have hlocks := B.notSynchronized
  have hl := lv_entry [.int (x), .long (b), .long (w)] (n := 5) (Nat.le_of_ble_eq_true rfl)
  rw [lg_entry_eq]
  generalize (lg_sl [.int (x), .long (b), .long (w)] ++ List.replicate (5 - (lg_sl [.int (x), .long (b), .long (w)]).length) Slot.unset).toArray = ls at hl ⊢
  have hl : lv_has ls 5 [(0, .int (x)), (1, .long (b)), (3, .long (w))] := hl
  refine lv_lload_n hx hb dX2_scale_0 rfl (lv_at hl 2 rfl) ?_
  refine lv_lconst (v := 0) hx hb dX2_scale_1 (by decide) ?_
  refine W.lcmp hx hb dX2_scale_2 ?_
  refine lv_if_le (tgt := 18) hx hb dX2_scale_3 (by decide) (fun c_1 => ?_) (fun c_1 => ?_)
  · have n_1 : w ≤ 0 := (lg_cmp_le _ _).mp c_1
    refine lv_iconst (v := 0) hx hb dX2_scale_18 (by decide) ?_
    exact W.iret hx hb hr (fun t ht _ => ⟨_, rfl, (by simp only [scl, n_1, ↓reduceIte]), ht⟩) (fun _ h => nomatch h) dX2_scale_19
  · have n_1 : ¬ (w ≤ 0) := fun h => c_1 ((lg_cmp_le _ _).mpr h)
    refine lv_iload_n hx hb dX2_scale_6 rfl (lv_at hl 0 rfl) ?_
    refine lv_i2l (v := (x).toInt64) hx hb dX2_scale_7 rfl ?_
    refine lv_lload_n hx hb dX2_scale_8 rfl (lv_at hl 1 rfl) ?_
    refine lv_lmul hx hb dX2_scale_9 ?_
    refine lv_lload_n hx hb dX2_scale_10 rfl (lv_at hl 2 rfl) ?_
    refine b_csl (v := fdL (((x).toInt64) * (b)) w) (W.runS (As := [.long (((x).toInt64) * (b)), .long (w)]) (rest := []) ⟨hx, hb, hml, hown, hts⟩ (c_J9_floorDiv_f86c9 ll (((x).toInt64) * (b)) w (ne_of_nle n_1)) (va_cwS 2 hts gX2_scale_J9_floorDiv_f86c9 rfl rfl rfl (by decide +kernel) ⟨Nat.le_of_ble_eq_true rfl, Nat.le_of_ble_eq_true rfl⟩) ⟨PT.blind, PT.to⟩ rfl rfl hl.1 rfl (lv_room (Nat.le_of_ble_eq_true rfl)) dX2_scale_11 ⟨Nat.le_of_ble_eq_true rfl, Nat.le_of_ble_eq_true rfl⟩) ?_
    refine lv_l2i (v := (fdL (((x).toInt64) * (b)) w).toInt32) hx hb dX2_scale_14 rfl ?_
    refine lv_goto (tgt := 19) hx hb dX2_scale_15 (by decide) ?_
    exact W.iret hx hb hr (fun t ht _ => ⟨_, rfl, (by simp only [scl, n_1, ↓reduceIte]), ht⟩) (fun _ h => nomatch h) dX2_scale_19

abbrev rmX1_translate : Room := ({ frames := 1, cells := 0, slots := 0, locals := 22 } : Room)
set_option maxHeartbeats 4000000 in
set_option maxRecDepth 100000 in
theorem c_X1_translate (ll : Launch) (x y : Int32)  : Met ll yX1_translate wsX1_translate rmX1_translate (va_Pc [.int (x), .int (y)] (fun _ => True)) (vp_Si (fun rr => rr = tr x y)) 0 0 (fun _ => False) := by
  refine Met.ofW (cc := cX1_translate) (maxL := 2) (ret := (some .int)) (by decide) rfl ?_
  intro pp ee ss mm ar bel mth cd s₁ B hml hv
  obtain ⟨rfl, -⟩ := hv
  have hx := B.exec
  have hb := B.bytes
  have hr := B.returns
  have hts := atoms_spec (ws := wsX1_translate) B.pre
  have hown : ss.vm.findClass RX1 = some mm.cls := findClass_of_methodNamed B.named
  have hlocks := B.notSynchronized
  have hl := lv_entry [.int (x), .int (y)] (n := 2) (Nat.le_of_ble_eq_true rfl)
  rw [lg_entry_eq]
  generalize (lg_sl [.int (x), .int (y)] ++ List.replicate (2 - (lg_sl [.int (x), .int (y)]).length) Slot.unset).toArray = ls at hl ⊢
  have hl : lv_has ls 2 [(0, .int (x)), (1, .int (y))] := hl
  refine lv_iload_n hx hb dX1_translate_0 rfl (lv_at hl 0 rfl) ?_
  refine lv_iload_n hx hb dX1_translate_1 rfl (lv_at hl 1 rfl) ?_
  refine lv_imul hx hb dX1_translate_2 ?_
  refine lv_bipush (v := 100) hx hb dX1_translate_3 (by decide) ?_
  refine b_csi (v := fdI ((x) * (y)) 100) (W.runS (As := [.int ((x) * (y)), .int (100)]) (rest := []) ⟨hx, hb, hml, hown, hts⟩ (c_J9_floorDiv_7cf53 ll ((x) * (y)) 100 (by decide)) (va_cwS 2 hts gX1_translate_J9_floorDiv_7cf53 rfl rfl rfl (by decide +kernel) ⟨Nat.le_of_ble_eq_true rfl, Nat.le_of_ble_eq_true rfl⟩) ⟨PT.blind, PT.to⟩ rfl rfl hl.1 rfl (lv_room (Nat.le_of_ble_eq_true rfl)) dX1_translate_5 ⟨Nat.le_of_ble_eq_true rfl, Nat.le_of_ble_eq_true rfl⟩) ?_
  exact W.iret hx hb hr (fun t ht _ => ⟨_, rfl, rfl, ht⟩) (fun _ h => nomatch h) dX1_translate_8
