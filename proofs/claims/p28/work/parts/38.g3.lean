abbrev rmX3_eliminated : Room := ({ frames := 4, cells := 0, slots := 0, locals := 90 } : Room)
set_option maxHeartbeats 4000000 in
set_option maxRecDepth 100000 in
theorem c_X3_eliminated (ll : Launch) (D : va_G) (a : Nat → Nat) (cI cJ : ClassId) (p : Nat → Int32) (nu de eq : Nat → Int64) (am nx oA oD oE oP cR aR hR cl ad gw pr : Nat → Int32) (n : Int32)   : Met ll yX3_eliminated wsX3_eliminated rmX3_eliminated (va_Pc [.ref (a 0)] (PR D (tyG cI cJ) (GW a cI cJ p nu de eq am nx oA oD oE oP cR aR hR cl ad gw pr n))) (vp_Si (fun rr => rr = agO cl ad (mem p 5) 6)) 0 0 (fun _ => False) := by
  refine Met.ofW (cc := cX3_eliminated) (maxL := 1) (ret := (some .int)) (by decide) rfl ?_
  intro pp ee ss mm ar bel mth cde s₁ B hml hv
  obtain ⟨rfl, hP, hK, hE⟩ := hv
  have hx := B.exec
  have hb := B.bytes
  have hr := B.returns
  have hts := atoms_spec (ws := wsX3_eliminated) B.pre
  have hown : ss.vm.findClass RX3 = some mm.cls := findClass_of_methodNamed B.named
  have hlocks := B.notSynchronized
  have hin : ∀ w ∈ wsX30, w.before ([.ref (a 0)] : List Value).toArray ss = true := fun w h => hts w ((by decide +kernel : ∀ w ∈ wsX30, w ∈ wsX3_eliminated) w h)
  have hl := lv_entry [.ref (a 0)] (n := 1) (Nat.le_of_ble_eq_true rfl)
  rw [lg_entry_eq]
  generalize (lg_sl [.ref (a 0)] ++ List.replicate (1 - (lg_sl [.ref (a 0)]).length) Slot.unset).toArray = ls at hl ⊢
  have hl : lv_has ls 1 [(0, .ref (a 0))] := hl
  refine lv_aload_n hx hb dX3_eliminated_0 rfl (lv_at hl 0 rfl) ?_
  refine va_get (D := D) (ci := 3) (v := .ref (a 3)) (C := RX3) (T := TX3) (N := 6) (Ts := wsX30) hx hb hin (fun _ h9 => h9) hown hK hP 0 rfl rfl 2 (by decide) (hts (.fieldLink RX3 26 "Groupbooks" "balances" "LGroupbooks$Balances;") (by decide +kernel)) (fun _ h9 => h9) rfl dX3_eliminated_1 ?_
  refine lv_aload_n hx hb dX3_eliminated_4 rfl (lv_at hl 0 rfl) ?_
  refine va_get (D := D) (ci := 3) (v := .ref (a 1)) (C := RX3) (T := TX3) (N := 6) (Ts := wsX30) hx hb hin (fun _ h9 => h9) hown hK hP 0 rfl rfl 0 (by decide) (hts (.fieldLink RX3 10 "Groupbooks" "holdings" "LGroupbooks$Holdings;") (by decide +kernel)) (fun _ h9 => h9) rfl dX3_eliminated_5 ?_
  refine b_csi (v := nI (mem p 5)) ((va_runVN (As := []) (rest := [.ref (a 3)]) ⟨hx, hb, hml, hown, hts⟩ (c_X2_members ll D a cI cJ p nu de eq am nx oA oD oE oP cR aR hR cl ad gw pr n  ) ⟨va_cnB 0 hts gX3_eliminated_X2_members_n85 rfl rfl rfl (hE.nest 3 rfl) (hts (.initialized RX2) (by decide +kernel)) (by decide +kernel) ⟨Nat.le_of_ble_eq_true rfl, Nat.le_of_ble_eq_true rfl⟩, hts (.instanceMethod yX2_members) (by decide +kernel), hts (.selects RX2 yX2_members yX2_members) (by decide +kernel)⟩ ⟨PR.blind, va_recv hK hP (ci := 2) (q0 := 1) rfl rfl, PR.go hP hK hE⟩ rfl rfl hl.1 rfl (lv_room (Nat.le_of_ble_eq_true rfl)) dX3_eliminated_8 ⟨Nat.le_of_ble_eq_true rfl, Nat.le_of_ble_eq_true rfl⟩).run) ?_
  refine b_csi (v := agO cl ad (mem p 5) 6) ((va_runVN (As := [.int (nI (mem p 5))]) (rest := []) ⟨hx, hb, hml, hown, hts⟩ (c_X0_agreedAmong ll D a cI cJ p nu de eq am nx oA oD oE oP cR aR hR cl ad gw pr n (mem p 5) (lt31 (mem_lt _ _))) ⟨va_cnB 1 hts gX3_eliminated_X0_agreedAmong_n117 rfl rfl rfl (hE.nest 6 rfl) (hts (.initialized RX0) (by decide +kernel)) (by decide +kernel) ⟨Nat.le_of_ble_eq_true rfl, Nat.le_of_ble_eq_true rfl⟩, hts (.instanceMethod yX0_agreedAmong) (by decide +kernel), hts (.selects RX0 yX0_agreedAmong yX0_agreedAmong) (by decide +kernel)⟩ ⟨PR.blind, va_recv hK hP (ci := 0) (q0 := 3) rfl rfl, PR.go hP hK hE⟩ rfl rfl hl.1 rfl (lv_room (Nat.le_of_ble_eq_true rfl)) dX3_eliminated_11 ⟨Nat.le_of_ble_eq_true rfl, Nat.le_of_ble_eq_true rfl⟩).run) ?_
  exact W.iret hx hb hr (fun t ht _ => ⟨_, rfl, rfl, ht⟩) (fun _ h => nomatch h) dX3_eliminated_14

abbrev rmX3_assets : Room := ({ frames := 4, cells := 0, slots := 0, locals := 90 } : Room)
set_option maxHeartbeats 4000000 in
set_option maxRecDepth 100000 in
theorem c_X3_assets (ll : Launch) (D : va_G) (a : Nat → Nat) (cI cJ : ClassId) (p : Nat → Int32) (nu de eq : Nat → Int64) (am nx oA oD oE oP cR aR hR cl ad gw pr : Nat → Int32) (n : Int32)   : Met ll yX3_assets wsX3_assets rmX3_assets (va_Pc [.ref (a 0)] (PR D (tyG cI cJ) (GW a cI cJ p nu de eq am nx oA oD oE oP cR aR hR cl ad gw pr n))) (vp_Si (fun rr => rr = caS oA cR (mem p 5) 6 - agO cl ad (mem p 5) 6)) 0 0 (fun _ => False) := by
  refine Met.ofW (cc := cX3_assets) (maxL := 4) (ret := (some .int)) (by decide) rfl ?_
  intro pp ee ss mm ar bel mth cde s₁ B hml hv
  obtain ⟨rfl, hP, hK, hE⟩ := hv
  have hx := B.exec
  have hb := B.bytes
  have hr := B.returns
  have hts := atoms_spec (ws := wsX3_assets) B.pre
  have hown : ss.vm.findClass RX3 = some mm.cls := findClass_of_methodNamed B.named
  have hlocks := B.notSynchronized
  have hin : ∀ w ∈ wsX30, w.before ([.ref (a 0)] : List Value).toArray ss = true := fun w h => hts w ((by decide +kernel : ∀ w ∈ wsX30, w ∈ wsX3_assets) w h)
  have hl := lv_entry [.ref (a 0)] (n := 4) (Nat.le_of_ble_eq_true rfl)
  rw [lg_entry_eq]
  generalize (lg_sl [.ref (a 0)] ++ List.replicate (4 - (lg_sl [.ref (a 0)]).length) Slot.unset).toArray = ls at hl ⊢
  have hl : lv_has ls 4 [(0, .ref (a 0))] := hl
  generalize hZ : MQ bel _ _ ss _ _ _ = Z
  refine lv_aload_n hx hb dX3_assets_0 rfl (lv_at hl 0 rfl) ?_
  refine va_get (D := D) (ci := 3) (v := .ref (a 1)) (C := RX3) (T := TX3) (N := 6) (Ts := wsX30) hx hb hin (fun _ h9 => h9) hown hK hP 0 rfl rfl 0 (by decide) (hts (.fieldLink RX3 10 "Groupbooks" "holdings" "LGroupbooks$Holdings;") (by decide +kernel)) (fun _ h9 => h9) rfl dX3_assets_1 ?_
  refine b_csi (v := nI (mem p 5)) ((va_runVN (As := []) (rest := []) ⟨hx, hb, hml, hown, hts⟩ (c_X2_members ll D a cI cJ p nu de eq am nx oA oD oE oP cR aR hR cl ad gw pr n  ) ⟨va_cnB 0 hts gX3_assets_X2_members_n85 rfl rfl rfl (hE.nest 3 rfl) (hts (.initialized RX2) (by decide +kernel)) (by decide +kernel) ⟨Nat.le_of_ble_eq_true rfl, Nat.le_of_ble_eq_true rfl⟩, hts (.instanceMethod yX2_members) (by decide +kernel), hts (.selects RX2 yX2_members yX2_members) (by decide +kernel)⟩ ⟨PR.blind, va_recv hK hP (ci := 2) (q0 := 1) rfl rfl, PR.go hP hK hE⟩ rfl rfl hl.1 rfl (lv_room (Nat.le_of_ble_eq_true rfl)) dX3_assets_4 ⟨Nat.le_of_ble_eq_true rfl, Nat.le_of_ble_eq_true rfl⟩).run) ?_
  refine lv_istore_n (lv' := [(1, .int (nI (mem p 5))), (0, .ref (a 0))]) hx hb dX3_assets_7 rfl hl (by decide) rfl (fun ls hl => ?_)
  refine lv_iconst (v := 0) hx hb dX3_assets_8 (by decide) ?_
  refine lv_istore_n (lv' := [(2, .int (0)), (1, .int (nI (mem p 5))), (0, .ref (a 0))]) hx hb dX3_assets_9 rfl hl (by decide) rfl (fun ls hl => ?_)
  refine lv_iconst (v := 0) hx hb dX3_assets_10 (by decide) ?_
  refine lv_istore_n (lv' := [(3, .int (0)), (2, .int (0)), (1, .int (nI (mem p 5))), (0, .ref (a 0))]) hx hb dX3_assets_11 rfl hl (by decide) rfl (fun ls hl => ?_)
  have L1 : ∀ (n1 k1 : Nat), k1 + n1 = 6 → ∀ (ls : Array Slot), lv_has ls 4 [(3, .int (nI (k1))), (2, .int (caS oA cR (mem p 5) (k1))), (1, .int (nI (mem p 5))), (0, .ref (a 0))] → W pp ll ee rmX3_assets ss mm (([.ref (a 0)] : List Value).toArray) bel mth cde ss.heap [] 0 0 Z (F0 mm 12 ls []) := by
    intro n1
    induction n1 with
    | zero =>
      intro k1 hk1  ls hl
      have hk1b : 6 = k1 := by omega
      subst hk1b
      refine lv_iload_n hx hb dX3_assets_12 rfl (lv_at hl 0 rfl) ?_
      refine lv_bipush (v := 6) hx hb dX3_assets_13 (by decide) ?_
      refine lv_icmp_ge (tgt := 43) hx hb dX3_assets_15 (by decide) (fun c_1 => ?_) (fun c_1 => ?_)
      · have n_1 : (6) ≤ (6) := (nI_leI (a := 6) (b := 6) (by omega) (by omega)).mp c_1
        refine lv_iload_n hx hb dX3_assets_43 rfl (lv_at hl 1 rfl) ?_
        refine lv_aload_n hx hb dX3_assets_44 rfl (lv_at hl 3 rfl) ?_
        refine va_get (D := D) (ci := 3) (v := .ref (a 3)) (C := RX3) (T := TX3) (N := 6) (Ts := wsX30) hx hb hin (fun _ h9 => h9) hown hK hP 0 rfl rfl 2 (by decide) (hts (.fieldLink RX3 26 "Groupbooks" "balances" "LGroupbooks$Balances;") (by decide +kernel)) (fun _ h9 => h9) rfl dX3_assets_45 ?_
        refine lv_iload_n hx hb dX3_assets_48 rfl (lv_at hl 2 rfl) ?_
        refine b_csi (v := agO cl ad (mem p 5) 6) ((va_runVN (As := [.int (nI (mem p 5))]) (rest := [.int (caS oA cR (mem p 5) (6))]) ⟨hx, hb, hml, hown, hts⟩ (c_X0_agreedAmong ll D a cI cJ p nu de eq am nx oA oD oE oP cR aR hR cl ad gw pr n (mem p 5) (lt31 (mem_lt _ _))) ⟨va_cnB 1 hts gX3_assets_X0_agreedAmong_n117 rfl rfl rfl (hE.nest 6 rfl) (hts (.initialized RX0) (by decide +kernel)) (by decide +kernel) ⟨Nat.le_of_ble_eq_true rfl, Nat.le_of_ble_eq_true rfl⟩, hts (.instanceMethod yX0_agreedAmong) (by decide +kernel), hts (.selects RX0 yX0_agreedAmong yX0_agreedAmong) (by decide +kernel)⟩ ⟨PR.blind, va_recv hK hP (ci := 0) (q0 := 3) rfl rfl, PR.go hP hK hE⟩ rfl rfl hl.1 rfl (lv_room (Nat.le_of_ble_eq_true rfl)) dX3_assets_49 ⟨Nat.le_of_ble_eq_true rfl, Nat.le_of_ble_eq_true rfl⟩).run) ?_
        refine lv_isub hx hb dX3_assets_52 ?_
        subst hZ; exact W.iret hx hb hr (fun t ht _ => ⟨_, rfl, rfl, ht⟩) (fun _ h => nomatch h) dX3_assets_53
      · have n_1 : ¬ ((6) ≤ (6)) := fun h => c_1 ((nI_leI (a := 6) (b := 6) (by omega) (by omega)).mpr h)
        exfalso; omega
    | succ n1 ih1 =>
      intro k1 hk1  ls hl
      have hk1b : k1 < 6 := by omega
      refine lv_iload_n hx hb dX3_assets_12 rfl (lv_at hl 0 rfl) ?_
      refine lv_bipush (v := 6) hx hb dX3_assets_13 (by decide) ?_
      refine lv_icmp_ge (tgt := 43) hx hb dX3_assets_15 (by decide) (fun c_2 => ?_) (fun c_2 => ?_)
      · have n_2 : (6) ≤ (k1) := (nI_leI (a := 6) (b := k1) (by omega) (by omega)).mp c_2
        exfalso; omega
      · have n_2 : ¬ ((6) ≤ (k1)) := fun h => c_2 ((nI_leI (a := 6) (b := k1) (by omega) (by omega)).mpr h)
        refine lv_iload_n hx hb dX3_assets_18 rfl (lv_at hl 2 rfl) ?_
        refine lv_iload_n hx hb dX3_assets_19 rfl (lv_at hl 0 rfl) ?_
        refine b_csi (v := bI (mB (mem p 5) k1)) (W.runS (As := [.int (nI (mem p 5)), .int (nI (k1))]) (rest := []) ⟨hx, hb, hml, hown, hts⟩ (c_X3_isMember ll (mem p 5) k1 (lt31 (mem_lt _ _)) (by omega)) (va_cwS 2 hts gX3_assets_X3_isMember rfl rfl rfl (by decide +kernel) ⟨Nat.le_of_ble_eq_true rfl, Nat.le_of_ble_eq_true rfl⟩) ⟨PT.blind, PT.to⟩ rfl rfl hl.1 rfl (lv_room (Nat.le_of_ble_eq_true rfl)) dX3_assets_20 ⟨Nat.le_of_ble_eq_true rfl, Nat.le_of_ble_eq_true rfl⟩) ?_
        refine lv_if_eq (tgt := 37) hx hb dX3_assets_23 (by decide) (fun c_3 => ?_) (fun c_3 => ?_)
        · have n_3 : ¬ (mB (mem p 5) k1) = true := bI0 c_3
          refine lv_iinc (v := nI (k1 + 1)) (lv' := [(3, .int (nI (k1 + 1))), (2, .int (caS oA cR (mem p 5) (k1))), (1, .int (nI (mem p 5))), (0, .ref (a 0))]) hx hb dX3_assets_37 hl (k := 0) rfl (nI_1 (k1)) (by decide) rfl (fun ls hl => ?_)
          refine lv_goto (tgt := 12) hx hb dX3_assets_40 (by decide) ?_
          have e_4 : (caS oA cR (mem p 5) (k1 + 1)) = (caS oA cR (mem p 5) (k1)) := by first | rfl | exact if_pos (by assumption) | exact if_neg (by assumption) | (simp only [caS, n_2, n_3, Bool.false_eq_true, ↓reduceIte])
          exact ih1 (k1 + 1) (by omega) ls (by rw [e_4]; exact lv_sub hl [0, 1, 2, 3] rfl)
        · have n_3 : (mB (mem p 5) k1) = true := bI1 c_3
          refine lv_iload_n hx hb dX3_assets_26 rfl (lv_at hl 1 rfl) ?_
          refine lv_aload_n hx hb dX3_assets_27 rfl (lv_at hl 3 rfl) ?_
          refine va_get (D := D) (ci := 3) (v := .ref (a 2)) (C := RX3) (T := TX3) (N := 6) (Ts := wsX30) hx hb hin (fun _ h9 => h9) hown hK hP 0 rfl rfl 1 (by decide) (hts (.fieldLink RX3 19 "Groupbooks" "books" "LGroupbooks$Books;") (by decide +kernel)) (fun _ h9 => h9) rfl dX3_assets_28 ?_
          refine lv_iload_n hx hb dX3_assets_31 rfl (lv_at hl 0 rfl) ?_
          refine b_csi (v := tr (oA k1) (cR k1)) ((va_runVN (As := [.int (nI (k1))]) (rest := [.int (caS oA cR (mem p 5) (k1))]) ⟨hx, hb, hml, hown, hts⟩ (c_X1_assetsOf ll D a cI cJ p nu de eq am nx oA oD oE oP cR aR hR cl ad gw pr n k1 (by omega)) ⟨va_cnB 1 hts gX3_assets_X1_assetsOf_n124 rfl rfl rfl (hE.nest 9 rfl) (hts (.initialized RX1) (by decide +kernel)) (by decide +kernel) ⟨Nat.le_of_ble_eq_true rfl, Nat.le_of_ble_eq_true rfl⟩, hts (.instanceMethod yX1_assetsOf) (by decide +kernel), hts (.selects RX1 yX1_assetsOf yX1_assetsOf) (by decide +kernel)⟩ ⟨PR.blind, va_recv hK hP (ci := 1) (q0 := 2) rfl rfl, PR.go hP hK hE⟩ rfl rfl hl.1 rfl (lv_room (Nat.le_of_ble_eq_true rfl)) dX3_assets_32 ⟨Nat.le_of_ble_eq_true rfl, Nat.le_of_ble_eq_true rfl⟩).run) ?_
          refine lv_iadd hx hb dX3_assets_35 ?_
          refine lv_istore_n (lv' := [(2, .int ((caS oA cR (mem p 5) (k1)) + (tr (oA k1) (cR k1)))), (3, .int (nI (k1))), (1, .int (nI (mem p 5))), (0, .ref (a 0))]) hx hb dX3_assets_36 rfl hl (by decide) rfl (fun ls hl => ?_)
          refine lv_iinc (v := nI (k1 + 1)) (lv' := [(3, .int (nI (k1 + 1))), (2, .int ((caS oA cR (mem p 5) (k1)) + (tr (oA k1) (cR k1)))), (1, .int (nI (mem p 5))), (0, .ref (a 0))]) hx hb dX3_assets_37 hl (k := 1) rfl (nI_1 (k1)) (by decide) rfl (fun ls hl => ?_)
          refine lv_goto (tgt := 12) hx hb dX3_assets_40 (by decide) ?_
          have e_5 : (caS oA cR (mem p 5) (k1 + 1)) = ((caS oA cR (mem p 5) (k1)) + (tr (oA k1) (cR k1))) := by first | rfl | exact if_pos (by assumption) | exact if_neg (by assumption) | (simp only [caS, n_2, n_3, Bool.false_eq_true, ↓reduceIte])
          exact ih1 (k1 + 1) (by omega) ls (by rw [e_5]; exact lv_sub hl [0, 1, 2, 3] rfl)
  exact L1 (6) 0 (by omega) ls (lv_sub hl [0, 1, 2, 3] rfl)

abbrev rmX3_debts : Room := ({ frames := 4, cells := 0, slots := 0, locals := 90 } : Room)
set_option maxHeartbeats 4000000 in
set_option maxRecDepth 100000 in
theorem c_X3_debts (ll : Launch) (D : va_G) (a : Nat → Nat) (cI cJ : ClassId) (p : Nat → Int32) (nu de eq : Nat → Int64) (am nx oA oD oE oP cR aR hR cl ad gw pr : Nat → Int32) (n : Int32)   : Met ll yX3_debts wsX3_debts rmX3_debts (va_Pc [.ref (a 0)] (PR D (tyG cI cJ) (GW a cI cJ p nu de eq am nx oA oD oE oP cR aR hR cl ad gw pr n))) (vp_Si (fun rr => rr = caS oD cR (mem p 5) 6 - agO cl ad (mem p 5) 6)) 0 0 (fun _ => False) := by
  refine Met.ofW (cc := cX3_debts) (maxL := 4) (ret := (some .int)) (by decide) rfl ?_
  intro pp ee ss mm ar bel mth cde s₁ B hml hv
  obtain ⟨rfl, hP, hK, hE⟩ := hv
  have hx := B.exec
  have hb := B.bytes
  have hr := B.returns
  have hts := atoms_spec (ws := wsX3_debts) B.pre
  have hown : ss.vm.findClass RX3 = some mm.cls := findClass_of_methodNamed B.named
  have hlocks := B.notSynchronized
  have hin : ∀ w ∈ wsX30, w.before ([.ref (a 0)] : List Value).toArray ss = true := fun w h => hts w ((by decide +kernel : ∀ w ∈ wsX30, w ∈ wsX3_debts) w h)
  have hl := lv_entry [.ref (a 0)] (n := 4) (Nat.le_of_ble_eq_true rfl)
  rw [lg_entry_eq]
  generalize (lg_sl [.ref (a 0)] ++ List.replicate (4 - (lg_sl [.ref (a 0)]).length) Slot.unset).toArray = ls at hl ⊢
  have hl : lv_has ls 4 [(0, .ref (a 0))] := hl
  generalize hZ : MQ bel _ _ ss _ _ _ = Z
  refine lv_aload_n hx hb dX3_debts_0 rfl (lv_at hl 0 rfl) ?_
  refine va_get (D := D) (ci := 3) (v := .ref (a 1)) (C := RX3) (T := TX3) (N := 6) (Ts := wsX30) hx hb hin (fun _ h9 => h9) hown hK hP 0 rfl rfl 0 (by decide) (hts (.fieldLink RX3 10 "Groupbooks" "holdings" "LGroupbooks$Holdings;") (by decide +kernel)) (fun _ h9 => h9) rfl dX3_debts_1 ?_
  refine b_csi (v := nI (mem p 5)) ((va_runVN (As := []) (rest := []) ⟨hx, hb, hml, hown, hts⟩ (c_X2_members ll D a cI cJ p nu de eq am nx oA oD oE oP cR aR hR cl ad gw pr n  ) ⟨va_cnB 0 hts gX3_debts_X2_members_n85 rfl rfl rfl (hE.nest 3 rfl) (hts (.initialized RX2) (by decide +kernel)) (by decide +kernel) ⟨Nat.le_of_ble_eq_true rfl, Nat.le_of_ble_eq_true rfl⟩, hts (.instanceMethod yX2_members) (by decide +kernel), hts (.selects RX2 yX2_members yX2_members) (by decide +kernel)⟩ ⟨PR.blind, va_recv hK hP (ci := 2) (q0 := 1) rfl rfl, PR.go hP hK hE⟩ rfl rfl hl.1 rfl (lv_room (Nat.le_of_ble_eq_true rfl)) dX3_debts_4 ⟨Nat.le_of_ble_eq_true rfl, Nat.le_of_ble_eq_true rfl⟩).run) ?_
  refine lv_istore_n (lv' := [(1, .int (nI (mem p 5))), (0, .ref (a 0))]) hx hb dX3_debts_7 rfl hl (by decide) rfl (fun ls hl => ?_)
  refine lv_iconst (v := 0) hx hb dX3_debts_8 (by decide) ?_
  refine lv_istore_n (lv' := [(2, .int (0)), (1, .int (nI (mem p 5))), (0, .ref (a 0))]) hx hb dX3_debts_9 rfl hl (by decide) rfl (fun ls hl => ?_)
  refine lv_iconst (v := 0) hx hb dX3_debts_10 (by decide) ?_
  refine lv_istore_n (lv' := [(3, .int (0)), (2, .int (0)), (1, .int (nI (mem p 5))), (0, .ref (a 0))]) hx hb dX3_debts_11 rfl hl (by decide) rfl (fun ls hl => ?_)
  have L1 : ∀ (n1 k1 : Nat), k1 + n1 = 6 → ∀ (ls : Array Slot), lv_has ls 4 [(3, .int (nI (k1))), (2, .int (caS oD cR (mem p 5) (k1))), (1, .int (nI (mem p 5))), (0, .ref (a 0))] → W pp ll ee rmX3_debts ss mm (([.ref (a 0)] : List Value).toArray) bel mth cde ss.heap [] 0 0 Z (F0 mm 12 ls []) := by
    intro n1
    induction n1 with
    | zero =>
      intro k1 hk1  ls hl
      have hk1b : 6 = k1 := by omega
      subst hk1b
      refine lv_iload_n hx hb dX3_debts_12 rfl (lv_at hl 0 rfl) ?_
      refine lv_bipush (v := 6) hx hb dX3_debts_13 (by decide) ?_
      refine lv_icmp_ge (tgt := 43) hx hb dX3_debts_15 (by decide) (fun c_1 => ?_) (fun c_1 => ?_)
      · have n_1 : (6) ≤ (6) := (nI_leI (a := 6) (b := 6) (by omega) (by omega)).mp c_1
        refine lv_iload_n hx hb dX3_debts_43 rfl (lv_at hl 1 rfl) ?_
        refine lv_aload_n hx hb dX3_debts_44 rfl (lv_at hl 3 rfl) ?_
        refine va_get (D := D) (ci := 3) (v := .ref (a 3)) (C := RX3) (T := TX3) (N := 6) (Ts := wsX30) hx hb hin (fun _ h9 => h9) hown hK hP 0 rfl rfl 2 (by decide) (hts (.fieldLink RX3 26 "Groupbooks" "balances" "LGroupbooks$Balances;") (by decide +kernel)) (fun _ h9 => h9) rfl dX3_debts_45 ?_
        refine lv_iload_n hx hb dX3_debts_48 rfl (lv_at hl 2 rfl) ?_
        refine b_csi (v := agO cl ad (mem p 5) 6) ((va_runVN (As := [.int (nI (mem p 5))]) (rest := [.int (caS oD cR (mem p 5) (6))]) ⟨hx, hb, hml, hown, hts⟩ (c_X0_agreedAmong ll D a cI cJ p nu de eq am nx oA oD oE oP cR aR hR cl ad gw pr n (mem p 5) (lt31 (mem_lt _ _))) ⟨va_cnB 1 hts gX3_debts_X0_agreedAmong_n117 rfl rfl rfl (hE.nest 6 rfl) (hts (.initialized RX0) (by decide +kernel)) (by decide +kernel) ⟨Nat.le_of_ble_eq_true rfl, Nat.le_of_ble_eq_true rfl⟩, hts (.instanceMethod yX0_agreedAmong) (by decide +kernel), hts (.selects RX0 yX0_agreedAmong yX0_agreedAmong) (by decide +kernel)⟩ ⟨PR.blind, va_recv hK hP (ci := 0) (q0 := 3) rfl rfl, PR.go hP hK hE⟩ rfl rfl hl.1 rfl (lv_room (Nat.le_of_ble_eq_true rfl)) dX3_debts_49 ⟨Nat.le_of_ble_eq_true rfl, Nat.le_of_ble_eq_true rfl⟩).run) ?_
        refine lv_isub hx hb dX3_debts_52 ?_
        subst hZ; exact W.iret hx hb hr (fun t ht _ => ⟨_, rfl, rfl, ht⟩) (fun _ h => nomatch h) dX3_debts_53
      · have n_1 : ¬ ((6) ≤ (6)) := fun h => c_1 ((nI_leI (a := 6) (b := 6) (by omega) (by omega)).mpr h)
        exfalso; omega
    | succ n1 ih1 =>
      intro k1 hk1  ls hl
      have hk1b : k1 < 6 := by omega
      refine lv_iload_n hx hb dX3_debts_12 rfl (lv_at hl 0 rfl) ?_
      refine lv_bipush (v := 6) hx hb dX3_debts_13 (by decide) ?_
      refine lv_icmp_ge (tgt := 43) hx hb dX3_debts_15 (by decide) (fun c_2 => ?_) (fun c_2 => ?_)
      · have n_2 : (6) ≤ (k1) := (nI_leI (a := 6) (b := k1) (by omega) (by omega)).mp c_2
        exfalso; omega
      · have n_2 : ¬ ((6) ≤ (k1)) := fun h => c_2 ((nI_leI (a := 6) (b := k1) (by omega) (by omega)).mpr h)
        refine lv_iload_n hx hb dX3_debts_18 rfl (lv_at hl 2 rfl) ?_
        refine lv_iload_n hx hb dX3_debts_19 rfl (lv_at hl 0 rfl) ?_
        refine b_csi (v := bI (mB (mem p 5) k1)) (W.runS (As := [.int (nI (mem p 5)), .int (nI (k1))]) (rest := []) ⟨hx, hb, hml, hown, hts⟩ (c_X3_isMember ll (mem p 5) k1 (lt31 (mem_lt _ _)) (by omega)) (va_cwS 2 hts gX3_debts_X3_isMember rfl rfl rfl (by decide +kernel) ⟨Nat.le_of_ble_eq_true rfl, Nat.le_of_ble_eq_true rfl⟩) ⟨PT.blind, PT.to⟩ rfl rfl hl.1 rfl (lv_room (Nat.le_of_ble_eq_true rfl)) dX3_debts_20 ⟨Nat.le_of_ble_eq_true rfl, Nat.le_of_ble_eq_true rfl⟩) ?_
        refine lv_if_eq (tgt := 37) hx hb dX3_debts_23 (by decide) (fun c_3 => ?_) (fun c_3 => ?_)
        · have n_3 : ¬ (mB (mem p 5) k1) = true := bI0 c_3
          refine lv_iinc (v := nI (k1 + 1)) (lv' := [(3, .int (nI (k1 + 1))), (2, .int (caS oD cR (mem p 5) (k1))), (1, .int (nI (mem p 5))), (0, .ref (a 0))]) hx hb dX3_debts_37 hl (k := 0) rfl (nI_1 (k1)) (by decide) rfl (fun ls hl => ?_)
          refine lv_goto (tgt := 12) hx hb dX3_debts_40 (by decide) ?_
          have e_4 : (caS oD cR (mem p 5) (k1 + 1)) = (caS oD cR (mem p 5) (k1)) := by first | rfl | exact if_pos (by assumption) | exact if_neg (by assumption) | (simp only [caS, n_2, n_3, Bool.false_eq_true, ↓reduceIte])
          exact ih1 (k1 + 1) (by omega) ls (by rw [e_4]; exact lv_sub hl [0, 1, 2, 3] rfl)
        · have n_3 : (mB (mem p 5) k1) = true := bI1 c_3
          refine lv_iload_n hx hb dX3_debts_26 rfl (lv_at hl 1 rfl) ?_
          refine lv_aload_n hx hb dX3_debts_27 rfl (lv_at hl 3 rfl) ?_
          refine va_get (D := D) (ci := 3) (v := .ref (a 2)) (C := RX3) (T := TX3) (N := 6) (Ts := wsX30) hx hb hin (fun _ h9 => h9) hown hK hP 0 rfl rfl 1 (by decide) (hts (.fieldLink RX3 19 "Groupbooks" "books" "LGroupbooks$Books;") (by decide +kernel)) (fun _ h9 => h9) rfl dX3_debts_28 ?_
          refine lv_iload_n hx hb dX3_debts_31 rfl (lv_at hl 0 rfl) ?_
          refine b_csi (v := tr (oD k1) (cR k1)) ((va_runVN (As := [.int (nI (k1))]) (rest := [.int (caS oD cR (mem p 5) (k1))]) ⟨hx, hb, hml, hown, hts⟩ (c_X1_debtsOf ll D a cI cJ p nu de eq am nx oA oD oE oP cR aR hR cl ad gw pr n k1 (by omega)) ⟨va_cnB 1 hts gX3_debts_X1_debtsOf_n127 rfl rfl rfl (hE.nest 10 rfl) (hts (.initialized RX1) (by decide +kernel)) (by decide +kernel) ⟨Nat.le_of_ble_eq_true rfl, Nat.le_of_ble_eq_true rfl⟩, hts (.instanceMethod yX1_debtsOf) (by decide +kernel), hts (.selects RX1 yX1_debtsOf yX1_debtsOf) (by decide +kernel)⟩ ⟨PR.blind, va_recv hK hP (ci := 1) (q0 := 2) rfl rfl, PR.go hP hK hE⟩ rfl rfl hl.1 rfl (lv_room (Nat.le_of_ble_eq_true rfl)) dX3_debts_32 ⟨Nat.le_of_ble_eq_true rfl, Nat.le_of_ble_eq_true rfl⟩).run) ?_
          refine lv_iadd hx hb dX3_debts_35 ?_
          refine lv_istore_n (lv' := [(2, .int ((caS oD cR (mem p 5) (k1)) + (tr (oD k1) (cR k1)))), (3, .int (nI (k1))), (1, .int (nI (mem p 5))), (0, .ref (a 0))]) hx hb dX3_debts_36 rfl hl (by decide) rfl (fun ls hl => ?_)
          refine lv_iinc (v := nI (k1 + 1)) (lv' := [(3, .int (nI (k1 + 1))), (2, .int ((caS oD cR (mem p 5) (k1)) + (tr (oD k1) (cR k1)))), (1, .int (nI (mem p 5))), (0, .ref (a 0))]) hx hb dX3_debts_37 hl (k := 1) rfl (nI_1 (k1)) (by decide) rfl (fun ls hl => ?_)
          refine lv_goto (tgt := 12) hx hb dX3_debts_40 (by decide) ?_
          have e_5 : (caS oD cR (mem p 5) (k1 + 1)) = ((caS oD cR (mem p 5) (k1)) + (tr (oD k1) (cR k1))) := by first | rfl | exact if_pos (by assumption) | exact if_neg (by assumption) | (simp only [caS, n_2, n_3, Bool.false_eq_true, ↓reduceIte])
          exact ih1 (k1 + 1) (by omega) ls (by rw [e_5]; exact lv_sub hl [0, 1, 2, 3] rfl)
  exact L1 (6) 0 (by omega) ls (lv_sub hl [0, 1, 2, 3] rfl)

abbrev rmX3_minorityAmong : Room := ({ frames := 4, cells := 0, slots := 0, locals := 85 } : Room)
set_option maxHeartbeats 4000000 in
set_option maxRecDepth 100000 in
theorem c_X3_minorityAmong (ll : Launch) (D : va_G) (a : Nat → Nat) (cI cJ : ClassId) (p : Nat → Int32) (nu de eq : Nat → Int64) (am nx oA oD oE oP cR aR hR cl ad gw pr : Nat → Int32) (n : Int32) (M c : Nat) (hM : M < 2 ^ 31) (hc : c < 6) : Met ll yX3_minorityAmong wsX3_minorityAmong rmX3_minorityAmong (va_Pc [.ref (a 0), .int (nI (M)), .int (nI (c))] (PR D (tyG cI cJ) (GW a cI cJ p nu de eq am nx oA oD oE oP cR aR hR cl ad gw pr n))) (vp_Si (fun rr => rr = mAm oA oD cR nu de M c)) 0 0 (fun _ => False) := by
  refine Met.ofW (cc := cX3_minorityAmong) (maxL := 3) (ret := (some .int)) (by decide) rfl ?_
  intro pp ee ss mm ar bel mth cde s₁ B hml hv
  obtain ⟨rfl, hP, hK, hE⟩ := hv
  have hx := B.exec
  have hb := B.bytes
  have hr := B.returns
  have hts := atoms_spec (ws := wsX3_minorityAmong) B.pre
  have hown : ss.vm.findClass RX3 = some mm.cls := findClass_of_methodNamed B.named
  have hlocks := B.notSynchronized
  have hin : ∀ w ∈ wsX30, w.before ([.ref (a 0), .int (nI (M)), .int (nI (c))] : List Value).toArray ss = true := fun w h => hts w ((by decide +kernel : ∀ w ∈ wsX30, w ∈ wsX3_minorityAmong) w h)
  have hl := lv_entry [.ref (a 0), .int (nI (M)), .int (nI (c))] (n := 3) (Nat.le_of_ble_eq_true rfl)
  rw [lg_entry_eq]
  generalize (lg_sl [.ref (a 0), .int (nI (M)), .int (nI (c))] ++ List.replicate (3 - (lg_sl [.ref (a 0), .int (nI (M)), .int (nI (c))]).length) Slot.unset).toArray = ls at hl ⊢
  have hl : lv_has ls 3 [(0, .ref (a 0)), (1, .int (nI (M))), (2, .int (nI (c)))] := hl
  refine lv_iload_n hx hb dX3_minorityAmong_0 rfl (lv_at hl 1 rfl) ?_
  refine lv_iload_n hx hb dX3_minorityAmong_1 rfl (lv_at hl 2 rfl) ?_
  refine b_csi (v := bI (mB M c)) (W.runS (As := [.int (nI (M)), .int (nI (c))]) (rest := []) ⟨hx, hb, hml, hown, hts⟩ (c_X3_isMember ll M c hM (by omega)) (va_cwS 2 hts gX3_minorityAmong_X3_isMember rfl rfl rfl (by decide +kernel) ⟨Nat.le_of_ble_eq_true rfl, Nat.le_of_ble_eq_true rfl⟩) ⟨PT.blind, PT.to⟩ rfl rfl hl.1 rfl (lv_room (Nat.le_of_ble_eq_true rfl)) dX3_minorityAmong_2 ⟨Nat.le_of_ble_eq_true rfl, Nat.le_of_ble_eq_true rfl⟩) ?_
  refine lv_if_eq (tgt := 27) hx hb dX3_minorityAmong_5 (by decide) (fun c_1 => ?_) (fun c_1 => ?_)
  · have n_1 : ¬ (mB M c) = true := bI0 c_1
    refine lv_iconst (v := 0) hx hb dX3_minorityAmong_27 (by decide) ?_
    exact W.iret hx hb hr (fun t ht _ => ⟨_, rfl, (by simp only [mAm, n_1, Bool.false_eq_true, ↓reduceIte]), ht⟩) (fun _ h => nomatch h) dX3_minorityAmong_28
  · have n_1 : (mB M c) = true := bI1 c_1
    refine lv_aload_n hx hb dX3_minorityAmong_8 rfl (lv_at hl 0 rfl) ?_
    refine va_get (D := D) (ci := 3) (v := .ref (a 1)) (C := RX3) (T := TX3) (N := 6) (Ts := wsX30) hx hb hin (fun _ h9 => h9) hown hK hP 0 rfl rfl 0 (by decide) (hts (.fieldLink RX3 10 "Groupbooks" "holdings" "LGroupbooks$Holdings;") (by decide +kernel)) (fun _ h9 => h9) rfl dX3_minorityAmong_9 ?_
    refine lv_iload_n hx hb dX3_minorityAmong_12 rfl (lv_at hl 2 rfl) ?_
    refine lv_aload_n hx hb dX3_minorityAmong_13 rfl (lv_at hl 0 rfl) ?_
    refine va_get (D := D) (ci := 3) (v := .ref (a 2)) (C := RX3) (T := TX3) (N := 6) (Ts := wsX30) hx hb hin (fun _ h9 => h9) hown hK hP 0 rfl rfl 1 (by decide) (hts (.fieldLink RX3 19 "Groupbooks" "books" "LGroupbooks$Books;") (by decide +kernel)) (fun _ h9 => h9) rfl dX3_minorityAmong_14 ?_
    refine lv_iload_n hx hb dX3_minorityAmong_17 rfl (lv_at hl 2 rfl) ?_
    refine b_csi (v := tr (oA c) (cR c) - tr (oD c) (cR c)) ((va_runVN (As := [.int (nI (c))]) (rest := [.int (nI (c)), .ref (a 1)]) ⟨hx, hb, hml, hown, hts⟩ (c_X1_netOf ll D a cI cJ p nu de eq am nx oA oD oE oP cR aR hR cl ad gw pr n c (by omega)) ⟨va_cnB 1 hts gX3_minorityAmong_X1_netOf_n62 rfl rfl rfl (hE.nest 11 rfl) (hts (.initialized RX1) (by decide +kernel)) (by decide +kernel) ⟨Nat.le_of_ble_eq_true rfl, Nat.le_of_ble_eq_true rfl⟩, hts (.instanceMethod yX1_netOf) (by decide +kernel), hts (.selects RX1 yX1_netOf yX1_netOf) (by decide +kernel)⟩ ⟨PR.blind, va_recv hK hP (ci := 1) (q0 := 2) rfl rfl, PR.go hP hK hE⟩ rfl rfl hl.1 rfl (lv_room (Nat.le_of_ble_eq_true rfl)) dX3_minorityAmong_18 ⟨Nat.le_of_ble_eq_true rfl, Nat.le_of_ble_eq_true rfl⟩).run) ?_
    refine b_csi (v := scl (tr (oA c) (cR c) - tr (oD c) (cR c)) (de c - nu c) (de c)) ((va_runVN (As := [.int (nI (c)), .int (tr (oA c) (cR c) - tr (oD c) (cR c))]) (rest := []) ⟨hx, hb, hml, hown, hts⟩ (c_X2_partOfOthers ll D a cI cJ p nu de eq am nx oA oD oE oP cR aR hR cl ad gw pr n c (tr (oA c) (cR c) - tr (oD c) (cR c)) (by omega)) ⟨va_cnB 2 hts gX3_minorityAmong_X2_partOfOthers_n160 rfl rfl rfl (hE.nest 12 rfl) (hts (.initialized RX2) (by decide +kernel)) (by decide +kernel) ⟨Nat.le_of_ble_eq_true rfl, Nat.le_of_ble_eq_true rfl⟩, hts (.instanceMethod yX2_partOfOthers) (by decide +kernel), hts (.selects RX2 yX2_partOfOthers yX2_partOfOthers) (by decide +kernel)⟩ ⟨PR.blind, va_recv hK hP (ci := 2) (q0 := 1) rfl rfl, PR.go hP hK hE⟩ rfl rfl hl.1 rfl (lv_room (Nat.le_of_ble_eq_true rfl)) dX3_minorityAmong_21 ⟨Nat.le_of_ble_eq_true rfl, Nat.le_of_ble_eq_true rfl⟩).run) ?_
    refine lv_goto (tgt := 28) hx hb dX3_minorityAmong_24 (by decide) ?_
    exact W.iret hx hb hr (fun t ht _ => ⟨_, rfl, (by simp only [mAm, n_1, Bool.false_eq_true, ↓reduceIte]), ht⟩) (fun _ h => nomatch h) dX3_minorityAmong_28

abbrev rmX3_minority : Room := ({ frames := 5, cells := 0, slots := 0, locals := 107 } : Room)
set_option maxHeartbeats 4000000 in
set_option maxRecDepth 100000 in
theorem c_X3_minority (ll : Launch) (D : va_G) (a : Nat → Nat) (cI cJ : ClassId) (p : Nat → Int32) (nu de eq : Nat → Int64) (am nx oA oD oE oP cR aR hR cl ad gw pr : Nat → Int32) (n : Int32) (c : Nat) (hc : c < 6) : Met ll yX3_minority wsX3_minority rmX3_minority (va_Pc [.ref (a 0), .int (nI (c))] (PR D (tyG cI cJ) (GW a cI cJ p nu de eq am nx oA oD oE oP cR aR hR cl ad gw pr n))) (vp_Si (fun rr => rr = mAm oA oD cR nu de (mem p 5) c)) 0 0 (fun _ => False) := by
  refine Met.ofW (cc := cX3_minority) (maxL := 2) (ret := (some .int)) (by decide) rfl ?_
  intro pp ee ss mm ar bel mth cde s₁ B hml hv
  obtain ⟨rfl, hP, hK, hE⟩ := hv
  have hx := B.exec
  have hb := B.bytes
  have hr := B.returns
  have hts := atoms_spec (ws := wsX3_minority) B.pre
  have hown : ss.vm.findClass RX3 = some mm.cls := findClass_of_methodNamed B.named
  have hlocks := B.notSynchronized
  have hin : ∀ w ∈ wsX30, w.before ([.ref (a 0), .int (nI (c))] : List Value).toArray ss = true := fun w h => hts w ((by decide +kernel : ∀ w ∈ wsX30, w ∈ wsX3_minority) w h)
  have hl := lv_entry [.ref (a 0), .int (nI (c))] (n := 2) (Nat.le_of_ble_eq_true rfl)
  rw [lg_entry_eq]
  generalize (lg_sl [.ref (a 0), .int (nI (c))] ++ List.replicate (2 - (lg_sl [.ref (a 0), .int (nI (c))]).length) Slot.unset).toArray = ls at hl ⊢
  have hl : lv_has ls 2 [(0, .ref (a 0)), (1, .int (nI (c)))] := hl
  refine lv_iload_n hx hb dX3_minority_0 rfl (lv_at hl 1 rfl) ?_
  refine va_csv (W.runS (As := [.int (nI (c))]) (rest := []) ⟨hx, hb, hml, hown, hts⟩ (c_X3_requireCompany_ok ll (nI (c)) (inB_c c hc)) (va_cwS 1 hts gX3_minority_X3_requireCompany rfl rfl rfl (by decide +kernel) ⟨Nat.le_of_ble_eq_true rfl, Nat.le_of_ble_eq_true rfl⟩) ⟨PT.blind, PT.to⟩ rfl rfl hl.1 rfl (lv_room (Nat.le_of_ble_eq_true rfl)) dX3_minority_1 ⟨Nat.le_of_ble_eq_true rfl, Nat.le_of_ble_eq_true rfl⟩) (fun _ => ?_)
  refine lv_aload_n hx hb dX3_minority_4 rfl (lv_at hl 0 rfl) ?_
  refine lv_aload_n hx hb dX3_minority_5 rfl (lv_at hl 0 rfl) ?_
  refine va_get (D := D) (ci := 3) (v := .ref (a 1)) (C := RX3) (T := TX3) (N := 6) (Ts := wsX30) hx hb hin (fun _ h9 => h9) hown hK hP 0 rfl rfl 0 (by decide) (hts (.fieldLink RX3 10 "Groupbooks" "holdings" "LGroupbooks$Holdings;") (by decide +kernel)) (fun _ h9 => h9) rfl dX3_minority_6 ?_
  refine b_csi (v := nI (mem p 5)) ((va_runVN (As := []) (rest := [.ref (a 0)]) ⟨hx, hb, hml, hown, hts⟩ (c_X2_members ll D a cI cJ p nu de eq am nx oA oD oE oP cR aR hR cl ad gw pr n  ) ⟨va_cnB 0 hts gX3_minority_X2_members_n85 rfl rfl rfl (hE.nest 3 rfl) (hts (.initialized RX2) (by decide +kernel)) (by decide +kernel) ⟨Nat.le_of_ble_eq_true rfl, Nat.le_of_ble_eq_true rfl⟩, hts (.instanceMethod yX2_members) (by decide +kernel), hts (.selects RX2 yX2_members yX2_members) (by decide +kernel)⟩ ⟨PR.blind, va_recv hK hP (ci := 2) (q0 := 1) rfl rfl, PR.go hP hK hE⟩ rfl rfl hl.1 rfl (lv_room (Nat.le_of_ble_eq_true rfl)) dX3_minority_9 ⟨Nat.le_of_ble_eq_true rfl, Nat.le_of_ble_eq_true rfl⟩).run) ?_
  refine lv_iload_n hx hb dX3_minority_12 rfl (lv_at hl 1 rfl) ?_
  refine b_csi (v := mAm oA oD cR nu de (mem p 5) c) (W.runV (As := [.int (nI (mem p 5)), .int (nI (c))]) (rest := []) ⟨hx, hb, hml, hown, hts⟩ (c_X3_minorityAmong ll D a cI cJ p nu de eq am nx oA oD oE oP cR aR hR cl ad gw pr n (mem p 5) c (lt31 (mem_lt _ _)) hc) (cwV 2 hts gX3_minority_X3_minorityAmong rfl rfl rfl (by decide +kernel) ⟨Nat.le_of_ble_eq_true rfl, Nat.le_of_ble_eq_true rfl⟩) ⟨PR.blind, va_recv hK hP (ci := 3) (q0 := 0) rfl rfl, PR.go hP hK hE⟩ rfl rfl hl.1 rfl (lv_room (Nat.le_of_ble_eq_true rfl)) dX3_minority_13 ⟨Nat.le_of_ble_eq_true rfl, Nat.le_of_ble_eq_true rfl⟩) ?_
  exact W.iret hx hb hr (fun t ht _ => ⟨_, rfl, rfl, ht⟩) (fun _ h => nomatch h) dX3_minority_16

abbrev rmX3_equity : Room := ({ frames := 5, cells := 0, slots := 0, locals := 113 } : Room)
set_option maxHeartbeats 4000000 in
set_option maxRecDepth 100000 in
theorem c_X3_equity (ll : Launch) (D : va_G) (a : Nat → Nat) (cI cJ : ClassId) (p : Nat → Int32) (nu de eq : Nat → Int64) (am nx oA oD oE oP cR aR hR cl ad gw pr : Nat → Int32) (n : Int32)   : Met ll yX3_equity wsX3_equity rmX3_equity (va_Pc [.ref (a 0)] (PR D (tyG cI cJ) (GW a cI cJ p nu de eq am nx oA oD oE oP cR aR hR cl ad gw pr n))) (vp_Si (fun rr => rr = caS oA cR (mem p 5) 6 - agO cl ad (mem p 5) 6 - (caS oD cR (mem p 5) 6 - agO cl ad (mem p 5) 6) - cmS oA oD cR nu de (mem p 5) 6)) 0 0 (fun _ => False) := by
  refine Met.ofW (cc := cX3_equity) (maxL := 4) (ret := (some .int)) (by decide) rfl ?_
  intro pp ee ss mm ar bel mth cde s₁ B hml hv
  obtain ⟨rfl, hP, hK, hE⟩ := hv
  have hx := B.exec
  have hb := B.bytes
  have hr := B.returns
  have hts := atoms_spec (ws := wsX3_equity) B.pre
  have hown : ss.vm.findClass RX3 = some mm.cls := findClass_of_methodNamed B.named
  have hlocks := B.notSynchronized
  have hin : ∀ w ∈ wsX30, w.before ([.ref (a 0)] : List Value).toArray ss = true := fun w h => hts w ((by decide +kernel : ∀ w ∈ wsX30, w ∈ wsX3_equity) w h)
  have hl := lv_entry [.ref (a 0)] (n := 4) (Nat.le_of_ble_eq_true rfl)
  rw [lg_entry_eq]
  generalize (lg_sl [.ref (a 0)] ++ List.replicate (4 - (lg_sl [.ref (a 0)]).length) Slot.unset).toArray = ls at hl ⊢
  have hl : lv_has ls 4 [(0, .ref (a 0))] := hl
  generalize hZ : MQ bel _ _ ss _ _ _ = Z
  refine lv_aload_n hx hb dX3_equity_0 rfl (lv_at hl 0 rfl) ?_
  refine va_get (D := D) (ci := 3) (v := .ref (a 1)) (C := RX3) (T := TX3) (N := 6) (Ts := wsX30) hx hb hin (fun _ h9 => h9) hown hK hP 0 rfl rfl 0 (by decide) (hts (.fieldLink RX3 10 "Groupbooks" "holdings" "LGroupbooks$Holdings;") (by decide +kernel)) (fun _ h9 => h9) rfl dX3_equity_1 ?_
  refine b_csi (v := nI (mem p 5)) ((va_runVN (As := []) (rest := []) ⟨hx, hb, hml, hown, hts⟩ (c_X2_members ll D a cI cJ p nu de eq am nx oA oD oE oP cR aR hR cl ad gw pr n  ) ⟨va_cnB 0 hts gX3_equity_X2_members_n85 rfl rfl rfl (hE.nest 3 rfl) (hts (.initialized RX2) (by decide +kernel)) (by decide +kernel) ⟨Nat.le_of_ble_eq_true rfl, Nat.le_of_ble_eq_true rfl⟩, hts (.instanceMethod yX2_members) (by decide +kernel), hts (.selects RX2 yX2_members yX2_members) (by decide +kernel)⟩ ⟨PR.blind, va_recv hK hP (ci := 2) (q0 := 1) rfl rfl, PR.go hP hK hE⟩ rfl rfl hl.1 rfl (lv_room (Nat.le_of_ble_eq_true rfl)) dX3_equity_4 ⟨Nat.le_of_ble_eq_true rfl, Nat.le_of_ble_eq_true rfl⟩).run) ?_
  refine lv_istore_n (lv' := [(1, .int (nI (mem p 5))), (0, .ref (a 0))]) hx hb dX3_equity_7 rfl hl (by decide) rfl (fun ls hl => ?_)
  refine lv_iconst (v := 0) hx hb dX3_equity_8 (by decide) ?_
  refine lv_istore_n (lv' := [(2, .int (0)), (1, .int (nI (mem p 5))), (0, .ref (a 0))]) hx hb dX3_equity_9 rfl hl (by decide) rfl (fun ls hl => ?_)
  refine lv_iconst (v := 0) hx hb dX3_equity_10 (by decide) ?_
  refine lv_istore_n (lv' := [(3, .int (0)), (2, .int (0)), (1, .int (nI (mem p 5))), (0, .ref (a 0))]) hx hb dX3_equity_11 rfl hl (by decide) rfl (fun ls hl => ?_)
  have L1 : ∀ (n1 k1 : Nat), k1 + n1 = 6 → ∀ (ls : Array Slot), lv_has ls 4 [(3, .int (nI (k1))), (2, .int (cmS oA oD cR nu de (mem p 5) (k1))), (1, .int (nI (mem p 5))), (0, .ref (a 0))] → W pp ll ee rmX3_equity ss mm (([.ref (a 0)] : List Value).toArray) bel mth cde ss.heap [] 0 0 Z (F0 mm 12 ls []) := by
    intro n1
    induction n1 with
    | zero =>
      intro k1 hk1  ls hl
      have hk1b : 6 = k1 := by omega
      subst hk1b
      refine lv_iload_n hx hb dX3_equity_12 rfl (lv_at hl 0 rfl) ?_
      refine lv_bipush (v := 6) hx hb dX3_equity_13 (by decide) ?_
      refine lv_icmp_ge (tgt := 33) hx hb dX3_equity_15 (by decide) (fun c_1 => ?_) (fun c_1 => ?_)
      · have n_1 : (6) ≤ (6) := (nI_leI (a := 6) (b := 6) (by omega) (by omega)).mp c_1
        refine lv_aload_n hx hb dX3_equity_33 rfl (lv_at hl 3 rfl) ?_
        refine b_csi (v := caS oA cR (mem p 5) 6 - agO cl ad (mem p 5) 6) (W.runV (As := []) (rest := []) ⟨hx, hb, hml, hown, hts⟩ (c_X3_assets ll D a cI cJ p nu de eq am nx oA oD oE oP cR aR hR cl ad gw pr n  ) (cwV 0 hts gX3_equity_X3_assets rfl rfl rfl (by decide +kernel) ⟨Nat.le_of_ble_eq_true rfl, Nat.le_of_ble_eq_true rfl⟩) ⟨PR.blind, va_recv hK hP (ci := 3) (q0 := 0) rfl rfl, PR.go hP hK hE⟩ rfl rfl hl.1 rfl (lv_room (Nat.le_of_ble_eq_true rfl)) dX3_equity_34 ⟨Nat.le_of_ble_eq_true rfl, Nat.le_of_ble_eq_true rfl⟩) ?_
        refine lv_aload_n hx hb dX3_equity_37 rfl (lv_at hl 3 rfl) ?_
        refine b_csi (v := caS oD cR (mem p 5) 6 - agO cl ad (mem p 5) 6) (W.runV (As := []) (rest := [.int (caS oA cR (mem p 5) 6 - agO cl ad (mem p 5) 6)]) ⟨hx, hb, hml, hown, hts⟩ (c_X3_debts ll D a cI cJ p nu de eq am nx oA oD oE oP cR aR hR cl ad gw pr n  ) (cwV 0 hts gX3_equity_X3_debts rfl rfl rfl (by decide +kernel) ⟨Nat.le_of_ble_eq_true rfl, Nat.le_of_ble_eq_true rfl⟩) ⟨PR.blind, va_recv hK hP (ci := 3) (q0 := 0) rfl rfl, PR.go hP hK hE⟩ rfl rfl hl.1 rfl (lv_room (Nat.le_of_ble_eq_true rfl)) dX3_equity_38 ⟨Nat.le_of_ble_eq_true rfl, Nat.le_of_ble_eq_true rfl⟩) ?_
        refine lv_isub hx hb dX3_equity_41 ?_
        refine lv_iload_n hx hb dX3_equity_42 rfl (lv_at hl 1 rfl) ?_
        refine lv_isub hx hb dX3_equity_43 ?_
        subst hZ; exact W.iret hx hb hr (fun t ht _ => ⟨_, rfl, rfl, ht⟩) (fun _ h => nomatch h) dX3_equity_44
      · have n_1 : ¬ ((6) ≤ (6)) := fun h => c_1 ((nI_leI (a := 6) (b := 6) (by omega) (by omega)).mpr h)
        exfalso; omega
    | succ n1 ih1 =>
      intro k1 hk1  ls hl
      have hk1b : k1 < 6 := by omega
      refine lv_iload_n hx hb dX3_equity_12 rfl (lv_at hl 0 rfl) ?_
      refine lv_bipush (v := 6) hx hb dX3_equity_13 (by decide) ?_
      refine lv_icmp_ge (tgt := 33) hx hb dX3_equity_15 (by decide) (fun c_2 => ?_) (fun c_2 => ?_)
      · have n_2 : (6) ≤ (k1) := (nI_leI (a := 6) (b := k1) (by omega) (by omega)).mp c_2
        exfalso; omega
      · have n_2 : ¬ ((6) ≤ (k1)) := fun h => c_2 ((nI_leI (a := 6) (b := k1) (by omega) (by omega)).mpr h)
        refine lv_iload_n hx hb dX3_equity_18 rfl (lv_at hl 1 rfl) ?_
        refine lv_aload_n hx hb dX3_equity_19 rfl (lv_at hl 3 rfl) ?_
        refine lv_iload_n hx hb dX3_equity_20 rfl (lv_at hl 2 rfl) ?_
        refine lv_iload_n hx hb dX3_equity_21 rfl (lv_at hl 0 rfl) ?_
        refine b_csi (v := mAm oA oD cR nu de (mem p 5) k1) (W.runV (As := [.int (nI (mem p 5)), .int (nI (k1))]) (rest := [.int (cmS oA oD cR nu de (mem p 5) (k1))]) ⟨hx, hb, hml, hown, hts⟩ (c_X3_minorityAmong ll D a cI cJ p nu de eq am nx oA oD oE oP cR aR hR cl ad gw pr n (mem p 5) k1 (lt31 (mem_lt _ _)) (by omega)) (cwV 2 hts gX3_equity_X3_minorityAmong rfl rfl rfl (by decide +kernel) ⟨Nat.le_of_ble_eq_true rfl, Nat.le_of_ble_eq_true rfl⟩) ⟨PR.blind, va_recv hK hP (ci := 3) (q0 := 0) rfl rfl, PR.go hP hK hE⟩ rfl rfl hl.1 rfl (lv_room (Nat.le_of_ble_eq_true rfl)) dX3_equity_22 ⟨Nat.le_of_ble_eq_true rfl, Nat.le_of_ble_eq_true rfl⟩) ?_
        refine lv_iadd hx hb dX3_equity_25 ?_
        refine lv_istore_n (lv' := [(2, .int ((cmS oA oD cR nu de (mem p 5) (k1)) + (mAm oA oD cR nu de (mem p 5) k1))), (3, .int (nI (k1))), (1, .int (nI (mem p 5))), (0, .ref (a 0))]) hx hb dX3_equity_26 rfl hl (by decide) rfl (fun ls hl => ?_)
        refine lv_iinc (v := nI (k1 + 1)) (lv' := [(3, .int (nI (k1 + 1))), (2, .int ((cmS oA oD cR nu de (mem p 5) (k1)) + (mAm oA oD cR nu de (mem p 5) k1))), (1, .int (nI (mem p 5))), (0, .ref (a 0))]) hx hb dX3_equity_27 hl (k := 1) rfl (nI_1 (k1)) (by decide) rfl (fun ls hl => ?_)
        refine lv_goto (tgt := 12) hx hb dX3_equity_30 (by decide) ?_
        have e_3 : (cmS oA oD cR nu de (mem p 5) (k1 + 1)) = ((cmS oA oD cR nu de (mem p 5) (k1)) + (mAm oA oD cR nu de (mem p 5) k1)) := by first | rfl | exact if_pos (by assumption) | exact if_neg (by assumption) | (simp only [n_2, Bool.false_eq_true, ↓reduceIte])
        exact ih1 (k1 + 1) (by omega) ls (by rw [e_3]; exact lv_sub hl [0, 1, 2, 3] rfl)
  exact L1 (6) 0 (by omega) ls (lv_sub hl [0, 1, 2, 3] rfl)

abbrev rmX3_result : Room := ({ frames := 4, cells := 0, slots := 0, locals := 90 } : Room)
set_option maxHeartbeats 4000000 in
set_option maxRecDepth 100000 in
theorem c_X3_result (ll : Launch) (D : va_G) (a : Nat → Nat) (cI cJ : ClassId) (p : Nat → Int32) (nu de eq : Nat → Int64) (am nx oA oD oE oP cR aR hR cl ad gw pr : Nat → Int32) (n : Int32)   : Met ll yX3_result wsX3_result rmX3_result (va_Pc [.ref (a 0)] (PR D (tyG cI cJ) (GW a cI cJ p nu de eq am nx oA oD oE oP cR aR hR cl ad gw pr n))) (vp_Si (fun rr => rr = crS oP aR nu de (mem p 5) 6)) 0 0 (fun _ => False) := by
  refine Met.ofW (cc := cX3_result) (maxL := 4) (ret := (some .int)) (by decide) rfl ?_
  intro pp ee ss mm ar bel mth cde s₁ B hml hv
  obtain ⟨rfl, hP, hK, hE⟩ := hv
  have hx := B.exec
  have hb := B.bytes
  have hr := B.returns
  have hts := atoms_spec (ws := wsX3_result) B.pre
  have hown : ss.vm.findClass RX3 = some mm.cls := findClass_of_methodNamed B.named
  have hlocks := B.notSynchronized
  have hin : ∀ w ∈ wsX30, w.before ([.ref (a 0)] : List Value).toArray ss = true := fun w h => hts w ((by decide +kernel : ∀ w ∈ wsX30, w ∈ wsX3_result) w h)
  have hl := lv_entry [.ref (a 0)] (n := 4) (Nat.le_of_ble_eq_true rfl)
  rw [lg_entry_eq]
  generalize (lg_sl [.ref (a 0)] ++ List.replicate (4 - (lg_sl [.ref (a 0)]).length) Slot.unset).toArray = ls at hl ⊢
  have hl : lv_has ls 4 [(0, .ref (a 0))] := hl
  generalize hZ : MQ bel _ _ ss _ _ _ = Z
  refine lv_aload_n hx hb dX3_result_0 rfl (lv_at hl 0 rfl) ?_
  refine va_get (D := D) (ci := 3) (v := .ref (a 1)) (C := RX3) (T := TX3) (N := 6) (Ts := wsX30) hx hb hin (fun _ h9 => h9) hown hK hP 0 rfl rfl 0 (by decide) (hts (.fieldLink RX3 10 "Groupbooks" "holdings" "LGroupbooks$Holdings;") (by decide +kernel)) (fun _ h9 => h9) rfl dX3_result_1 ?_
  refine b_csi (v := nI (mem p 5)) ((va_runVN (As := []) (rest := []) ⟨hx, hb, hml, hown, hts⟩ (c_X2_members ll D a cI cJ p nu de eq am nx oA oD oE oP cR aR hR cl ad gw pr n  ) ⟨va_cnB 0 hts gX3_result_X2_members_n85 rfl rfl rfl (hE.nest 3 rfl) (hts (.initialized RX2) (by decide +kernel)) (by decide +kernel) ⟨Nat.le_of_ble_eq_true rfl, Nat.le_of_ble_eq_true rfl⟩, hts (.instanceMethod yX2_members) (by decide +kernel), hts (.selects RX2 yX2_members yX2_members) (by decide +kernel)⟩ ⟨PR.blind, va_recv hK hP (ci := 2) (q0 := 1) rfl rfl, PR.go hP hK hE⟩ rfl rfl hl.1 rfl (lv_room (Nat.le_of_ble_eq_true rfl)) dX3_result_4 ⟨Nat.le_of_ble_eq_true rfl, Nat.le_of_ble_eq_true rfl⟩).run) ?_
  refine lv_istore_n (lv' := [(1, .int (nI (mem p 5))), (0, .ref (a 0))]) hx hb dX3_result_7 rfl hl (by decide) rfl (fun ls hl => ?_)
  refine lv_iconst (v := 0) hx hb dX3_result_8 (by decide) ?_
  refine lv_istore_n (lv' := [(2, .int (0)), (1, .int (nI (mem p 5))), (0, .ref (a 0))]) hx hb dX3_result_9 rfl hl (by decide) rfl (fun ls hl => ?_)
  refine lv_iconst (v := 0) hx hb dX3_result_10 (by decide) ?_
  refine lv_istore_n (lv' := [(3, .int (0)), (2, .int (0)), (1, .int (nI (mem p 5))), (0, .ref (a 0))]) hx hb dX3_result_11 rfl hl (by decide) rfl (fun ls hl => ?_)
  have L1 : ∀ (n1 k1 : Nat), k1 + n1 = 6 → ∀ (ls : Array Slot), lv_has ls 4 [(3, .int (nI (k1))), (2, .int (crS oP aR nu de (mem p 5) (k1))), (1, .int (nI (mem p 5))), (0, .ref (a 0))] → W pp ll ee rmX3_result ss mm (([.ref (a 0)] : List Value).toArray) bel mth cde ss.heap [] 0 0 Z (F0 mm 12 ls []) := by
    intro n1
    induction n1 with
    | zero =>
      intro k1 hk1  ls hl
      have hk1b : 6 = k1 := by omega
      subst hk1b
      refine lv_iload_n hx hb dX3_result_12 rfl (lv_at hl 0 rfl) ?_
      refine lv_bipush (v := 6) hx hb dX3_result_13 (by decide) ?_
      refine lv_icmp_ge (tgt := 51) hx hb dX3_result_15 (by decide) (fun c_1 => ?_) (fun c_1 => ?_)
      · have n_1 : (6) ≤ (6) := (nI_leI (a := 6) (b := 6) (by omega) (by omega)).mp c_1
        refine lv_iload_n hx hb dX3_result_51 rfl (lv_at hl 1 rfl) ?_
        subst hZ; exact W.iret hx hb hr (fun t ht _ => ⟨_, rfl, (by first | rfl | assumption), ht⟩) (fun _ h => nomatch h) dX3_result_52
      · have n_1 : ¬ ((6) ≤ (6)) := fun h => c_1 ((nI_leI (a := 6) (b := 6) (by omega) (by omega)).mpr h)
        exfalso; omega
    | succ n1 ih1 =>
      intro k1 hk1  ls hl
      have hk1b : k1 < 6 := by omega
      refine lv_iload_n hx hb dX3_result_12 rfl (lv_at hl 0 rfl) ?_
      refine lv_bipush (v := 6) hx hb dX3_result_13 (by decide) ?_
      refine lv_icmp_ge (tgt := 51) hx hb dX3_result_15 (by decide) (fun c_2 => ?_) (fun c_2 => ?_)
      · have n_2 : (6) ≤ (k1) := (nI_leI (a := 6) (b := k1) (by omega) (by omega)).mp c_2
        exfalso; omega
      · have n_2 : ¬ ((6) ≤ (k1)) := fun h => c_2 ((nI_leI (a := 6) (b := k1) (by omega) (by omega)).mpr h)
        refine lv_iload_n hx hb dX3_result_18 rfl (lv_at hl 2 rfl) ?_
        refine lv_iload_n hx hb dX3_result_19 rfl (lv_at hl 0 rfl) ?_
        refine b_csi (v := bI (mB (mem p 5) k1)) (W.runS (As := [.int (nI (mem p 5)), .int (nI (k1))]) (rest := []) ⟨hx, hb, hml, hown, hts⟩ (c_X3_isMember ll (mem p 5) k1 (lt31 (mem_lt _ _)) (by omega)) (va_cwS 2 hts gX3_result_X3_isMember rfl rfl rfl (by decide +kernel) ⟨Nat.le_of_ble_eq_true rfl, Nat.le_of_ble_eq_true rfl⟩) ⟨PT.blind, PT.to⟩ rfl rfl hl.1 rfl (lv_room (Nat.le_of_ble_eq_true rfl)) dX3_result_20 ⟨Nat.le_of_ble_eq_true rfl, Nat.le_of_ble_eq_true rfl⟩) ?_
        refine lv_if_eq (tgt := 45) hx hb dX3_result_23 (by decide) (fun c_3 => ?_) (fun c_3 => ?_)
        · have n_3 : ¬ (mB (mem p 5) k1) = true := bI0 c_3
          refine lv_iinc (v := nI (k1 + 1)) (lv' := [(3, .int (nI (k1 + 1))), (2, .int (crS oP aR nu de (mem p 5) (k1))), (1, .int (nI (mem p 5))), (0, .ref (a 0))]) hx hb dX3_result_45 hl (k := 0) rfl (nI_1 (k1)) (by decide) rfl (fun ls hl => ?_)
          refine lv_goto (tgt := 12) hx hb dX3_result_48 (by decide) ?_
          have e_4 : (crS oP aR nu de (mem p 5) (k1 + 1)) = (crS oP aR nu de (mem p 5) (k1)) := by first | rfl | exact if_pos (by assumption) | exact if_neg (by assumption) | (simp only [crS, n_2, n_3, Bool.false_eq_true, ↓reduceIte])
          exact ih1 (k1 + 1) (by omega) ls (by rw [e_4]; exact lv_sub hl [0, 1, 2, 3] rfl)
        · have n_3 : (mB (mem p 5) k1) = true := bI1 c_3
          refine lv_iload_n hx hb dX3_result_26 rfl (lv_at hl 1 rfl) ?_
          refine lv_aload_n hx hb dX3_result_27 rfl (lv_at hl 3 rfl) ?_
          refine va_get (D := D) (ci := 3) (v := .ref (a 1)) (C := RX3) (T := TX3) (N := 6) (Ts := wsX30) hx hb hin (fun _ h9 => h9) hown hK hP 0 rfl rfl 0 (by decide) (hts (.fieldLink RX3 10 "Groupbooks" "holdings" "LGroupbooks$Holdings;") (by decide +kernel)) (fun _ h9 => h9) rfl dX3_result_28 ?_
          refine lv_iload_n hx hb dX3_result_31 rfl (lv_at hl 0 rfl) ?_
          refine lv_aload_n hx hb dX3_result_32 rfl (lv_at hl 3 rfl) ?_
          refine va_get (D := D) (ci := 3) (v := .ref (a 2)) (C := RX3) (T := TX3) (N := 6) (Ts := wsX30) hx hb hin (fun _ h9 => h9) hown hK hP 0 rfl rfl 1 (by decide) (hts (.fieldLink RX3 19 "Groupbooks" "books" "LGroupbooks$Books;") (by decide +kernel)) (fun _ h9 => h9) rfl dX3_result_33 ?_
          refine lv_iload_n hx hb dX3_result_36 rfl (lv_at hl 0 rfl) ?_
          refine b_csi (v := tr (oP k1) (aR k1)) ((va_runVN (As := [.int (nI (k1))]) (rest := [.int (nI (k1)), .ref (a 1), .int (crS oP aR nu de (mem p 5) (k1))]) ⟨hx, hb, hml, hown, hts⟩ (c_X1_profitOf ll D a cI cJ p nu de eq am nx oA oD oE oP cR aR hR cl ad gw pr n k1 (by omega)) ⟨va_cnB 1 hts gX3_result_X1_profitOf_n104 rfl rfl rfl (hE.nest 13 rfl) (hts (.initialized RX1) (by decide +kernel)) (by decide +kernel) ⟨Nat.le_of_ble_eq_true rfl, Nat.le_of_ble_eq_true rfl⟩, hts (.instanceMethod yX1_profitOf) (by decide +kernel), hts (.selects RX1 yX1_profitOf yX1_profitOf) (by decide +kernel)⟩ ⟨PR.blind, va_recv hK hP (ci := 1) (q0 := 2) rfl rfl, PR.go hP hK hE⟩ rfl rfl hl.1 rfl (lv_room (Nat.le_of_ble_eq_true rfl)) dX3_result_37 ⟨Nat.le_of_ble_eq_true rfl, Nat.le_of_ble_eq_true rfl⟩).run) ?_
          refine b_csi (v := scl (tr (oP k1) (aR k1)) (nu k1) (de k1)) ((va_runVN (As := [.int (nI (k1)), .int (tr (oP k1) (aR k1))]) (rest := [.int (crS oP aR nu de (mem p 5) (k1))]) ⟨hx, hb, hml, hown, hts⟩ (c_X2_partOfParent ll D a cI cJ p nu de eq am nx oA oD oE oP cR aR hR cl ad gw pr n k1 (tr (oP k1) (aR k1)) (by omega)) ⟨va_cnB 2 hts gX3_result_X2_partOfParent_n139 rfl rfl rfl (hE.nest 14 rfl) (hts (.initialized RX2) (by decide +kernel)) (by decide +kernel) ⟨Nat.le_of_ble_eq_true rfl, Nat.le_of_ble_eq_true rfl⟩, hts (.instanceMethod yX2_partOfParent) (by decide +kernel), hts (.selects RX2 yX2_partOfParent yX2_partOfParent) (by decide +kernel)⟩ ⟨PR.blind, va_recv hK hP (ci := 2) (q0 := 1) rfl rfl, PR.go hP hK hE⟩ rfl rfl hl.1 rfl (lv_room (Nat.le_of_ble_eq_true rfl)) dX3_result_40 ⟨Nat.le_of_ble_eq_true rfl, Nat.le_of_ble_eq_true rfl⟩).run) ?_
          refine lv_iadd hx hb dX3_result_43 ?_
          refine lv_istore_n (lv' := [(2, .int ((crS oP aR nu de (mem p 5) (k1)) + (scl (tr (oP k1) (aR k1)) (nu k1) (de k1)))), (3, .int (nI (k1))), (1, .int (nI (mem p 5))), (0, .ref (a 0))]) hx hb dX3_result_44 rfl hl (by decide) rfl (fun ls hl => ?_)
          refine lv_iinc (v := nI (k1 + 1)) (lv' := [(3, .int (nI (k1 + 1))), (2, .int ((crS oP aR nu de (mem p 5) (k1)) + (scl (tr (oP k1) (aR k1)) (nu k1) (de k1)))), (1, .int (nI (mem p 5))), (0, .ref (a 0))]) hx hb dX3_result_45 hl (k := 1) rfl (nI_1 (k1)) (by decide) rfl (fun ls hl => ?_)
          refine lv_goto (tgt := 12) hx hb dX3_result_48 (by decide) ?_
          have e_5 : (crS oP aR nu de (mem p 5) (k1 + 1)) = ((crS oP aR nu de (mem p 5) (k1)) + (scl (tr (oP k1) (aR k1)) (nu k1) (de k1))) := by first | rfl | exact if_pos (by assumption) | exact if_neg (by assumption) | (simp only [crS, n_2, n_3, Bool.false_eq_true, ↓reduceIte])
          exact ih1 (k1 + 1) (by omega) ls (by rw [e_5]; exact lv_sub hl [0, 1, 2, 3] rfl)
  exact L1 (6) 0 (by omega) ls (lv_sub hl [0, 1, 2, 3] rfl)
