abbrev rmX2_clearEntry : Room := ({ frames := 1, cells := 0, slots := 0, locals := 21 } : Room)
set_option maxHeartbeats 4000000 in
set_option maxRecDepth 100000 in
theorem c_X2_clearEntry (ll : Launch) (D : va_G) (a : Nat → Nat) (cI cJ : ClassId) (sz : Nat) (p : Nat → Int32) (nu de eq : Nat → Int64) (am nx oA oD oE oP cR aR hR cl ad gw pr : Nat → Int32) (n : Int32) (r c : Nat) (pv dv : Int64) (hr : r < 6) (hc : c < 6) : Met ll yX2_clearEntry wsX2_clearEntry rmX2_clearEntry (va_Pc [.ref (a 1), .int (nI (r)), .int (nI (c)), .long (pv), .long (dv)] (PW D (tyG cI cJ) (GW a cI cJ p nu de eq am nx oA oD oE oP cR aR hR cl ad gw pr n) sz)) (va_Qv (fun (u : Unit) => True) (fun (u : Unit) t => AW D (tyG cI cJ) (va_A (GW a cI cJ p nu de eq am nx oA oD oE oP cR aR hR cl ad gw pr n) sz) (GW a cI cJ p nu de (ce eq r c pv dv) am nx oA oD oE oP cR aR hR cl ad gw pr n) t) (va_A (GW a cI cJ p nu de eq am nx oA oD oE oP cR aR hR cl ad gw pr n) sz)) 0 0 (va_A (GW a cI cJ p nu de eq am nx oA oD oE oP cR aR hR cl ad gw pr n) sz) := by
  refine Met.ofW (cc := cX2_clearEntry) (maxL := 13) (ret := none) (by decide) rfl ?_
  intro pp ee ss mm ar bel mth cd s₁ B hml hv
  obtain ⟨rfl, hsz, hP, hK, hD0, hE⟩ := hv
  have hx := B.exec
  have hb := B.bytes
  have hr := B.returns
  have hts := atoms_spec (ws := wsX2_clearEntry) B.pre
  have hown : ss.vm.findClass RX2 = some mm.cls := findClass_of_methodNamed B.named
  have hlocks := B.notSynchronized
  subst hsz
  have hD := hD0.self (sz := ss.heap.size)
  generalize hAe : va_A (GW a cI cJ p nu de eq am nx oA oD oE oP cR aR hR cl ad gw pr n) ss.heap.size = A at hD ⊢
  have hA : ∀ q : Nat, ss.heap.size ≤ q → A q := fun q h => by rw [← hAe]; exact Or.inr h
  have hS : va_S A ss.heap ss.heap [] := va_S.rf
  have hin : ∀ w ∈ wsX20, w.before ([.ref (a 1), .int (nI (r)), .int (nI (c)), .long (pv), .long (dv)] : List Value).toArray ss = true := fun w h => hts w ((by decide +kernel : ∀ w ∈ wsX20, w ∈ wsX2_clearEntry) w h)
  have hl := lv_entry [.ref (a 1), .int (nI (r)), .int (nI (c)), .long (pv), .long (dv)] (n := 13) (Nat.le_of_ble_eq_true rfl)
  rw [lg_entry_eq]
  generalize (lg_sl [.ref (a 1), .int (nI (r)), .int (nI (c)), .long (pv), .long (dv)] ++ List.replicate (13 - (lg_sl [.ref (a 1), .int (nI (r)), .int (nI (c)), .long (pv), .long (dv)]).length) Slot.unset).toArray = ls at hl ⊢
  have hl : lv_has ls 13 [(0, .ref (a 1)), (1, .int (nI (r))), (2, .int (nI (c))), (3, .long (pv)), (5, .long (dv))] := hl
  generalize hZ : MQ bel _ _ ss _ _ _ = Z
  refine lv_aload_n hx hb dX2_clearEntry_0 rfl (lv_at hl 0 rfl) ?_
  refine va_get (D := D) (ci := 2) (v := .ref (a 9)) (C := RX2) (T := TX2) (N := 6) (Ts := wsX20) hx hb hin (fun _ h9 => h9) hown hK hP 1 rfl rfl 3 (by decide) (hts (.fieldLink RX2 22 "Groupbooks$Holdings" "equations" "[J") (by decide +kernel)) (fun _ h9 => h9) rfl dX2_clearEntry_1 ?_
  refine lv_iload_n hx hb dX2_clearEntry_4 rfl (lv_at hl 1 rfl) ?_
  refine lv_iload_n hx hb dX2_clearEntry_5 rfl (lv_at hl 2 rfl) ?_
  refine b_csi (v := nI (6 * r + c)) ((va_runSN (As := [.int (nI (r)), .int (nI (c))]) (rest := [.ref (a 9)]) ⟨hx, hb, hml, hown, hts⟩ (c_X3_pair ll r c ) ⟨va_cnB 2 hts gX2_clearEntry_X3_pair_n31 rfl rfl rfl (hE.nest 5 rfl) (hts (.initialized RX3) (by decide +kernel)) (by decide +kernel) ⟨Nat.le_of_ble_eq_true rfl, Nat.le_of_ble_eq_true rfl⟩, hts (.static yX3_pair) (by decide +kernel), trivial⟩ ⟨PT.blind, PT.to⟩ rfl rfl hl.1 rfl (lv_room (Nat.le_of_ble_eq_true rfl)) dX2_clearEntry_6 ⟨Nat.le_of_ble_eq_true rfl, Nat.le_of_ble_eq_true rfl⟩).run) ?_
  refine b_lald hx hb hK hP 9 1 (f := eq) rfl rfl (j := 6 * r + c) (by omega) (by decide) dX2_clearEntry_9 ?_
  refine lv_lstore (lv' := [(7, .long (eq (6 * r + c))), (0, .ref (a 1)), (1, .int (nI (r))), (2, .int (nI (c))), (3, .long (pv)), (5, .long (dv))]) hx hb dX2_clearEntry_10 hl (by decide) rfl (fun ls hl => ?_)
  refine lv_lload hx hb dX2_clearEntry_12 (lv_at hl 5 rfl) ?_
  refine lv_lconst (v := 0) hx hb dX2_clearEntry_14 (by decide) ?_
  refine W.lcmp hx hb dX2_clearEntry_15 ?_
  refine lv_if_le (tgt := 81) hx hb dX2_clearEntry_16 (by decide) (fun c_1 => ?_) (fun c_1 => ?_)
  · have n_1 : dv ≤ 0 := (lg_cmp_le _ _).mp c_1
    have e_2 : ce eq r c pv dv = eq := by first | rfl | exact if_pos (by assumption) | exact if_neg (by assumption) | (simp only [ce, n_1, Bool.false_eq_true, ↓reduceIte])
    subst hZ; exact W.vret hx hb hr (fun t ht hW => ⟨⟨(), rfl, trivial, (by rw [ht]; exact (by rw [e_2]; exact hP)), va_K.moved hW.alike hK, (by rw [e_2]; exact hD)⟩, hS.F ht⟩) hS.2.2 dX2_clearEntry_81
  · have n_1 : ¬ (dv ≤ 0) := fun h => c_1 ((lg_cmp_le _ _).mpr h)
    refine lv_iconst (v := 0) hx hb dX2_clearEntry_19 (by decide) ?_
    refine lv_istore (lv' := [(9, .int (0)), (7, .long (eq (6 * r + c))), (0, .ref (a 1)), (1, .int (nI (r))), (2, .int (nI (c))), (3, .long (pv)), (5, .long (dv))]) hx hb dX2_clearEntry_20 hl (by decide) rfl (fun ls hl => ?_)
    have L3 : ∀ (n3 k3 : Nat), k3 + n3 = 6 → ∀ (H : Heap) (locs : List Loc) (ls : Array Slot), va_P D vwCl (GW a cI cJ p nu de (ceK eq r c pv dv (k3)) am nx oA oD oE oP cR aR hR cl ad gw pr n) H → va_D A (GW a cI cJ p nu de (ceK eq r c pv dv (k3)) am nx oA oD oE oP cR aR hR cl ad gw pr n) → va_S A ss.heap H locs → lv_has ls 13 [(9, .int (nI (k3))), (7, .long (eq (6 * r + c))), (0, .ref (a 1)), (1, .int (nI (r))), (2, .int (nI (c))), (3, .long (pv)), (5, .long (dv))] → W pp ll ee rmX2_clearEntry ss mm (([.ref (a 1), .int (nI (r)), .int (nI (c)), .long (pv), .long (dv)] : List Value).toArray) bel mth cd H locs 0 0 Z (F0 mm 22 ls []) := by
      intro n3
      induction n3 with
      | zero =>
        intro k3 hk3  H locs ls hP hD hS hl
        have hk3b : 6 = k3 := by omega
        subst hk3b
        refine lv_iload hx hb dX2_clearEntry_22 (lv_at hl 0 rfl) ?_
        refine lv_bipush (v := 6) hx hb dX2_clearEntry_24 (by decide) ?_
        refine lv_icmp_ge (tgt := 81) hx hb dX2_clearEntry_26 (by decide) (fun c_4 => ?_) (fun c_4 => ?_)
        · have n_4 : (6) ≤ (6) := (nI_leI (a := 6) (b := 6) (by omega) (by omega)).mp c_4
          have e_5 : ce eq r c pv dv = ceK eq r c pv dv (6) := by first | rfl | exact if_pos (by assumption) | exact if_neg (by assumption) | (simp only [ce, n_1, n_4, Bool.false_eq_true, ↓reduceIte])
          subst hZ; exact W.vret hx hb hr (fun t ht hW => ⟨⟨(), rfl, trivial, (by rw [ht]; exact (by rw [e_5]; exact hP)), va_K.moved hW.alike hK, (by rw [e_5]; exact hD)⟩, hS.F ht⟩) hS.2.2 dX2_clearEntry_81
        · have n_4 : ¬ ((6) ≤ (6)) := fun h => c_4 ((nI_leI (a := 6) (b := 6) (by omega) (by omega)).mpr h)
          exfalso; omega
      | succ n3 ih3 =>
        intro k3 hk3  H locs ls hP hD hS hl
        have hk3b : k3 < 6 := by omega
        refine lv_iload hx hb dX2_clearEntry_22 (lv_at hl 0 rfl) ?_
        refine lv_bipush (v := 6) hx hb dX2_clearEntry_24 (by decide) ?_
        refine lv_icmp_ge (tgt := 81) hx hb dX2_clearEntry_26 (by decide) (fun c_6 => ?_) (fun c_6 => ?_)
        · have n_6 : (6) ≤ (k3) := (nI_leI (a := 6) (b := k3) (by omega) (by omega)).mp c_6
          exfalso; omega
        · have n_6 : ¬ ((6) ≤ (k3)) := fun h => c_6 ((nI_leI (a := 6) (b := k3) (by omega) (by omega)).mpr h)
          refine lv_lload hx hb dX2_clearEntry_29 (lv_at hl 1 rfl) ?_
          refine lv_aload_n hx hb dX2_clearEntry_31 rfl (lv_at hl 2 rfl) ?_
          refine va_get (D := D) (ci := 2) (v := .ref (a 9)) (C := RX2) (T := TX2) (N := 6) (Ts := wsX20) hx hb hin (fun _ h9 => h9) hown hK hP 1 rfl rfl 3 (by decide) (hts (.fieldLink RX2 22 "Groupbooks$Holdings" "equations" "[J") (by decide +kernel)) (fun _ h9 => h9) rfl dX2_clearEntry_32 ?_
          refine lv_iload_n hx hb dX2_clearEntry_35 rfl (lv_at hl 4 rfl) ?_
          refine lv_iload hx hb dX2_clearEntry_36 (lv_at hl 0 rfl) ?_
          refine b_csi (v := nI (6 * c + k3)) ((va_runSN (As := [.int (nI (c)), .int (nI (k3))]) (rest := [.ref (a 9), .long (eq (6 * r + c))]) ⟨hx, hb, hml, hown, hts⟩ (c_X3_pair ll c k3 ) ⟨va_cnB 2 hts gX2_clearEntry_X3_pair_n31 rfl rfl rfl (hE.nest 5 rfl) (hts (.initialized RX3) (by decide +kernel)) (by decide +kernel) ⟨Nat.le_of_ble_eq_true rfl, Nat.le_of_ble_eq_true rfl⟩, hts (.static yX3_pair) (by decide +kernel), trivial⟩ ⟨PT.blind, PT.to⟩ rfl rfl hl.1 rfl (lv_room (Nat.le_of_ble_eq_true rfl)) dX2_clearEntry_38 ⟨Nat.le_of_ble_eq_true rfl, Nat.le_of_ble_eq_true rfl⟩).run) ?_
          refine b_lald hx hb hK hP 9 1 (f := (ceK eq r c pv dv (k3))) rfl rfl (j := 6 * c + k3) (by omega) (by decide) dX2_clearEntry_41 ?_
          refine lv_lmul hx hb dX2_clearEntry_42 ?_
          refine lv_lstore (lv' := [(10, .long ((eq (6 * r + c)) * ((ceK eq r c pv dv (k3)) (6 * c + k3)))), (9, .int (nI (k3))), (7, .long (eq (6 * r + c))), (0, .ref (a 1)), (1, .int (nI (r))), (2, .int (nI (c))), (3, .long (pv)), (5, .long (dv))]) hx hb dX2_clearEntry_43 hl (by decide) rfl (fun ls hl => ?_)
          refine lv_iload_n hx hb dX2_clearEntry_45 rfl (lv_at hl 4 rfl) ?_
          refine lv_iload hx hb dX2_clearEntry_46 (lv_at hl 1 rfl) ?_
          refine b_csi (v := nI (6 * r + k3)) ((va_runSN (As := [.int (nI (r)), .int (nI (k3))]) (rest := []) ⟨hx, hb, hml, hown, hts⟩ (c_X3_pair ll r k3 ) ⟨va_cnB 2 hts gX2_clearEntry_X3_pair_n31 rfl rfl rfl (hE.nest 5 rfl) (hts (.initialized RX3) (by decide +kernel)) (by decide +kernel) ⟨Nat.le_of_ble_eq_true rfl, Nat.le_of_ble_eq_true rfl⟩, hts (.static yX3_pair) (by decide +kernel), trivial⟩ ⟨PT.blind, PT.to⟩ rfl rfl hl.1 rfl (lv_room (Nat.le_of_ble_eq_true rfl)) dX2_clearEntry_48 ⟨Nat.le_of_ble_eq_true rfl, Nat.le_of_ble_eq_true rfl⟩).run) ?_
          refine lv_istore (lv' := [(12, .int (nI (6 * r + k3))), (10, .long ((eq (6 * r + c)) * ((ceK eq r c pv dv (k3)) (6 * c + k3)))), (9, .int (nI (k3))), (7, .long (eq (6 * r + c))), (0, .ref (a 1)), (1, .int (nI (r))), (2, .int (nI (c))), (3, .long (pv)), (5, .long (dv))]) hx hb dX2_clearEntry_51 hl (by decide) rfl (fun ls hl => ?_)
          refine lv_aload_n hx hb dX2_clearEntry_53 rfl (lv_at hl 4 rfl) ?_
          refine va_get (D := D) (ci := 2) (v := .ref (a 9)) (C := RX2) (T := TX2) (N := 6) (Ts := wsX20) hx hb hin (fun _ h9 => h9) hown hK hP 1 rfl rfl 3 (by decide) (hts (.fieldLink RX2 22 "Groupbooks$Holdings" "equations" "[J") (by decide +kernel)) (fun _ h9 => h9) rfl dX2_clearEntry_54 ?_
          refine lv_iload hx hb dX2_clearEntry_57 (lv_at hl 0 rfl) ?_
          refine lv_aload_n hx hb dX2_clearEntry_59 rfl (lv_at hl 4 rfl) ?_
          refine va_get (D := D) (ci := 2) (v := .ref (a 9)) (C := RX2) (T := TX2) (N := 6) (Ts := wsX20) hx hb hin (fun _ h9 => h9) hown hK hP 1 rfl rfl 3 (by decide) (hts (.fieldLink RX2 22 "Groupbooks$Holdings" "equations" "[J") (by decide +kernel)) (fun _ h9 => h9) rfl dX2_clearEntry_60 ?_
          refine lv_iload hx hb dX2_clearEntry_63 (lv_at hl 0 rfl) ?_
          refine b_lald hx hb hK hP 9 1 (f := (ceK eq r c pv dv (k3))) rfl rfl (j := 6 * r + k3) (by omega) (by decide) dX2_clearEntry_65 ?_
          refine lv_lload_n hx hb dX2_clearEntry_66 rfl (lv_at hl 7 rfl) ?_
          refine lv_lmul hx hb dX2_clearEntry_67 ?_
          refine lv_lload hx hb dX2_clearEntry_68 (lv_at hl 1 rfl) ?_
          refine lv_lsub hx hb dX2_clearEntry_70 ?_
          refine lv_lload hx hb dX2_clearEntry_71 (lv_at hl 8 rfl) ?_
          refine lv_ldiv hx hb dX2_clearEntry_73 (ne_of_nle n_1) ?_
          refine b_last (w' := GW a cI cJ p nu de (vp_updL (ceK eq r c pv dv (k3)) (6 * r + k3) (((((ceK eq r c pv dv (k3)) (6 * r + k3)) * (pv)) - ((eq (6 * r + c)) * ((ceK eq r c pv dv (k3)) (6 * c + k3)))) / (dv))) am nx oA oD oE oP cR aR hR cl ad gw pr n) hx hb hK hP hD hS 9 1 (f := (ceK eq r c pv dv (k3))) rfl rfl (j := 6 * r + k3) (by omega) (by decide) rfl dX2_clearEntry_74 (fun H locs hP hD hS => ?_)
          refine lv_iinc (v := nI (k3 + 1)) (lv' := [(9, .int (nI (k3 + 1))), (12, .int (nI (6 * r + k3))), (10, .long ((eq (6 * r + c)) * ((ceK eq r c pv dv (k3)) (6 * c + k3)))), (7, .long (eq (6 * r + c))), (0, .ref (a 1)), (1, .int (nI (r))), (2, .int (nI (c))), (3, .long (pv)), (5, .long (dv))]) hx hb dX2_clearEntry_75 hl (k := 2) rfl (nI_1 (k3)) (by decide) rfl (fun ls hl => ?_)
          refine lv_goto (tgt := 22) hx hb dX2_clearEntry_78 (by decide) ?_
          have e_7 : ceK eq r c pv dv (k3 + 1) = vp_updL (ceK eq r c pv dv (k3)) (6 * r + k3) (((((ceK eq r c pv dv (k3)) (6 * r + k3)) * (pv)) - ((eq (6 * r + c)) * ((ceK eq r c pv dv (k3)) (6 * c + k3)))) / (dv)) := by first | rfl | exact if_pos (by assumption) | exact if_neg (by assumption) | (simp only [n_1, n_6, Bool.false_eq_true, ↓reduceIte])
          exact ih3 (k3 + 1) (by omega) _ _ ls (by rw [e_7]; exact hP) (by rw [e_7]; exact hD) hS (lv_sub hl [0, 3, 4, 5, 6, 7, 8] rfl)
    exact L3 (6) 0 (by omega) _ _ ls hP hD hS (lv_sub hl [0, 1, 2, 3, 4, 5, 6] rfl)

abbrev rmX2_clearColumn : Room := ({ frames := 2, cells := 0, slots := 0, locals := 53 } : Room)
set_option maxHeartbeats 4000000 in
set_option maxRecDepth 100000 in
theorem c_X2_clearColumn (ll : Launch) (D : va_G) (a : Nat → Nat) (cI cJ : ClassId) (sz : Nat) (p : Nat → Int32) (nu de eq : Nat → Int64) (am nx oA oD oE oP cR aR hR cl ad gw pr : Nat → Int32) (n : Int32) (c : Nat) (pv dv : Int64) (hc : c < 6) : Met ll yX2_clearColumn wsX2_clearColumn rmX2_clearColumn (va_Pc [.ref (a 1), .int (nI (c)), .long (pv), .long (dv)] (PW D (tyG cI cJ) (GW a cI cJ p nu de eq am nx oA oD oE oP cR aR hR cl ad gw pr n) sz)) (va_Qv (fun (u : Unit) => True) (fun (u : Unit) t => AW D (tyG cI cJ) (va_A (GW a cI cJ p nu de eq am nx oA oD oE oP cR aR hR cl ad gw pr n) sz) (GW a cI cJ p nu de (ccK eq c pv dv 5) am nx oA oD oE oP cR aR hR cl ad gw pr n) t) (va_A (GW a cI cJ p nu de eq am nx oA oD oE oP cR aR hR cl ad gw pr n) sz)) 0 0 (va_A (GW a cI cJ p nu de eq am nx oA oD oE oP cR aR hR cl ad gw pr n) sz) := by
  refine Met.ofW (cc := cX2_clearColumn) (maxL := 7) (ret := none) (by decide) rfl ?_
  intro pp ee ss mm ar bel mth cd s₁ B hml hv
  obtain ⟨rfl, hsz, hP, hK, hD0, hE⟩ := hv
  have hx := B.exec
  have hb := B.bytes
  have hr := B.returns
  have hts := atoms_spec (ws := wsX2_clearColumn) B.pre
  have hown : ss.vm.findClass RX2 = some mm.cls := findClass_of_methodNamed B.named
  have hlocks := B.notSynchronized
  subst hsz
  have hD := hD0.self (sz := ss.heap.size)
  generalize hAe : va_A (GW a cI cJ p nu de eq am nx oA oD oE oP cR aR hR cl ad gw pr n) ss.heap.size = A at hD ⊢
  have hA : ∀ q : Nat, ss.heap.size ≤ q → A q := fun q h => by rw [← hAe]; exact Or.inr h
  have hS : va_S A ss.heap ss.heap [] := va_S.rf
  have hin : ∀ w ∈ wsX20, w.before ([.ref (a 1), .int (nI (c)), .long (pv), .long (dv)] : List Value).toArray ss = true := fun w h => hts w ((by decide +kernel : ∀ w ∈ wsX20, w ∈ wsX2_clearColumn) w h)
  have hl := lv_entry [.ref (a 1), .int (nI (c)), .long (pv), .long (dv)] (n := 7) (Nat.le_of_ble_eq_true rfl)
  rw [lg_entry_eq]
  generalize (lg_sl [.ref (a 1), .int (nI (c)), .long (pv), .long (dv)] ++ List.replicate (7 - (lg_sl [.ref (a 1), .int (nI (c)), .long (pv), .long (dv)]).length) Slot.unset).toArray = ls at hl ⊢
  have hl : lv_has ls 7 [(0, .ref (a 1)), (1, .int (nI (c))), (2, .long (pv)), (4, .long (dv))] := hl
  generalize hZ : MQ bel _ _ ss _ _ _ = Z
  refine lv_iconst (v := 1) hx hb dX2_clearColumn_0 (by decide) ?_
  refine lv_istore (lv' := [(6, .int (1)), (0, .ref (a 1)), (1, .int (nI (c))), (2, .long (pv)), (4, .long (dv))]) hx hb dX2_clearColumn_1 hl (by decide) rfl (fun ls hl => ?_)
  have L1 : ∀ (n1 k1 : Nat), k1 + n1 = 5 → ∀ (H : Heap) (locs : List Loc) (ls : Array Slot), va_P D vwCl (GW a cI cJ p nu de (ccK eq c pv dv (k1)) am nx oA oD oE oP cR aR hR cl ad gw pr n) H → va_D A (GW a cI cJ p nu de (ccK eq c pv dv (k1)) am nx oA oD oE oP cR aR hR cl ad gw pr n) → va_S A ss.heap H locs → lv_has ls 7 [(6, .int (nI (k1 + 1))), (0, .ref (a 1)), (1, .int (nI (c))), (2, .long (pv)), (4, .long (dv))] → W pp ll ee rmX2_clearColumn ss mm (([.ref (a 1), .int (nI (c)), .long (pv), .long (dv)] : List Value).toArray) bel mth cd H locs 0 0 Z (F0 mm 3 ls []) := by
    intro n1
    induction n1 with
    | zero =>
      intro k1 hk1  H locs ls hP hD hS hl
      have hk1b : 5 = k1 := by omega
      subst hk1b
      refine lv_iload hx hb dX2_clearColumn_3 (lv_at hl 0 rfl) ?_
      refine lv_bipush (v := 6) hx hb dX2_clearColumn_5 (by decide) ?_
      refine lv_icmp_ge (tgt := 32) hx hb dX2_clearColumn_7 (by decide) (fun c_2 => ?_) (fun c_2 => ?_)
      · have n_2 : (6) ≤ (5 + 1) := (nI_leI (a := 6) (b := 5 + 1) (by omega) (by omega)).mp c_2
        have e_3 : ccK eq c pv dv 5 = ccK eq c pv dv (5) := by first | rfl | exact if_pos (by assumption) | exact if_neg (by assumption) | (simp only [n_2, Bool.false_eq_true, ↓reduceIte])
        subst hZ; exact W.vret hx hb hr (fun t ht hW => ⟨⟨(), rfl, trivial, (by rw [ht]; exact (by rw [e_3]; exact hP)), va_K.moved hW.alike hK, (by rw [e_3]; exact hD)⟩, hS.F ht⟩) hS.2.2 dX2_clearColumn_32
      · have n_2 : ¬ ((6) ≤ (5 + 1)) := fun h => c_2 ((nI_leI (a := 6) (b := 5 + 1) (by omega) (by omega)).mpr h)
        exfalso; omega
    | succ n1 ih1 =>
      intro k1 hk1  H locs ls hP hD hS hl
      have hk1b : k1 < 5 := by omega
      refine lv_iload hx hb dX2_clearColumn_3 (lv_at hl 0 rfl) ?_
      refine lv_bipush (v := 6) hx hb dX2_clearColumn_5 (by decide) ?_
      refine lv_icmp_ge (tgt := 32) hx hb dX2_clearColumn_7 (by decide) (fun c_4 => ?_) (fun c_4 => ?_)
      · have n_4 : (6) ≤ (k1 + 1) := (nI_leI (a := 6) (b := k1 + 1) (by omega) (by omega)).mp c_4
        exfalso; omega
      · have n_4 : ¬ ((6) ≤ (k1 + 1)) := fun h => c_4 ((nI_leI (a := 6) (b := k1 + 1) (by omega) (by omega)).mpr h)
        refine lv_iload hx hb dX2_clearColumn_10 (lv_at hl 0 rfl) ?_
        refine lv_iload_n hx hb dX2_clearColumn_12 rfl (lv_at hl 2 rfl) ?_
        refine lv_icmp_eq (tgt := 26) hx hb dX2_clearColumn_13 (by decide) (fun c_5 => ?_) (fun c_5 => ?_)
        · have n_5 : (k1 + 1) = (c) := (nI_eq (a := k1 + 1) (b := c) (by omega) (by omega)).mp c_5
          refine lv_iinc (v := nI (k1 + 1 + 1)) (lv' := [(6, .int (nI (k1 + 1 + 1))), (0, .ref (a 1)), (1, .int (nI (c))), (2, .long (pv)), (4, .long (dv))]) hx hb dX2_clearColumn_26 hl (k := 0) rfl (nI_1 (k1 + 1)) (by decide) rfl (fun ls hl => ?_)
          refine lv_goto (tgt := 3) hx hb dX2_clearColumn_29 (by decide) ?_
          have e_6 : ccK eq c pv dv (k1 + 1) = ccK eq c pv dv (k1) := by first | rfl | exact if_pos (by assumption) | exact if_neg (by assumption) | (simp only [n_4, n_5, Bool.false_eq_true, ↓reduceIte])
          exact ih1 (k1 + 1) (by omega) _ _ ls (by rw [e_6]; exact hP) (by rw [e_6]; exact hD) hS (lv_sub hl [0, 1, 2, 3, 4] rfl)
        · have n_5 : ¬ ((k1 + 1) = (c)) := fun h => c_5 ((nI_eq (a := k1 + 1) (b := c) (by omega) (by omega)).mpr h)
          refine lv_aload_n hx hb dX2_clearColumn_16 rfl (lv_at hl 1 rfl) ?_
          refine lv_iload hx hb dX2_clearColumn_17 (lv_at hl 0 rfl) ?_
          refine lv_iload_n hx hb dX2_clearColumn_19 rfl (lv_at hl 2 rfl) ?_
          refine lv_lload_n hx hb dX2_clearColumn_20 rfl (lv_at hl 3 rfl) ?_
          refine lv_lload hx hb dX2_clearColumn_21 (lv_at hl 4 rfl) ?_
          refine b_callv0 (S := Unit) (w' := fun u => GW a cI cJ p nu de (ce (ccK eq c pv dv (k1)) (k1 + 1) c pv dv) am nx oA oD oE oP cR aR hR cl ad gw pr n) hP hD hS hA (va_runV (As := [.int (nI (k1 + 1)), .int (nI (c)), .long (pv), .long (dv)]) (rest := []) ⟨hx, hb, hml, hown, hts⟩ (c_X2_clearEntry ll D a cI cJ H.size p nu de (ccK eq c pv dv (k1)) am nx oA oD oE oP cR aR hR cl ad gw pr n (k1 + 1) c pv dv (by omega) (by omega)) (cwV 4 hts gX2_clearColumn_X2_clearEntry rfl rfl rfl (by decide +kernel) ⟨Nat.le_of_ble_eq_true rfl, Nat.le_of_ble_eq_true rfl⟩) ⟨PW.blind, va_recv hK hP (ci := 2) (q0 := 1) rfl rfl, PW.go hP hK hD hE⟩ rfl rfl hl.1 rfl (lv_room (Nat.le_of_ble_eq_true rfl)) dX2_clearColumn_23 ⟨Nat.le_of_ble_eq_true rfl, Nat.le_of_ble_eq_true rfl⟩) (fun u H locs h_7 hP hD hS => ?_)
          refine lv_iinc (v := nI (k1 + 1 + 1)) (lv' := [(6, .int (nI (k1 + 1 + 1))), (0, .ref (a 1)), (1, .int (nI (c))), (2, .long (pv)), (4, .long (dv))]) hx hb dX2_clearColumn_26 hl (k := 0) rfl (nI_1 (k1 + 1)) (by decide) rfl (fun ls hl => ?_)
          refine lv_goto (tgt := 3) hx hb dX2_clearColumn_29 (by decide) ?_
          have e_8 : ccK eq c pv dv (k1 + 1) = ce (ccK eq c pv dv (k1)) (k1 + 1) c pv dv := by first | rfl | exact if_pos (by assumption) | exact if_neg (by assumption) | (simp only [n_4, n_5, Bool.false_eq_true, ↓reduceIte])
          exact ih1 (k1 + 1) (by omega) _ _ ls (by rw [e_8]; exact hP) (by rw [e_8]; exact hD) hS (lv_sub hl [0, 1, 2, 3, 4] rfl)
  exact L1 (5) 0 (by omega) _ _ ls hP hD hS (lv_sub hl [0, 1, 2, 3, 4] rfl)

abbrev rmX2_writeEquations : Room := ({ frames := 1, cells := 0, slots := 0, locals := 21 } : Room)
set_option maxHeartbeats 4000000 in
set_option maxRecDepth 100000 in
theorem c_X2_writeEquations (ll : Launch) (D : va_G) (a : Nat → Nat) (cI cJ : ClassId) (sz : Nat) (p : Nat → Int32) (nu de eq : Nat → Int64) (am nx oA oD oE oP cR aR hR cl ad gw pr : Nat → Int32) (n : Int32)   : Met ll yX2_writeEquations wsX2_writeEquations rmX2_writeEquations (va_Pc [.ref (a 1)] (PW D (tyG cI cJ) (GW a cI cJ p nu de eq am nx oA oD oE oP cR aR hR cl ad gw pr n) sz)) (va_Qv (fun (u : Unit) => True) (fun (u : Unit) t => AW D (tyG cI cJ) (va_A (GW a cI cJ p nu de eq am nx oA oD oE oP cR aR hR cl ad gw pr n) sz) (GW a cI cJ p nu de (weO p eq 5) am nx oA oD oE oP cR aR hR cl ad gw pr n) t) (va_A (GW a cI cJ p nu de eq am nx oA oD oE oP cR aR hR cl ad gw pr n) sz)) 0 0 (va_A (GW a cI cJ p nu de eq am nx oA oD oE oP cR aR hR cl ad gw pr n) sz) := by
  refine Met.ofW (cc := cX2_writeEquations) (maxL := 3) (ret := none) (by decide) rfl ?_
  intro pp ee ss mm ar bel mth cd s₁ B hml hv
  obtain ⟨rfl, hsz, hP, hK, hD0, hE⟩ := hv
  have hx := B.exec
  have hb := B.bytes
  have hr := B.returns
  have hts := atoms_spec (ws := wsX2_writeEquations) B.pre
  have hown : ss.vm.findClass RX2 = some mm.cls := findClass_of_methodNamed B.named
  have hlocks := B.notSynchronized
  subst hsz
  have hD := hD0.self (sz := ss.heap.size)
  generalize hAe : va_A (GW a cI cJ p nu de eq am nx oA oD oE oP cR aR hR cl ad gw pr n) ss.heap.size = A at hD ⊢
  have hA : ∀ q : Nat, ss.heap.size ≤ q → A q := fun q h => by rw [← hAe]; exact Or.inr h
  have hS : va_S A ss.heap ss.heap [] := va_S.rf
  have hin : ∀ w ∈ wsX20, w.before ([.ref (a 1)] : List Value).toArray ss = true := fun w h => hts w ((by decide +kernel : ∀ w ∈ wsX20, w ∈ wsX2_writeEquations) w h)
  have hl := lv_entry [.ref (a 1)] (n := 3) (Nat.le_of_ble_eq_true rfl)
  rw [lg_entry_eq]
  generalize (lg_sl [.ref (a 1)] ++ List.replicate (3 - (lg_sl [.ref (a 1)]).length) Slot.unset).toArray = ls at hl ⊢
  have hl : lv_has ls 3 [(0, .ref (a 1))] := hl
  generalize hZ : MQ bel _ _ ss _ _ _ = Z
  refine lv_iconst (v := 1) hx hb dX2_writeEquations_0 (by decide) ?_
  refine lv_istore_n (lv' := [(1, .int (1)), (0, .ref (a 1))]) hx hb dX2_writeEquations_1 rfl hl (by decide) rfl (fun ls hl => ?_)
  have L1 : ∀ (n1 i1 : Nat), i1 + n1 = 5 → ∀ (H : Heap) (locs : List Loc) (ls : Array Slot), va_P D vwCl (GW a cI cJ p nu de (weO p eq (i1)) am nx oA oD oE oP cR aR hR cl ad gw pr n) H → va_D A (GW a cI cJ p nu de (weO p eq (i1)) am nx oA oD oE oP cR aR hR cl ad gw pr n) → va_S A ss.heap H locs → lv_has ls 3 [(1, .int (nI (i1 + 1))), (0, .ref (a 1))] → W pp ll ee rmX2_writeEquations ss mm (([.ref (a 1)] : List Value).toArray) bel mth cd H locs 0 0 Z (F0 mm 2 ls []) := by
    intro n1
    induction n1 with
    | zero =>
      intro i1 hk1  H locs ls hP hD hS hl
      have hk1b : 5 = i1 := by omega
      subst hk1b
      refine lv_iload_n hx hb dX2_writeEquations_2 rfl (lv_at hl 0 rfl) ?_
      refine lv_bipush (v := 6) hx hb dX2_writeEquations_3 (by decide) ?_
      refine lv_icmp_ge (tgt := 82) hx hb dX2_writeEquations_5 (by decide) (fun c_2 => ?_) (fun c_2 => ?_)
      · have n_2 : (6) ≤ (5 + 1) := (nI_leI (a := 6) (b := 5 + 1) (by omega) (by omega)).mp c_2
        have e_3 : weO p eq 5 = weO p eq (5) := by first | rfl | exact if_pos (by assumption) | exact if_neg (by assumption) | (simp only [n_2, Bool.false_eq_true, ↓reduceIte])
        subst hZ; exact W.vret hx hb hr (fun t ht hW => ⟨⟨(), rfl, trivial, (by rw [ht]; exact (by rw [e_3]; exact hP)), va_K.moved hW.alike hK, (by rw [e_3]; exact hD)⟩, hS.F ht⟩) hS.2.2 dX2_writeEquations_82
      · have n_2 : ¬ ((6) ≤ (5 + 1)) := fun h => c_2 ((nI_leI (a := 6) (b := 5 + 1) (by omega) (by omega)).mpr h)
        exfalso; omega
    | succ n1 ih1 =>
      intro i1 hk1  H locs ls hP hD hS hl
      have hk1b : i1 < 5 := by omega
      refine lv_iload_n hx hb dX2_writeEquations_2 rfl (lv_at hl 0 rfl) ?_
      refine lv_bipush (v := 6) hx hb dX2_writeEquations_3 (by decide) ?_
      refine lv_icmp_ge (tgt := 82) hx hb dX2_writeEquations_5 (by decide) (fun c_4 => ?_) (fun c_4 => ?_)
      · have n_4 : (6) ≤ (i1 + 1) := (nI_leI (a := 6) (b := i1 + 1) (by omega) (by omega)).mp c_4
        exfalso; omega
      · have n_4 : ¬ ((6) ≤ (i1 + 1)) := fun h => c_4 ((nI_leI (a := 6) (b := i1 + 1) (by omega) (by omega)).mpr h)
        refine lv_aload_n hx hb dX2_writeEquations_8 rfl (lv_at hl 1 rfl) ?_
        refine va_get (D := D) (ci := 2) (v := .ref (a 9)) (C := RX2) (T := TX2) (N := 6) (Ts := wsX20) hx hb hin (fun _ h9 => h9) hown hK hP 1 rfl rfl 3 (by decide) (hts (.fieldLink RX2 22 "Groupbooks$Holdings" "equations" "[J") (by decide +kernel)) (fun _ h9 => h9) rfl dX2_writeEquations_9 ?_
        refine lv_iload_n hx hb dX2_writeEquations_12 rfl (lv_at hl 0 rfl) ?_
        refine lv_iconst (v := 0) hx hb dX2_writeEquations_13 (by decide) ?_
        refine b_csi (v := nI (6 * (i1 + 1) + 0)) ((va_runSN (As := [.int (nI (i1 + 1)), .int (0)]) (rest := [.ref (a 9)]) ⟨hx, hb, hml, hown, hts⟩ (c_X3_pair ll (i1 + 1) 0 ) ⟨va_cnB 2 hts gX2_writeEquations_X3_pair_n31 rfl rfl rfl (hE.nest 5 rfl) (hts (.initialized RX3) (by decide +kernel)) (by decide +kernel) ⟨Nat.le_of_ble_eq_true rfl, Nat.le_of_ble_eq_true rfl⟩, hts (.static yX3_pair) (by decide +kernel), trivial⟩ ⟨PT.blind, PT.to⟩ rfl rfl hl.1 rfl (lv_room (Nat.le_of_ble_eq_true rfl)) dX2_writeEquations_14 ⟨Nat.le_of_ble_eq_true rfl, Nat.le_of_ble_eq_true rfl⟩).run) ?_
        refine lv_aload_n hx hb dX2_writeEquations_17 rfl (lv_at hl 1 rfl) ?_
        refine va_get (D := D) (ci := 2) (v := .ref (a 6)) (C := RX2) (T := TX2) (N := 6) (Ts := wsX20) hx hb hin (fun _ h9 => h9) hown hK hP 1 rfl rfl 0 (by decide) (hts (.fieldLink RX2 9 "Groupbooks$Holdings" "percents" "[I") (by decide +kernel)) (fun _ h9 => h9) rfl dX2_writeEquations_18 ?_
        refine lv_iconst (v := 0) hx hb dX2_writeEquations_21 (by decide) ?_
        refine lv_iload_n hx hb dX2_writeEquations_22 rfl (lv_at hl 0 rfl) ?_
        refine b_csi (v := nI (6 * 0 + (i1 + 1))) ((va_runSN (As := [.int (0), .int (nI (i1 + 1))]) (rest := [.ref (a 6), .int (nI (6 * (i1 + 1) + 0)), .ref (a 9)]) ⟨hx, hb, hml, hown, hts⟩ (c_X3_pair ll 0 (i1 + 1) ) ⟨va_cnB 2 hts gX2_writeEquations_X3_pair_n31 rfl rfl rfl (hE.nest 5 rfl) (hts (.initialized RX3) (by decide +kernel)) (by decide +kernel) ⟨Nat.le_of_ble_eq_true rfl, Nat.le_of_ble_eq_true rfl⟩, hts (.static yX3_pair) (by decide +kernel), trivial⟩ ⟨PT.blind, PT.to⟩ rfl rfl hl.1 rfl (lv_room (Nat.le_of_ble_eq_true rfl)) dX2_writeEquations_23 ⟨Nat.le_of_ble_eq_true rfl, Nat.le_of_ble_eq_true rfl⟩).run) ?_
        refine b_iald hx hb hK hP 6 0 (f := p) rfl rfl (j := 6 * 0 + (i1 + 1)) (by omega) (by decide) dX2_writeEquations_26 ?_
        refine lv_i2l (v := (p (6 * 0 + (i1 + 1))).toInt64) hx hb dX2_writeEquations_27 rfl ?_
        refine b_last (w' := GW a cI cJ p nu de (vp_updL (weO p eq (i1)) (6 * (i1 + 1) + 0) ((p (6 * 0 + (i1 + 1))).toInt64)) am nx oA oD oE oP cR aR hR cl ad gw pr n) hx hb hK hP hD hS 9 1 (f := (weO p eq (i1))) rfl rfl (j := 6 * (i1 + 1) + 0) (by omega) (by decide) rfl dX2_writeEquations_28 (fun H locs hP hD hS => ?_)
        refine lv_iconst (v := 1) hx hb dX2_writeEquations_29 (by decide) ?_
        refine lv_istore_n (lv' := [(2, .int (1)), (1, .int (nI (i1 + 1))), (0, .ref (a 1))]) hx hb dX2_writeEquations_30 rfl hl (by decide) rfl (fun ls hl => ?_)
        have L5 : ∀ (n5 j5 : Nat), j5 + n5 = 5 → ∀ (H : Heap) (locs : List Loc) (ls : Array Slot), va_P D vwCl (GW a cI cJ p nu de (weI p (i1 + 1) (vp_updL (weO p eq i1) (6 * (i1 + 1) + 0) (p (6 * 0 + (i1 + 1))).toInt64) (j5)) am nx oA oD oE oP cR aR hR cl ad gw pr n) H → va_D A (GW a cI cJ p nu de (weI p (i1 + 1) (vp_updL (weO p eq i1) (6 * (i1 + 1) + 0) (p (6 * 0 + (i1 + 1))).toInt64) (j5)) am nx oA oD oE oP cR aR hR cl ad gw pr n) → va_S A ss.heap H locs → lv_has ls 3 [(2, .int (nI (j5 + 1))), (1, .int (nI (i1 + 1))), (0, .ref (a 1))] → W pp ll ee rmX2_writeEquations ss mm (([.ref (a 1)] : List Value).toArray) bel mth cd H locs 0 0 Z (F0 mm 31 ls []) := by
          intro n5
          induction n5 with
          | zero =>
            intro j5 hk5  H locs ls hP hD hS hl
            have hk5b : 5 = j5 := by omega
            subst hk5b
            refine lv_iload_n hx hb dX2_writeEquations_31 rfl (lv_at hl 0 rfl) ?_
            refine lv_bipush (v := 6) hx hb dX2_writeEquations_32 (by decide) ?_
            refine lv_icmp_ge (tgt := 76) hx hb dX2_writeEquations_34 (by decide) (fun c_6 => ?_) (fun c_6 => ?_)
            · have n_6 : (6) ≤ (5 + 1) := (nI_leI (a := 6) (b := 5 + 1) (by omega) (by omega)).mp c_6
              refine lv_iinc (v := nI (i1 + 1 + 1)) (lv' := [(1, .int (nI (i1 + 1 + 1))), (2, .int (nI (5 + 1))), (0, .ref (a 1))]) hx hb dX2_writeEquations_76 hl (k := 1) rfl (nI_1 (i1 + 1)) (by decide) rfl (fun ls hl => ?_)
              refine lv_goto (tgt := 2) hx hb dX2_writeEquations_79 (by decide) ?_
              have e_7 : weO p eq (i1 + 1) = weI p (i1 + 1) (vp_updL (weO p eq i1) (6 * (i1 + 1) + 0) (p (6 * 0 + (i1 + 1))).toInt64) (5) := by first | rfl | exact if_pos (by assumption) | exact if_neg (by assumption) | (simp only [n_4, n_6, Bool.false_eq_true, ↓reduceIte])
              exact ih1 (i1 + 1) (by omega) _ _ ls (by rw [e_7]; exact hP) (by rw [e_7]; exact hD) hS (lv_sub hl [0, 2] rfl)
            · have n_6 : ¬ ((6) ≤ (5 + 1)) := fun h => c_6 ((nI_leI (a := 6) (b := 5 + 1) (by omega) (by omega)).mpr h)
              exfalso; omega
          | succ n5 ih5 =>
            intro j5 hk5  H locs ls hP hD hS hl
            have hk5b : j5 < 5 := by omega
            refine lv_iload_n hx hb dX2_writeEquations_31 rfl (lv_at hl 0 rfl) ?_
            refine lv_bipush (v := 6) hx hb dX2_writeEquations_32 (by decide) ?_
            refine lv_icmp_ge (tgt := 76) hx hb dX2_writeEquations_34 (by decide) (fun c_8 => ?_) (fun c_8 => ?_)
            · have n_8 : (6) ≤ (j5 + 1) := (nI_leI (a := 6) (b := j5 + 1) (by omega) (by omega)).mp c_8
              exfalso; omega
            · have n_8 : ¬ ((6) ≤ (j5 + 1)) := fun h => c_8 ((nI_leI (a := 6) (b := j5 + 1) (by omega) (by omega)).mpr h)
              refine lv_aload_n hx hb dX2_writeEquations_37 rfl (lv_at hl 2 rfl) ?_
              refine va_get (D := D) (ci := 2) (v := .ref (a 9)) (C := RX2) (T := TX2) (N := 6) (Ts := wsX20) hx hb hin (fun _ h9 => h9) hown hK hP 1 rfl rfl 3 (by decide) (hts (.fieldLink RX2 22 "Groupbooks$Holdings" "equations" "[J") (by decide +kernel)) (fun _ h9 => h9) rfl dX2_writeEquations_38 ?_
              refine lv_iload_n hx hb dX2_writeEquations_41 rfl (lv_at hl 1 rfl) ?_
              refine lv_iload_n hx hb dX2_writeEquations_42 rfl (lv_at hl 0 rfl) ?_
              refine b_csi (v := nI (6 * (i1 + 1) + (j5 + 1))) ((va_runSN (As := [.int (nI (i1 + 1)), .int (nI (j5 + 1))]) (rest := [.ref (a 9)]) ⟨hx, hb, hml, hown, hts⟩ (c_X3_pair ll (i1 + 1) (j5 + 1) ) ⟨va_cnB 2 hts gX2_writeEquations_X3_pair_n31 rfl rfl rfl (hE.nest 5 rfl) (hts (.initialized RX3) (by decide +kernel)) (by decide +kernel) ⟨Nat.le_of_ble_eq_true rfl, Nat.le_of_ble_eq_true rfl⟩, hts (.static yX3_pair) (by decide +kernel), trivial⟩ ⟨PT.blind, PT.to⟩ rfl rfl hl.1 rfl (lv_room (Nat.le_of_ble_eq_true rfl)) dX2_writeEquations_43 ⟨Nat.le_of_ble_eq_true rfl, Nat.le_of_ble_eq_true rfl⟩).run) ?_
              refine lv_iload_n hx hb dX2_writeEquations_46 rfl (lv_at hl 0 rfl) ?_
              refine lv_iload_n hx hb dX2_writeEquations_47 rfl (lv_at hl 1 rfl) ?_
              refine lv_icmp_ne (tgt := 57) hx hb dX2_writeEquations_48 (by decide) (fun c_9 => ?_) (fun c_9 => ?_)
              · have n_9 : ¬ ((j5 + 1) = (i1 + 1)) := fun h => c_9 ((nI_eq (a := j5 + 1) (b := i1 + 1) (by omega) (by omega)).mpr h)
                refine lv_aload_n hx hb dX2_writeEquations_57 rfl (lv_at hl 2 rfl) ?_
                refine va_get (D := D) (ci := 2) (v := .ref (a 6)) (C := RX2) (T := TX2) (N := 6) (Ts := wsX20) hx hb hin (fun _ h9 => h9) hown hK hP 1 rfl rfl 0 (by decide) (hts (.fieldLink RX2 9 "Groupbooks$Holdings" "percents" "[I") (by decide +kernel)) (fun _ h9 => h9) rfl dX2_writeEquations_58 ?_
                refine lv_iload_n hx hb dX2_writeEquations_61 rfl (lv_at hl 0 rfl) ?_
                refine lv_iload_n hx hb dX2_writeEquations_62 rfl (lv_at hl 1 rfl) ?_
                refine b_csi (v := nI (6 * (j5 + 1) + (i1 + 1))) ((va_runSN (As := [.int (nI (j5 + 1)), .int (nI (i1 + 1))]) (rest := [.ref (a 6), .int (nI (6 * (i1 + 1) + (j5 + 1))), .ref (a 9)]) ⟨hx, hb, hml, hown, hts⟩ (c_X3_pair ll (j5 + 1) (i1 + 1) ) ⟨va_cnB 2 hts gX2_writeEquations_X3_pair_n31 rfl rfl rfl (hE.nest 5 rfl) (hts (.initialized RX3) (by decide +kernel)) (by decide +kernel) ⟨Nat.le_of_ble_eq_true rfl, Nat.le_of_ble_eq_true rfl⟩, hts (.static yX3_pair) (by decide +kernel), trivial⟩ ⟨PT.blind, PT.to⟩ rfl rfl hl.1 rfl (lv_room (Nat.le_of_ble_eq_true rfl)) dX2_writeEquations_63 ⟨Nat.le_of_ble_eq_true rfl, Nat.le_of_ble_eq_true rfl⟩).run) ?_
                refine b_iald hx hb hK hP 6 0 (f := p) rfl rfl (j := 6 * (j5 + 1) + (i1 + 1)) (by omega) (by decide) dX2_writeEquations_66 ?_
                refine lv_ineg hx hb dX2_writeEquations_67 ?_
                refine lv_i2l (v := (-(p (6 * (j5 + 1) + (i1 + 1)))).toInt64) hx hb dX2_writeEquations_68 rfl ?_
                refine b_last (w' := GW a cI cJ p nu de (vp_updL (weI p (i1 + 1) (vp_updL (weO p eq i1) (6 * (i1 + 1) + 0) (p (6 * 0 + (i1 + 1))).toInt64) (j5)) (6 * (i1 + 1) + (j5 + 1)) ((-(p (6 * (j5 + 1) + (i1 + 1)))).toInt64)) am nx oA oD oE oP cR aR hR cl ad gw pr n) hx hb hK hP hD hS 9 1 (f := (weI p (i1 + 1) (vp_updL (weO p eq i1) (6 * (i1 + 1) + 0) (p (6 * 0 + (i1 + 1))).toInt64) (j5))) rfl rfl (j := 6 * (i1 + 1) + (j5 + 1)) (by omega) (by decide) rfl dX2_writeEquations_69 (fun H locs hP hD hS => ?_)
                refine lv_iinc (v := nI (j5 + 1 + 1)) (lv' := [(2, .int (nI (j5 + 1 + 1))), (1, .int (nI (i1 + 1))), (0, .ref (a 1))]) hx hb dX2_writeEquations_70 hl (k := 0) rfl (nI_1 (j5 + 1)) (by decide) rfl (fun ls hl => ?_)
                refine lv_goto (tgt := 31) hx hb dX2_writeEquations_73 (by decide) ?_
                have e_10 : weI p (i1 + 1) (vp_updL (weO p eq i1) (6 * (i1 + 1) + 0) (p (6 * 0 + (i1 + 1))).toInt64) (j5 + 1) = vp_updL (weI p (i1 + 1) (vp_updL (weO p eq i1) (6 * (i1 + 1) + 0) (p (6 * 0 + (i1 + 1))).toInt64) (j5)) (6 * (i1 + 1) + (j5 + 1)) ((-(p (6 * (j5 + 1) + (i1 + 1)))).toInt64) := by first | rfl | exact if_pos (by assumption) | exact if_neg (by assumption) | (simp only [weI, n_4, n_8, n_9, Bool.false_eq_true, ↓reduceIte])
                exact ih5 (j5 + 1) (by omega) _ _ ls (by rw [e_10]; exact hP) (by rw [e_10]; exact hD) hS (lv_sub hl [0, 1, 2] rfl)
              · have n_9 : (j5 + 1) = (i1 + 1) := (nI_eq (a := j5 + 1) (b := i1 + 1) (by omega) (by omega)).mp c_9
                refine lv_ldc2 (v := 100) hx hb hown (hts (.constantLong RX2 64 (100)) (by decide +kernel)) dX2_writeEquations_51 ?_
                refine lv_goto (tgt := 69) hx hb dX2_writeEquations_54 (by decide) ?_
                refine b_last (w' := GW a cI cJ p nu de (vp_updL (weI p (i1 + 1) (vp_updL (weO p eq i1) (6 * (i1 + 1) + 0) (p (6 * 0 + (i1 + 1))).toInt64) (j5)) (6 * (i1 + 1) + (j5 + 1)) ((100))) am nx oA oD oE oP cR aR hR cl ad gw pr n) hx hb hK hP hD hS 9 1 (f := (weI p (i1 + 1) (vp_updL (weO p eq i1) (6 * (i1 + 1) + 0) (p (6 * 0 + (i1 + 1))).toInt64) (j5))) rfl rfl (j := 6 * (i1 + 1) + (j5 + 1)) (by omega) (by decide) rfl dX2_writeEquations_69 (fun H locs hP hD hS => ?_)
                refine lv_iinc (v := nI (j5 + 1 + 1)) (lv' := [(2, .int (nI (j5 + 1 + 1))), (1, .int (nI (i1 + 1))), (0, .ref (a 1))]) hx hb dX2_writeEquations_70 hl (k := 0) rfl (nI_1 (j5 + 1)) (by decide) rfl (fun ls hl => ?_)
                refine lv_goto (tgt := 31) hx hb dX2_writeEquations_73 (by decide) ?_
                have e_11 : weI p (i1 + 1) (vp_updL (weO p eq i1) (6 * (i1 + 1) + 0) (p (6 * 0 + (i1 + 1))).toInt64) (j5 + 1) = vp_updL (weI p (i1 + 1) (vp_updL (weO p eq i1) (6 * (i1 + 1) + 0) (p (6 * 0 + (i1 + 1))).toInt64) (j5)) (6 * (i1 + 1) + (j5 + 1)) ((100)) := by first | rfl | exact if_pos (by assumption) | exact if_neg (by assumption) | (simp only [weI, n_4, n_8, n_9, Bool.false_eq_true, ↓reduceIte])
                exact ih5 (j5 + 1) (by omega) _ _ ls (by rw [e_11]; exact hP) (by rw [e_11]; exact hD) hS (lv_sub hl [0, 1, 2] rfl)
        exact L5 (5) 0 (by omega) _ _ ls hP hD hS (lv_sub hl [0, 1, 2] rfl)
  exact L1 (5) 0 (by omega) _ _ ls hP hD hS (lv_sub hl [0, 1] rfl)

abbrev rmX2_commonDivisor : Room := ({ frames := 0, cells := 0, slots := 0, locals := 0 } : Room)
set_option maxHeartbeats 4000000 in
set_option maxRecDepth 100000 in
theorem c_X2_commonDivisor (ll : Launch) (x y : Int64)  : Met ll yX2_commonDivisor wsX2_commonDivisor rmX2_commonDivisor (va_Pc [.long (x), .long (y)] (fun _ => True)) (vp_Sl (fun rr => rr = cdF 100 x y)) 0 0 (fun _ => False) := by
  refine Met.ofW (cc := cX2_commonDivisor) (maxL := 11) (ret := (some .long)) (by decide) rfl ?_
  intro pp ee ss mm ar bel mth cd s₁ B hml hv
  obtain ⟨rfl, -⟩ := hv
  have hx := B.exec
  have hb := B.bytes
  have hr := B.returns
  have hts := atoms_spec (ws := wsX2_commonDivisor) B.pre
  have hown : ss.vm.findClass RX2 = some mm.cls := findClass_of_methodNamed B.named
  have hlocks := B.notSynchronized
  have hl := lv_entry [.long (x), .long (y)] (n := 11) (Nat.le_of_ble_eq_true rfl)
  rw [lg_entry_eq]
  generalize (lg_sl [.long (x), .long (y)] ++ List.replicate (11 - (lg_sl [.long (x), .long (y)]).length) Slot.unset).toArray = ls at hl ⊢
  have hl : lv_has ls 11 [(0, .long (x)), (2, .long (y))] := hl
  generalize hZ : MQ bel _ _ ss _ _ _ = Z
  refine lv_lload_n hx hb dX2_commonDivisor_0 rfl (lv_at hl 0 rfl) ?_
  refine lv_lstore (lv' := [(4, .long (x)), (0, .long (x)), (2, .long (y))]) hx hb dX2_commonDivisor_1 hl (by decide) rfl (fun ls hl => ?_)
  refine lv_lload_n hx hb dX2_commonDivisor_3 rfl (lv_at hl 2 rfl) ?_
  refine lv_lstore (lv' := [(6, .long (y)), (4, .long (x)), (0, .long (x)), (2, .long (y))]) hx hb dX2_commonDivisor_4 hl (by decide) rfl (fun ls hl => ?_)
  refine lv_iconst (v := 0) hx hb dX2_commonDivisor_6 (by decide) ?_
  refine lv_istore (lv' := [(8, .int (0)), (6, .long (y)), (4, .long (x)), (0, .long (x)), (2, .long (y))]) hx hb dX2_commonDivisor_7 hl (by decide) rfl (fun ls hl => ?_)
  have L1 : ∀ (n1 k1 : Nat) (x1 : Int64) (y1 : Int64), k1 + n1 = 100 → cdF n1 x1 y1 = cdF 100 x y → ∀ (ls : Array Slot), lv_has ls 11 [(8, .int (nI (k1))), (6, .long (y1)), (4, .long (x1)), (0, .long (x)), (2, .long (y))] → W pp ll ee rmX2_commonDivisor ss mm (([.long (x), .long (y)] : List Value).toArray) bel mth cd ss.heap [] 0 0 Z (F0 mm 9 ls []) := by
    intro n1
    induction n1 with
    | zero =>
      intro k1 x1 y1 hk1 hy1_0 ls hl
      have hk1b : 100 = k1 := by omega
      refine lv_iload hx hb dX2_commonDivisor_9 (lv_at hl 0 rfl) ?_
      refine lv_bipush (v := 100) hx hb dX2_commonDivisor_11 (by decide) ?_
      refine lv_icmp_ge (tgt := 44) hx hb dX2_commonDivisor_13 (by decide) (fun c_2 => ?_) (fun c_2 => ?_)
      · have n_2 : (100) ≤ (k1) := (nI_leI (a := 100) (b := k1) (by omega) (by omega)).mp c_2
        refine lv_lload hx hb dX2_commonDivisor_44 (lv_at hl 2 rfl) ?_
        subst hZ; exact W.lret hx hb hr (fun t ht _ => ⟨_, rfl, (by first | exact hy1_0 | (rw [← hy1_0, cdF, if_pos (by assumption)])), ht⟩) (fun _ h => nomatch h) dX2_commonDivisor_46
      · have n_2 : ¬ ((100) ≤ (k1)) := fun h => c_2 ((nI_leI (a := 100) (b := k1) (by omega) (by omega)).mpr h)
        exfalso; omega
    | succ n1 ih1 =>
      intro k1 x1 y1 hk1 hy1_0 ls hl
      have hk1b : k1 < 100 := by omega
      refine lv_iload hx hb dX2_commonDivisor_9 (lv_at hl 0 rfl) ?_
      refine lv_bipush (v := 100) hx hb dX2_commonDivisor_11 (by decide) ?_
      refine lv_icmp_ge (tgt := 44) hx hb dX2_commonDivisor_13 (by decide) (fun c_3 => ?_) (fun c_3 => ?_)
      · have n_3 : (100) ≤ (k1) := (nI_leI (a := 100) (b := k1) (by omega) (by omega)).mp c_3
        exfalso; omega
      · have n_3 : ¬ ((100) ≤ (k1)) := fun h => c_3 ((nI_leI (a := 100) (b := k1) (by omega) (by omega)).mpr h)
        refine lv_lload hx hb dX2_commonDivisor_16 (lv_at hl 1 rfl) ?_
        refine lv_lconst (v := 0) hx hb dX2_commonDivisor_18 (by decide) ?_
        refine W.lcmp hx hb dX2_commonDivisor_19 ?_
        refine lv_if_eq (tgt := 44) hx hb dX2_commonDivisor_20 (by decide) (fun c_4 => ?_) (fun c_4 => ?_)
        · have n_4 : y1 = 0 := (lg_cmp_eq _ _).mp c_4
          refine lv_lload hx hb dX2_commonDivisor_44 (lv_at hl 2 rfl) ?_
          subst hZ; exact W.lret hx hb hr (fun t ht _ => ⟨_, rfl, (by first | exact hy1_0 | (rw [← hy1_0, cdF, if_pos (by assumption)])), ht⟩) (fun _ h => nomatch h) dX2_commonDivisor_46
        · have n_4 : ¬ (y1 = 0) := fun h => c_4 ((lg_cmp_eq _ _).mpr h)
          refine lv_lload hx hb dX2_commonDivisor_23 (lv_at hl 2 rfl) ?_
          refine lv_lload hx hb dX2_commonDivisor_25 (lv_at hl 1 rfl) ?_
          refine lv_lrem hx hb dX2_commonDivisor_27 n_4 ?_
          refine lv_lstore (lv' := [(9, .long ((x1) - (x1) / (y1) * (y1))), (8, .int (nI (k1))), (6, .long (y1)), (4, .long (x1)), (0, .long (x)), (2, .long (y))]) hx hb dX2_commonDivisor_28 hl (by decide) rfl (fun ls hl => ?_)
          refine lv_lload hx hb dX2_commonDivisor_30 (lv_at hl 2 rfl) ?_
          refine lv_lstore (lv' := [(4, .long (y1)), (9, .long ((x1) - (x1) / (y1) * (y1))), (8, .int (nI (k1))), (6, .long (y1)), (0, .long (x)), (2, .long (y))]) hx hb dX2_commonDivisor_32 hl (by decide) rfl (fun ls hl => ?_)
          refine lv_lload hx hb dX2_commonDivisor_34 (lv_at hl 1 rfl) ?_
          refine lv_lstore (lv' := [(6, .long ((x1) - (x1) / (y1) * (y1))), (4, .long (y1)), (9, .long ((x1) - (x1) / (y1) * (y1))), (8, .int (nI (k1))), (0, .long (x)), (2, .long (y))]) hx hb dX2_commonDivisor_36 hl (by decide) rfl (fun ls hl => ?_)
          refine lv_iinc (v := nI (k1 + 1)) (lv' := [(8, .int (nI (k1 + 1))), (6, .long ((x1) - (x1) / (y1) * (y1))), (4, .long (y1)), (9, .long ((x1) - (x1) / (y1) * (y1))), (0, .long (x)), (2, .long (y))]) hx hb dX2_commonDivisor_38 hl (k := 3) rfl (nI_1 (k1)) (by decide) rfl (fun ls hl => ?_)
          refine lv_goto (tgt := 9) hx hb dX2_commonDivisor_41 (by decide) ?_
          exact ih1 (k1 + 1) y1 ((x1) - (x1) / (y1) * (y1)) (by omega) (by have h9 := hy1_0; rw [cdF, if_neg n_4] at h9; exact h9) ls (lv_sub hl [0, 1, 2, 4, 5] rfl)
  exact L1 (100) 0 x y (by omega) rfl ls (lv_sub hl [0, 1, 2, 3, 4] rfl)

abbrev rmX2_keepShares : Room := ({ frames := 1, cells := 0, slots := 0, locals := 30 } : Room)
set_option maxHeartbeats 4000000 in
set_option maxRecDepth 100000 in
theorem c_X2_keepShares (ll : Launch) (D : va_G) (a : Nat → Nat) (cI cJ : ClassId) (sz : Nat) (p : Nat → Int32) (nu de eq : Nat → Int64) (am nx oA oD oE oP cR aR hR cl ad gw pr : Nat → Int32) (n : Int32) (dn : Int64)  : Met ll yX2_keepShares wsX2_keepShares rmX2_keepShares (va_Pc [.ref (a 1), .long (dn)] (PW D (tyG cI cJ) (GW a cI cJ p nu de eq am nx oA oD oE oP cR aR hR cl ad gw pr n) sz)) (va_Qv (fun (u : Unit) => True) (fun (u : Unit) t => AW D (tyG cI cJ) (va_A (GW a cI cJ p nu de eq am nx oA oD oE oP cR aR hR cl ad gw pr n) sz) (GW a cI cJ p (ksN eq dn nu 5) (ksD eq dn de 5) eq am nx oA oD oE oP cR aR hR cl ad gw pr n) t) (va_A (GW a cI cJ p nu de eq am nx oA oD oE oP cR aR hR cl ad gw pr n) sz)) 0 0 (va_A (GW a cI cJ p nu de eq am nx oA oD oE oP cR aR hR cl ad gw pr n) sz) := by
  refine Met.ofW (cc := cX2_keepShares) (maxL := 8) (ret := none) (by decide) rfl ?_
  intro pp ee ss mm ar bel mth cd s₁ B hml hv
  obtain ⟨rfl, hsz, hP, hK, hD0, hE⟩ := hv
  have hx := B.exec
  have hb := B.bytes
  have hr := B.returns
  have hts := atoms_spec (ws := wsX2_keepShares) B.pre
  have hown : ss.vm.findClass RX2 = some mm.cls := findClass_of_methodNamed B.named
  have hlocks := B.notSynchronized
  subst hsz
  have hD := hD0.self (sz := ss.heap.size)
  generalize hAe : va_A (GW a cI cJ p nu de eq am nx oA oD oE oP cR aR hR cl ad gw pr n) ss.heap.size = A at hD ⊢
  have hA : ∀ q : Nat, ss.heap.size ≤ q → A q := fun q h => by rw [← hAe]; exact Or.inr h
  have hS : va_S A ss.heap ss.heap [] := va_S.rf
  have hin : ∀ w ∈ wsX20, w.before ([.ref (a 1), .long (dn)] : List Value).toArray ss = true := fun w h => hts w ((by decide +kernel : ∀ w ∈ wsX20, w ∈ wsX2_keepShares) w h)
  have hl := lv_entry [.ref (a 1), .long (dn)] (n := 8) (Nat.le_of_ble_eq_true rfl)
  rw [lg_entry_eq]
  generalize (lg_sl [.ref (a 1), .long (dn)] ++ List.replicate (8 - (lg_sl [.ref (a 1), .long (dn)]).length) Slot.unset).toArray = ls at hl ⊢
  have hl : lv_has ls 8 [(0, .ref (a 1)), (1, .long (dn))] := hl
  generalize hZ : MQ bel _ _ ss _ _ _ = Z
  refine lv_iconst (v := 1) hx hb dX2_keepShares_0 (by decide) ?_
  refine lv_istore_n (lv' := [(3, .int (1)), (0, .ref (a 1)), (1, .long (dn))]) hx hb dX2_keepShares_1 rfl hl (by decide) rfl (fun ls hl => ?_)
  have L1 : ∀ (n1 k1 : Nat), k1 + n1 = 5 → ∀ (H : Heap) (locs : List Loc) (ls : Array Slot), va_P D vwCl (GW a cI cJ p (ksN eq dn nu (k1)) (ksD eq dn de (k1)) eq am nx oA oD oE oP cR aR hR cl ad gw pr n) H → va_D A (GW a cI cJ p (ksN eq dn nu (k1)) (ksD eq dn de (k1)) eq am nx oA oD oE oP cR aR hR cl ad gw pr n) → va_S A ss.heap H locs → lv_has ls 8 [(3, .int (nI (k1 + 1))), (0, .ref (a 1)), (1, .long (dn))] → W pp ll ee rmX2_keepShares ss mm (([.ref (a 1), .long (dn)] : List Value).toArray) bel mth cd H locs 0 0 Z (F0 mm 2 ls []) := by
    intro n1
    induction n1 with
    | zero =>
      intro k1 hk1  H locs ls hP hD hS hl
      have hk1b : 5 = k1 := by omega
      subst hk1b
      refine lv_iload_n hx hb dX2_keepShares_2 rfl (lv_at hl 0 rfl) ?_
      refine lv_bipush (v := 6) hx hb dX2_keepShares_3 (by decide) ?_
      refine lv_icmp_ge (tgt := 62) hx hb dX2_keepShares_5 (by decide) (fun c_2 => ?_) (fun c_2 => ?_)
      · have n_2 : (6) ≤ (5 + 1) := (nI_leI (a := 6) (b := 5 + 1) (by omega) (by omega)).mp c_2
        have e_3 : ksN eq dn nu 5 = ksN eq dn nu (5) := by first | rfl | exact if_pos (by assumption) | exact if_neg (by assumption) | (simp only [n_2, Bool.false_eq_true, ↓reduceIte])
        have e_4 : ksD eq dn de 5 = ksD eq dn de (5) := by first | rfl | exact if_pos (by assumption) | exact if_neg (by assumption) | (simp only [n_2, Bool.false_eq_true, ↓reduceIte])
        subst hZ; exact W.vret hx hb hr (fun t ht hW => ⟨⟨(), rfl, trivial, (by rw [ht]; exact (by rw [e_3, e_4]; exact hP)), va_K.moved hW.alike hK, (by rw [e_3, e_4]; exact hD)⟩, hS.F ht⟩) hS.2.2 dX2_keepShares_62
      · have n_2 : ¬ ((6) ≤ (5 + 1)) := fun h => c_2 ((nI_leI (a := 6) (b := 5 + 1) (by omega) (by omega)).mpr h)
        exfalso; omega
    | succ n1 ih1 =>
      intro k1 hk1  H locs ls hP hD hS hl
      have hk1b : k1 < 5 := by omega
      refine lv_iload_n hx hb dX2_keepShares_2 rfl (lv_at hl 0 rfl) ?_
      refine lv_bipush (v := 6) hx hb dX2_keepShares_3 (by decide) ?_
      refine lv_icmp_ge (tgt := 62) hx hb dX2_keepShares_5 (by decide) (fun c_5 => ?_) (fun c_5 => ?_)
      · have n_5 : (6) ≤ (k1 + 1) := (nI_leI (a := 6) (b := k1 + 1) (by omega) (by omega)).mp c_5
        exfalso; omega
      · have n_5 : ¬ ((6) ≤ (k1 + 1)) := fun h => c_5 ((nI_leI (a := 6) (b := k1 + 1) (by omega) (by omega)).mpr h)
        refine lv_aload_n hx hb dX2_keepShares_8 rfl (lv_at hl 1 rfl) ?_
        refine va_get (D := D) (ci := 2) (v := .ref (a 9)) (C := RX2) (T := TX2) (N := 6) (Ts := wsX20) hx hb hin (fun _ h9 => h9) hown hK hP 1 rfl rfl 3 (by decide) (hts (.fieldLink RX2 22 "Groupbooks$Holdings" "equations" "[J") (by decide +kernel)) (fun _ h9 => h9) rfl dX2_keepShares_9 ?_
        refine lv_iload_n hx hb dX2_keepShares_12 rfl (lv_at hl 0 rfl) ?_
        refine lv_iconst (v := 0) hx hb dX2_keepShares_13 (by decide) ?_
        refine b_csi (v := nI (6 * (k1 + 1) + 0)) ((va_runSN (As := [.int (nI (k1 + 1)), .int (0)]) (rest := [.ref (a 9)]) ⟨hx, hb, hml, hown, hts⟩ (c_X3_pair ll (k1 + 1) 0 ) ⟨va_cnB 2 hts gX2_keepShares_X3_pair_n31 rfl rfl rfl (hE.nest 5 rfl) (hts (.initialized RX3) (by decide +kernel)) (by decide +kernel) ⟨Nat.le_of_ble_eq_true rfl, Nat.le_of_ble_eq_true rfl⟩, hts (.static yX3_pair) (by decide +kernel), trivial⟩ ⟨PT.blind, PT.to⟩ rfl rfl hl.1 rfl (lv_room (Nat.le_of_ble_eq_true rfl)) dX2_keepShares_14 ⟨Nat.le_of_ble_eq_true rfl, Nat.le_of_ble_eq_true rfl⟩).run) ?_
        refine b_lald hx hb hK hP 9 1 (f := eq) rfl rfl (j := 6 * (k1 + 1) + 0) (by omega) (by decide) dX2_keepShares_17 ?_
        refine lv_lstore (lv' := [(4, .long (eq (6 * (k1 + 1) + 0))), (3, .int (nI (k1 + 1))), (0, .ref (a 1)), (1, .long (dn))]) hx hb dX2_keepShares_18 hl (by decide) rfl (fun ls hl => ?_)
        refine lv_lload_n hx hb dX2_keepShares_20 rfl (lv_at hl 3 rfl) ?_
        refine lv_lload hx hb dX2_keepShares_21 (lv_at hl 0 rfl) ?_
        refine b_csl (v := cdF 100 dn (eq (6 * (k1 + 1) + 0))) (W.runS (As := [.long (dn), .long (eq (6 * (k1 + 1) + 0))]) (rest := []) ⟨hx, hb, hml, hown, hts⟩ (c_X2_commonDivisor ll dn (eq (6 * (k1 + 1) + 0)) ) (va_cwS 2 hts gX2_keepShares_X2_commonDivisor rfl rfl rfl (by decide +kernel) ⟨Nat.le_of_ble_eq_true rfl, Nat.le_of_ble_eq_true rfl⟩) ⟨PT.blind, PT.to⟩ rfl rfl hl.1 rfl (lv_room (Nat.le_of_ble_eq_true rfl)) dX2_keepShares_23 ⟨Nat.le_of_ble_eq_true rfl, Nat.le_of_ble_eq_true rfl⟩) ?_
        refine lv_lstore (lv' := [(6, .long (cdF 100 dn (eq (6 * (k1 + 1) + 0)))), (4, .long (eq (6 * (k1 + 1) + 0))), (3, .int (nI (k1 + 1))), (0, .ref (a 1)), (1, .long (dn))]) hx hb dX2_keepShares_26 hl (by decide) rfl (fun ls hl => ?_)
        refine lv_lload hx hb dX2_keepShares_28 (lv_at hl 0 rfl) ?_
        refine lv_lconst (v := 0) hx hb dX2_keepShares_30 (by decide) ?_
        refine W.lcmp hx hb dX2_keepShares_31 ?_
        refine lv_if_le (tgt := 56) hx hb dX2_keepShares_32 (by decide) (fun c_6 => ?_) (fun c_6 => ?_)
        · have n_6 : cdF 100 dn (eq (6 * (k1 + 1) + 0)) ≤ 0 := (lg_cmp_le _ _).mp c_6
          refine lv_iinc (v := nI (k1 + 1 + 1)) (lv' := [(3, .int (nI (k1 + 1 + 1))), (6, .long (cdF 100 dn (eq (6 * (k1 + 1) + 0)))), (4, .long (eq (6 * (k1 + 1) + 0))), (0, .ref (a 1)), (1, .long (dn))]) hx hb dX2_keepShares_56 hl (k := 2) rfl (nI_1 (k1 + 1)) (by decide) rfl (fun ls hl => ?_)
          refine lv_goto (tgt := 2) hx hb dX2_keepShares_59 (by decide) ?_
          have e_7 : ksN eq dn nu (k1 + 1) = ksN eq dn nu (k1) := by first | rfl | exact if_pos (by assumption) | exact if_neg (by assumption) | (simp only [n_5, n_6, Bool.false_eq_true, ↓reduceIte])
          have e_8 : ksD eq dn de (k1 + 1) = ksD eq dn de (k1) := by first | rfl | exact if_pos (by assumption) | exact if_neg (by assumption) | (simp only [n_5, n_6, Bool.false_eq_true, ↓reduceIte])
          exact ih1 (k1 + 1) (by omega) _ _ ls (by rw [e_7, e_8]; exact hP) (by rw [e_7, e_8]; exact hD) hS (lv_sub hl [0, 3, 4] rfl)
        · have n_6 : ¬ (cdF 100 dn (eq (6 * (k1 + 1) + 0)) ≤ 0) := fun h => c_6 ((lg_cmp_le _ _).mpr h)
          refine lv_aload_n hx hb dX2_keepShares_35 rfl (lv_at hl 3 rfl) ?_
          refine va_get (D := D) (ci := 2) (v := .ref (a 7)) (C := RX2) (T := TX2) (N := 6) (Ts := wsX20) hx hb hin (fun _ h9 => h9) hown hK hP 1 rfl rfl 1 (by decide) (hts (.fieldLink RX2 15 "Groupbooks$Holdings" "numerators" "[J") (by decide +kernel)) (fun _ h9 => h9) rfl dX2_keepShares_36 ?_
          refine lv_iload_n hx hb dX2_keepShares_39 rfl (lv_at hl 2 rfl) ?_
          refine lv_lload hx hb dX2_keepShares_40 (lv_at hl 1 rfl) ?_
          refine lv_lload hx hb dX2_keepShares_42 (lv_at hl 0 rfl) ?_
          refine lv_ldiv hx hb dX2_keepShares_44 (ne_of_nle n_6) ?_
          refine b_last (w' := GW a cI cJ p (vp_updL (ksN eq dn nu (k1)) (k1 + 1) ((eq (6 * (k1 + 1) + 0)) / (cdF 100 dn (eq (6 * (k1 + 1) + 0))))) (ksD eq dn de (k1)) eq am nx oA oD oE oP cR aR hR cl ad gw pr n) hx hb hK hP hD hS 7 1 (f := (ksN eq dn nu (k1))) rfl rfl (j := k1 + 1) (by omega) (by decide) rfl dX2_keepShares_45 (fun H locs hP hD hS => ?_)
          refine lv_aload_n hx hb dX2_keepShares_46 rfl (lv_at hl 3 rfl) ?_
          refine va_get (D := D) (ci := 2) (v := .ref (a 8)) (C := RX2) (T := TX2) (N := 6) (Ts := wsX20) hx hb hin (fun _ h9 => h9) hown hK hP 1 rfl rfl 2 (by decide) (hts (.fieldLink RX2 19 "Groupbooks$Holdings" "denominators" "[J") (by decide +kernel)) (fun _ h9 => h9) rfl dX2_keepShares_47 ?_
          refine lv_iload_n hx hb dX2_keepShares_50 rfl (lv_at hl 2 rfl) ?_
          refine lv_lload_n hx hb dX2_keepShares_51 rfl (lv_at hl 4 rfl) ?_
          refine lv_lload hx hb dX2_keepShares_52 (lv_at hl 0 rfl) ?_
          refine lv_ldiv hx hb dX2_keepShares_54 (ne_of_nle n_6) ?_
          refine b_last (w' := GW a cI cJ p (vp_updL (ksN eq dn nu (k1)) (k1 + 1) ((eq (6 * (k1 + 1) + 0)) / (cdF 100 dn (eq (6 * (k1 + 1) + 0))))) (vp_updL (ksD eq dn de (k1)) (k1 + 1) ((dn) / (cdF 100 dn (eq (6 * (k1 + 1) + 0))))) eq am nx oA oD oE oP cR aR hR cl ad gw pr n) hx hb hK hP hD hS 8 1 (f := (ksD eq dn de (k1))) rfl rfl (j := k1 + 1) (by omega) (by decide) rfl dX2_keepShares_55 (fun H locs hP hD hS => ?_)
          refine lv_iinc (v := nI (k1 + 1 + 1)) (lv' := [(3, .int (nI (k1 + 1 + 1))), (6, .long (cdF 100 dn (eq (6 * (k1 + 1) + 0)))), (4, .long (eq (6 * (k1 + 1) + 0))), (0, .ref (a 1)), (1, .long (dn))]) hx hb dX2_keepShares_56 hl (k := 2) rfl (nI_1 (k1 + 1)) (by decide) rfl (fun ls hl => ?_)
          refine lv_goto (tgt := 2) hx hb dX2_keepShares_59 (by decide) ?_
          have e_9 : ksN eq dn nu (k1 + 1) = vp_updL (ksN eq dn nu (k1)) (k1 + 1) ((eq (6 * (k1 + 1) + 0)) / (cdF 100 dn (eq (6 * (k1 + 1) + 0)))) := by first | rfl | exact if_pos (by assumption) | exact if_neg (by assumption) | (simp only [n_5, n_6, Bool.false_eq_true, ↓reduceIte])
          have e_10 : ksD eq dn de (k1 + 1) = vp_updL (ksD eq dn de (k1)) (k1 + 1) ((dn) / (cdF 100 dn (eq (6 * (k1 + 1) + 0)))) := by first | rfl | exact if_pos (by assumption) | exact if_neg (by assumption) | (simp only [n_5, n_6, Bool.false_eq_true, ↓reduceIte])
          exact ih1 (k1 + 1) (by omega) _ _ ls (by rw [e_9, e_10]; exact hP) (by rw [e_9, e_10]; exact hD) hS (lv_sub hl [0, 3, 4] rfl)
  exact L1 (5) 0 (by omega) _ _ ls hP hD hS (lv_sub hl [0, 1, 2] rfl)
