abbrev rmX4_common : Room := ({ frames := 0, cells := 0, slots := 0, locals := 0 } : Room)
set_option maxHeartbeats 4000000 in
set_option maxRecDepth 100000 in
theorem c_X4_common (ll : Launch) (X Y : Nat) (hX : X < 2 ^ 63) (hY : Y < 2 ^ 63) : Met ll yX4_common wsX4_common rmX4_common (va_Pc [.long (lN (X)), .long (lN (Y))] (fun _ => True)) (vp_Sl (fun rr => rr = lN (Nat.gcd X Y))) 0 0 (fun _ => False) := by
  refine Met.ofW (cc := cX4_common) (maxL := 10) (ret := (some .long)) (by decide) rfl ?_
  intro pp ee ss mm ar bel mth cde s₁ B hml hv
  obtain ⟨rfl, -⟩ := hv
  have hx := B.exec
  have hb := B.bytes
  have hr := B.returns
  have hts := atoms_spec (ws := wsX4_common) B.pre
  have hown : ss.vm.findClass RX4 = some mm.cls := findClass_of_methodNamed B.named
  have hlocks := B.notSynchronized
  have hl := lv_entry [.long (lN (X)), .long (lN (Y))] (n := 10) (Nat.le_of_ble_eq_true rfl)
  rw [lg_entry_eq]
  generalize (lg_sl [.long (lN (X)), .long (lN (Y))] ++ List.replicate (10 - (lg_sl [.long (lN (X)), .long (lN (Y))]).length) Slot.unset).toArray = ls at hl ⊢
  have hl : lv_has ls 10 [(0, .long (lN (X))), (2, .long (lN (Y)))] := hl
  generalize hZ : MQ bel _ _ ss _ _ _ = Z
  refine lv_lload_n hx hb dX4_common_0 rfl (lv_at hl 0 rfl) ?_
  refine lv_lstore (lv' := [(4, .long (lN (X))), (0, .long (lN (X))), (2, .long (lN (Y)))]) hx hb dX4_common_1 hl (by decide) rfl (fun ls hl => ?_)
  refine lv_lload_n hx hb dX4_common_3 rfl (lv_at hl 2 rfl) ?_
  refine lv_lstore (lv' := [(6, .long (lN (Y))), (4, .long (lN (X))), (0, .long (lN (X))), (2, .long (lN (Y)))]) hx hb dX4_common_4 hl (by decide) rfl (fun ls hl => ?_)
  have L1 : ∀ (n1 k1 : Nat) (X1 : Nat) (Y1 : Nat), k1 + n1 = Y + 1 → Nat.gcd X1 Y1 = Nat.gcd X Y → X1 < 2 ^ 63 → Y1 < 2 ^ 63 → Y1 < n1 → ∀ (ls : Array Slot), lv_has ls 10 [(6, .long (lN (Y1))), (4, .long (lN (X1))), (0, .long (lN (X))), (2, .long (lN (Y)))] → W pp ll ee rmX4_common ss mm (([.long (lN (X)), .long (lN (Y))] : List Value).toArray) bel mth cde ss.heap [] 0 0 Z (F0 mm 6 ls []) := by
    intro n1
    induction n1 with
    | zero =>
      intro k1 X1 Y1 hk1 hy1_0 hy1_1 hy1_2 hy1_3 ls hl
      have hk1b : Y + 1 = k1 := by omega
      exact absurd hy1_3 (Nat.not_lt_zero _)
    | succ n1 ih1 =>
      intro k1 X1 Y1 hk1 hy1_0 hy1_1 hy1_2 hy1_3 ls hl
      have hk1b : k1 < Y + 1 := by omega
      refine lv_lload hx hb dX4_common_6 (lv_at hl 0 rfl) ?_
      refine lv_lconst (v := 0) hx hb dX4_common_8 (by decide) ?_
      refine W.lcmp hx hb dX4_common_9 ?_
      refine lv_if_eq (tgt := 31) hx hb dX4_common_10 (by decide) (fun c_1 => ?_) (fun c_1 => ?_)
      · have n_1 : lN (Y1) = 0 := (lg_cmp_eq _ _).mp c_1
        refine lv_lload hx hb dX4_common_31 (lv_at hl 1 rfl) ?_
        subst hZ; exact W.lret hx hb hr (fun t ht _ => ⟨_, rfl, (congrArg lN ((show X1 = Nat.gcd X1 Y1 by rw [(pk_lEQ (a := Y1) (b := 0) hy1_2 (by decide)).mp n_1, Nat.gcd_zero_right]).trans hy1_0)), ht⟩) (fun _ h => nomatch h) dX4_common_33
      · have n_1 : ¬ (lN (Y1) = 0) := fun h => c_1 ((lg_cmp_eq _ _).mpr h)
        refine lv_lload hx hb dX4_common_13 (lv_at hl 1 rfl) ?_
        refine lv_lload hx hb dX4_common_15 (lv_at hl 0 rfl) ?_
        refine lv_lrem hx hb dX4_common_17 n_1 ?_
        refine b_tl (y := lN (X1 % Y1)) (pk_lRem hy1_1 (Nat.pos_of_ne_zero (fun e9 => n_1 (congrArg lN e9))) hy1_2) ?_
        refine lv_lstore (lv' := [(8, .long (lN (X1 % Y1))), (6, .long (lN (Y1))), (4, .long (lN (X1))), (0, .long (lN (X))), (2, .long (lN (Y)))]) hx hb dX4_common_18 hl (by decide) rfl (fun ls hl => ?_)
        refine lv_lload hx hb dX4_common_20 (lv_at hl 1 rfl) ?_
        refine lv_lstore (lv' := [(4, .long (lN (Y1))), (8, .long (lN (X1 % Y1))), (6, .long (lN (Y1))), (0, .long (lN (X))), (2, .long (lN (Y)))]) hx hb dX4_common_22 hl (by decide) rfl (fun ls hl => ?_)
        refine lv_lload hx hb dX4_common_24 (lv_at hl 1 rfl) ?_
        refine lv_lstore (lv' := [(6, .long (lN (X1 % Y1))), (4, .long (lN (Y1))), (8, .long (lN (X1 % Y1))), (0, .long (lN (X))), (2, .long (lN (Y)))]) hx hb dX4_common_26 hl (by decide) rfl (fun ls hl => ?_)
        refine lv_goto (tgt := 6) hx hb dX4_common_28 (by decide) ?_
        exact ih1 (k1 + 1) Y1 (X1 % Y1) (by omega) (gcd_step.trans hy1_0) hy1_2 (Nat.lt_trans (Nat.mod_lt _ (Nat.pos_of_ne_zero (fun e9 => n_1 (congrArg lN e9)))) hy1_2) (Nat.lt_of_lt_of_le (Nat.mod_lt _ (Nat.pos_of_ne_zero (fun e9 => n_1 (congrArg lN e9)))) (Nat.le_of_lt_succ hy1_3)) ls (lv_sub hl [0, 1, 3, 4] rfl)
  exact L1 (Y + 1) 0 X Y (by omega) rfl hX hY (Nat.lt_succ_self _) ls (lv_sub hl [0, 1, 2, 3] rfl)

abbrev rmX4_layShares : Room := ({ frames := 2, cells := 0, slots := 0, locals := 53 } : Room)
set_option maxHeartbeats 4000000 in
set_option maxRecDepth 100000 in
theorem c_X4_layShares (ll : Launch) (D : va_G) (a : Nat → Nat) (cI cJ : ClassId) (sz : Nat) (he cm ad gw as de eq re co av hi ke : Nat → Int32) (sq ab be : Nat → Int64) (nw tn : Nat → Int32) (th cd : Int32)  (hB : okB he) (hW : ¬ dW he 0 = 0) : Met ll yX4_layShares wsX4_layShares rmX4_layShares (va_Pc [.ref (a 0)] (PW D (tyG cI cJ) (MW a cI cJ he cm ad gw as de eq re co av hi ke sq ab be nw tn th cd) sz)) (va_Qi (fun (rr : Int32) (u : Nat → Int64) => rr = 1) (fun (u : Nat → Int64) t => AW D (tyG cI cJ) (va_A (MW a cI cJ he cm ad gw as de eq re co av hi ke sq ab be nw tn th cd) sz) (MW a cI cJ he cm ad gw as de eq re co av hi ke u (abK he ab 5) (beK he be 5) nw tn th cd) t) (va_A (MW a cI cJ he cm ad gw as de eq re co av hi ke sq ab be nw tn th cd) sz)) 0 0 (va_A (MW a cI cJ he cm ad gw as de eq re co av hi ke sq ab be nw tn th cd) sz) := by
  refine Met.ofW (cc := cX4_layShares) (maxL := 8) (ret := (some .boolean)) (by decide) rfl ?_
  intro pp ee ss mm ar bel mth cde s₁ B hml hv
  obtain ⟨rfl, hsz, hP, hK, hD0, hE⟩ := hv
  have hx := B.exec
  have hb := B.bytes
  have hr := B.returns
  have hts := atoms_spec (ws := wsX4_layShares) B.pre
  have hown : ss.vm.findClass RX4 = some mm.cls := findClass_of_methodNamed B.named
  have hlocks := B.notSynchronized
  subst hsz
  have hD := hD0.self (sz := ss.heap.size)
  generalize hAe : va_A (MW a cI cJ he cm ad gw as de eq re co av hi ke sq ab be nw tn th cd) ss.heap.size = A at hD ⊢
  have hA : ∀ q : Nat, ss.heap.size ≤ q → A q := fun q h => by rw [← hAe]; exact Or.inr h
  have hS : va_S A ss.heap ss.heap [] := va_S.rf
  have hin : ∀ w ∈ wsX40, w.before ([.ref (a 0)] : List Value).toArray ss = true := fun w h => hts w ((by decide +kernel : ∀ w ∈ wsX40, w ∈ wsX4_layShares) w h)
  have hl := lv_entry [.ref (a 0)] (n := 8) (Nat.le_of_ble_eq_true rfl)
  rw [lg_entry_eq]
  generalize (lg_sl [.ref (a 0)] ++ List.replicate (8 - (lg_sl [.ref (a 0)]).length) Slot.unset).toArray = ls at hl ⊢
  have hl : lv_has ls 8 [(0, .ref (a 0))] := hl
  generalize hZ : MQ bel _ _ ss _ _ _ = Z
  refine lv_aload_n hx hb dX4_layShares_0 rfl (lv_at hl 0 rfl) ?_
  refine lv_iconst (v := 0) hx hb dX4_layShares_1 (by decide) ?_
  refine b_callv0 (S := Unit) (w' := fun u => MW a cI cJ he cm ad gw as de eq re co av hi ke (lsO he 0 sq 5) ab be nw tn th cd) hP hD hS hA (va_runV (As := [.int (0)]) (rest := []) ⟨hx, hb, hml, hown, hts⟩ (c_X4_laySquare ll D a cI cJ _ he cm ad gw as de eq re co av hi ke sq ab be nw tn th cd 0 (by omega)) (cwV 1 hts gX4_layShares_X4_laySquare rfl rfl rfl (by decide +kernel) ⟨Nat.le_of_ble_eq_true rfl, Nat.le_of_ble_eq_true rfl⟩) ⟨PW.blind, va_recv hK hP (ci := 4) (q0 := 0) rfl rfl, PW.go hP hK hD hE⟩ rfl rfl hl.1 rfl (lv_room (Nat.le_of_ble_eq_true rfl)) dX4_layShares_2 ⟨Nat.le_of_ble_eq_true rfl, Nat.le_of_ble_eq_true rfl⟩) (fun u H locs h_1 hP hD hS => ?_)
  refine lv_aload_n hx hb dX4_layShares_5 rfl (lv_at hl 0 rfl) ?_
  refine b_calll0 (S := Nat → Int64) (w' := fun u_2 => MW a cI cJ he cm ad gw as de eq re co av hi ke u_2 ab be nw tn th cd) hP hD hS hA (va_runV (As := []) (rest := []) ⟨hx, hb, hml, hown, hts⟩ (c_X4_determinant ll D a cI cJ _ he cm ad gw as de eq re co av hi ke (lsO he 0 sq 5) ab be nw tn th cd  ) (cwV 0 hts gX4_layShares_X4_determinant rfl rfl rfl (by decide +kernel) ⟨Nat.le_of_ble_eq_true rfl, Nat.le_of_ble_eq_true rfl⟩) ⟨PW.blind, va_recv hK hP (ci := 4) (q0 := 0) rfl rfl, PW.go hP hK hD hE⟩ rfl rfl hl.1 rfl (lv_room (Nat.le_of_ble_eq_true rfl)) dX4_layShares_6 ⟨Nat.le_of_ble_eq_true rfl, Nat.le_of_ble_eq_true rfl⟩) (fun r_4 u_2 H locs h_3 hP hD hS => ?_)
  obtain rfl : r_4 = dW he (0) := (show r_4 = dtG 4 0 _ 1 1 from h_3).trans (dt_lay he (0) _)
  refine lv_lstore_n (lv' := [(1, .long (dW he (0))), (0, .ref (a 0))]) hx hb dX4_layShares_9 rfl hl (by decide) rfl (fun ls hl => ?_)
  refine lv_aload_n hx hb dX4_layShares_10 rfl (lv_at hl 1 rfl) ?_
  refine va_get (D := D) (ci := 4) (v := .ref (a 14)) (C := RX4) (T := TX4) (N := 19) (Ts := wsX40) hx hb hin (fun _ h9 => h9) hown hK hP 0 rfl rfl 15 (by decide) (hts (.fieldLink RX4 50 "GroupbooksModel" "above" "[J") (by decide +kernel)) (fun _ h9 => h9) rfl dX4_layShares_11 ?_
  refine lv_iconst (v := 0) hx hb dX4_layShares_14 (by decide) ?_
  refine lv_lconst (v := 1) hx hb dX4_layShares_15 (by decide) ?_
  refine b_last (w' := MW a cI cJ he cm ad gw as de eq re co av hi ke u_2 (vp_updL ab (0) (1)) be nw tn th cd) hx hb hK hP hD hS 14 1 (f := ab) rfl rfl (j := 0) (by omega) (by decide) rfl dX4_layShares_16 (fun H locs hP hD hS => ?_)
  refine lv_aload_n hx hb dX4_layShares_17 rfl (lv_at hl 1 rfl) ?_
  refine va_get (D := D) (ci := 4) (v := .ref (a 15)) (C := RX4) (T := TX4) (N := 19) (Ts := wsX40) hx hb hin (fun _ h9 => h9) hown hK hP 0 rfl rfl 16 (by decide) (hts (.fieldLink RX4 53 "GroupbooksModel" "below" "[J") (by decide +kernel)) (fun _ h9 => h9) rfl dX4_layShares_18 ?_
  refine lv_iconst (v := 0) hx hb dX4_layShares_21 (by decide) ?_
  refine lv_lconst (v := 1) hx hb dX4_layShares_22 (by decide) ?_
  refine b_last (w' := MW a cI cJ he cm ad gw as de eq re co av hi ke u_2 (vp_updL ab (0) (1)) (vp_updL be (0) (1)) nw tn th cd) hx hb hK hP hD hS 15 1 (f := be) rfl rfl (j := 0) (by omega) (by decide) rfl dX4_layShares_23 (fun H locs hP hD hS => ?_)
  refine lv_iconst (v := 1) hx hb dX4_layShares_24 (by decide) ?_
  refine lv_istore_n (lv' := [(3, .int (1)), (1, .long (dW he (0))), (0, .ref (a 0))]) hx hb dX4_layShares_25 rfl hl (by decide) rfl (fun ls hl => ?_)
  have L1 : ∀ (n1 k1 : Nat) (s1 : Nat → Int64), k1 + n1 = 5 → ∀ (H : Heap) (locs : List Loc) (ls : Array Slot), va_P D vwCl (MW a cI cJ he cm ad gw as de eq re co av hi ke s1 (abK he ab (k1)) (beK he be (k1)) nw tn th cd) H → va_D A (MW a cI cJ he cm ad gw as de eq re co av hi ke s1 (abK he ab (k1)) (beK he be (k1)) nw tn th cd) → va_S A ss.heap H locs → lv_has ls 8 [(3, .int (nI (k1 + 1))), (1, .long (dW he (0))), (0, .ref (a 0))] → W pp ll ee rmX4_layShares ss mm (([.ref (a 0)] : List Value).toArray) bel mth cde H locs 0 0 Z (F0 mm 26 ls []) := by
    intro n1
    induction n1 with
    | zero =>
      intro k1 s1 hk1  H locs ls hP hD hS hl
      have hk1b : 5 = k1 := by omega
      subst hk1b
      refine lv_iload_n hx hb dX4_layShares_26 rfl (lv_at hl 0 rfl) ?_
      refine lv_bipush (v := 6) hx hb dX4_layShares_27 (by decide) ?_
      refine lv_icmp_ge (tgt := 124) hx hb dX4_layShares_29 (by decide) (fun c_5 => ?_) (fun c_5 => ?_)
      · have n_5 : (6) ≤ (5 + 1) := (nI_leI (a := 6) (b := 5 + 1) (by omega) (by omega)).mp c_5
        refine lv_lload_n hx hb dX4_layShares_124 rfl (lv_at hl 1 rfl) ?_
        refine lv_lconst (v := 0) hx hb dX4_layShares_125 (by decide) ?_
        refine W.lcmp hx hb dX4_layShares_126 ?_
        refine lv_if_eq (tgt := 134) hx hb dX4_layShares_127 (by decide) (fun c_6 => ?_) (fun c_6 => ?_)
        · have n_6 : dW he (0) = 0 := (lg_cmp_eq _ _).mp c_6
          exact absurd ((n_6)) hW
        · have n_6 : ¬ (dW he (0) = 0) := fun h => c_6 ((lg_cmp_eq _ _).mpr h)
          refine lv_iconst (v := 1) hx hb dX4_layShares_130 (by decide) ?_
          refine lv_goto (tgt := 135) hx hb dX4_layShares_131 (by decide) ?_
          subst hZ
          refine W.zret hx hb hr (by decide) (fun t ht hW => ?_) hS.2.2 dX4_layShares_135
          refine ⟨⟨_, (s1), rfl, ?_, ?_, va_K.moved hW.alike hK, ?_⟩, hS.F ht⟩
          · try dsimp only
            all_goals exact rfl
          · rw [ht]
            try dsimp only
            exact hP
          · try dsimp only
            exact hD
      · have n_5 : ¬ ((6) ≤ (5 + 1)) := fun h => c_5 ((nI_leI (a := 6) (b := 5 + 1) (by omega) (by omega)).mpr h)
        exfalso; omega
    | succ n1 ih1 =>
      intro k1 s1 hk1  H locs ls hP hD hS hl
      have hk1b : k1 < 5 := by omega
      refine lv_iload_n hx hb dX4_layShares_26 rfl (lv_at hl 0 rfl) ?_
      refine lv_bipush (v := 6) hx hb dX4_layShares_27 (by decide) ?_
      refine lv_icmp_ge (tgt := 124) hx hb dX4_layShares_29 (by decide) (fun c_7 => ?_) (fun c_7 => ?_)
      · have n_7 : (6) ≤ (k1 + 1) := (nI_leI (a := 6) (b := k1 + 1) (by omega) (by omega)).mp c_7
        exfalso; omega
      · have n_7 : ¬ ((6) ≤ (k1 + 1)) := fun h => c_7 ((nI_leI (a := 6) (b := k1 + 1) (by omega) (by omega)).mpr h)
        refine lv_lload_n hx hb dX4_layShares_32 rfl (lv_at hl 1 rfl) ?_
        refine lv_lconst (v := 0) hx hb dX4_layShares_33 (by decide) ?_
        refine W.lcmp hx hb dX4_layShares_34 ?_
        refine lv_if_eq (tgt := 124) hx hb dX4_layShares_35 (by decide) (fun c_8 => ?_) (fun c_8 => ?_)
        · have n_8 : dW he (0) = 0 := (lg_cmp_eq _ _).mp c_8
          exact absurd ((n_8)) hW
        · have n_8 : ¬ (dW he (0) = 0) := fun h => c_8 ((lg_cmp_eq _ _).mpr h)
          refine lv_aload_n hx hb dX4_layShares_38 rfl (lv_at hl 2 rfl) ?_
          refine lv_iload_n hx hb dX4_layShares_39 rfl (lv_at hl 0 rfl) ?_
          refine b_callv0 (S := Unit) (w' := fun u => MW a cI cJ he cm ad gw as de eq re co av hi ke (lsO he (k1 + 1) s1 5) (abK he ab (k1)) (beK he be (k1)) nw tn th cd) hP hD hS hA (va_runV (As := [.int (nI (k1 + 1))]) (rest := []) ⟨hx, hb, hml, hown, hts⟩ (c_X4_laySquare ll D a cI cJ _ he cm ad gw as de eq re co av hi ke s1 (abK he ab (k1)) (beK he be (k1)) nw tn th cd (k1 + 1) (by omega)) (cwV 1 hts gX4_layShares_X4_laySquare rfl rfl rfl (by decide +kernel) ⟨Nat.le_of_ble_eq_true rfl, Nat.le_of_ble_eq_true rfl⟩) ⟨PW.blind, va_recv hK hP (ci := 4) (q0 := 0) rfl rfl, PW.go hP hK hD hE⟩ rfl rfl hl.1 rfl (lv_room (Nat.le_of_ble_eq_true rfl)) dX4_layShares_40 ⟨Nat.le_of_ble_eq_true rfl, Nat.le_of_ble_eq_true rfl⟩) (fun u H locs h_9 hP hD hS => ?_)
          refine lv_aload_n hx hb dX4_layShares_43 rfl (lv_at hl 2 rfl) ?_
          refine b_calll0 (S := Nat → Int64) (w' := fun u_10 => MW a cI cJ he cm ad gw as de eq re co av hi ke u_10 (abK he ab (k1)) (beK he be (k1)) nw tn th cd) hP hD hS hA (va_runV (As := []) (rest := []) ⟨hx, hb, hml, hown, hts⟩ (c_X4_determinant ll D a cI cJ _ he cm ad gw as de eq re co av hi ke (lsO he (k1 + 1) s1 5) (abK he ab (k1)) (beK he be (k1)) nw tn th cd  ) (cwV 0 hts gX4_layShares_X4_determinant rfl rfl rfl (by decide +kernel) ⟨Nat.le_of_ble_eq_true rfl, Nat.le_of_ble_eq_true rfl⟩) ⟨PW.blind, va_recv hK hP (ci := 4) (q0 := 0) rfl rfl, PW.go hP hK hD hE⟩ rfl rfl hl.1 rfl (lv_room (Nat.le_of_ble_eq_true rfl)) dX4_layShares_44 ⟨Nat.le_of_ble_eq_true rfl, Nat.le_of_ble_eq_true rfl⟩) (fun r_12 u_10 H locs h_11 hP hD hS => ?_)
          obtain rfl : r_12 = dW he (k1 + 1) := (show r_12 = dtG 4 0 _ 1 1 from h_11).trans (dt_lay he (k1 + 1) _)
          refine lv_lstore (lv' := [(4, .long (dW he (k1 + 1))), (3, .int (nI (k1 + 1))), (1, .long (dW he (0))), (0, .ref (a 0))]) hx hb dX4_layShares_47 hl (by decide) rfl (fun ls hl => ?_)
          refine lv_lload hx hb dX4_layShares_49 (lv_at hl 0 rfl) ?_
          refine lv_lconst (v := 0) hx hb dX4_layShares_51 (by decide) ?_
          refine W.lcmp hx hb dX4_layShares_52 ?_
          refine lv_if_ge (tgt := 62) hx hb dX4_layShares_53 (by decide) (fun c_13 => ?_) (fun c_13 => ?_)
          · have n_13 : 0 ≤ dW he (k1 + 1) := (lg_cmp_ge _ _).mp c_13
            refine lv_lload hx hb dX4_layShares_62 (lv_at hl 0 rfl) ?_
            refine b_tl (y := lN ((dW he (k1 + 1)).toInt.natAbs)) (absN_pos n_13) ?_
            refine lv_lload_n hx hb dX4_layShares_64 rfl (lv_at hl 2 rfl) ?_
            refine lv_lconst (v := 0) hx hb dX4_layShares_65 (by decide) ?_
            refine W.lcmp hx hb dX4_layShares_66 ?_
            refine lv_if_ge (tgt := 75) hx hb dX4_layShares_67 (by decide) (fun c_14 => ?_) (fun c_14 => ?_)
            · have n_14 : 0 ≤ dW he (0) := (lg_cmp_ge _ _).mp c_14
              refine lv_lload_n hx hb dX4_layShares_75 rfl (lv_at hl 2 rfl) ?_
              refine b_tl (y := lN ((dW he (0)).toInt.natAbs)) (absN_pos n_14) ?_
              refine b_csl (v := lN (Nat.gcd ((dW he (k1 + 1)).toInt.natAbs) ((dW he (0)).toInt.natAbs))) (W.runS (As := [.long (lN ((dW he (k1 + 1)).toInt.natAbs)), .long (lN ((dW he (0)).toInt.natAbs))]) (rest := []) ⟨hx, hb, hml, hown, hts⟩ (c_X4_common ll ((dW he (k1 + 1)).toInt.natAbs) ((dW he (0)).toInt.natAbs) (abs_lt hB (by omega)) (abs_lt hB (by omega))) (va_cwS 2 hts gX4_layShares_X4_common rfl rfl rfl (by decide +kernel) ⟨Nat.le_of_ble_eq_true rfl, Nat.le_of_ble_eq_true rfl⟩) ⟨PT.blind, PT.to⟩ rfl rfl hl.1 rfl (lv_room (Nat.le_of_ble_eq_true rfl)) dX4_layShares_76 ⟨Nat.le_of_ble_eq_true rfl, Nat.le_of_ble_eq_true rfl⟩) ?_
              refine lv_lstore (lv' := [(6, .long (lN (Nat.gcd ((dW he (k1 + 1)).toInt.natAbs) ((dW he (0)).toInt.natAbs)))), (4, .long (dW he (k1 + 1))), (3, .int (nI (k1 + 1))), (1, .long (dW he (0))), (0, .ref (a 0))]) hx hb dX4_layShares_79 hl (by decide) rfl (fun ls hl => ?_)
              refine lv_lload_n hx hb dX4_layShares_81 rfl (lv_at hl 3 rfl) ?_
              refine lv_lconst (v := 0) hx hb dX4_layShares_82 (by decide) ?_
              refine W.lcmp hx hb dX4_layShares_83 ?_
              refine lv_if_ge (tgt := 93) hx hb dX4_layShares_84 (by decide) (fun c_15 => ?_) (fun c_15 => ?_)
              · have n_15 : 0 ≤ dW he (0) := (lg_cmp_ge _ _).mp c_15
                refine lv_lload hx hb dX4_layShares_93 (lv_at hl 0 rfl) ?_
                refine b_tl (y := byV he (k1 + 1)) ((if_pos n_15).symm) ?_
                refine lv_lstore (lv' := [(6, .long (byV he (k1 + 1))), (4, .long (dW he (k1 + 1))), (3, .int (nI (k1 + 1))), (1, .long (dW he (0))), (0, .ref (a 0))]) hx hb dX4_layShares_95 hl (by decide) rfl (fun ls hl => ?_)
                refine lv_aload_n hx hb dX4_layShares_97 rfl (lv_at hl 4 rfl) ?_
                refine va_get (D := D) (ci := 4) (v := .ref (a 14)) (C := RX4) (T := TX4) (N := 19) (Ts := wsX40) hx hb hin (fun _ h9 => h9) hown hK hP 0 rfl rfl 15 (by decide) (hts (.fieldLink RX4 50 "GroupbooksModel" "above" "[J") (by decide +kernel)) (fun _ h9 => h9) rfl dX4_layShares_98 ?_
                refine lv_iload_n hx hb dX4_layShares_101 rfl (lv_at hl 2 rfl) ?_
                refine lv_lload hx hb dX4_layShares_102 (lv_at hl 1 rfl) ?_
                refine lv_lload hx hb dX4_layShares_104 (lv_at hl 0 rfl) ?_
                refine lv_ldiv hx hb dX4_layShares_106 (by_ne hB hW (by omega)) ?_
                refine b_last (w' := MW a cI cJ he cm ad gw as de eq re co av hi ke u_10 (vp_updL (abK he ab (k1)) (k1 + 1) ((dW he (k1 + 1)) / (byV he (k1 + 1)))) (beK he be (k1)) nw tn th cd) hx hb hK hP hD hS 14 1 (f := (abK he ab (k1))) rfl rfl (j := k1 + 1) (by omega) (by decide) rfl dX4_layShares_107 (fun H locs hP hD hS => ?_)
                refine lv_aload_n hx hb dX4_layShares_108 rfl (lv_at hl 4 rfl) ?_
                refine va_get (D := D) (ci := 4) (v := .ref (a 15)) (C := RX4) (T := TX4) (N := 19) (Ts := wsX40) hx hb hin (fun _ h9 => h9) hown hK hP 0 rfl rfl 16 (by decide) (hts (.fieldLink RX4 53 "GroupbooksModel" "below" "[J") (by decide +kernel)) (fun _ h9 => h9) rfl dX4_layShares_109 ?_
                refine lv_iload_n hx hb dX4_layShares_112 rfl (lv_at hl 2 rfl) ?_
                refine lv_lload_n hx hb dX4_layShares_113 rfl (lv_at hl 3 rfl) ?_
                refine lv_lload hx hb dX4_layShares_114 (lv_at hl 0 rfl) ?_
                refine lv_ldiv hx hb dX4_layShares_116 (by_ne hB hW (by omega)) ?_
                refine b_last (w' := MW a cI cJ he cm ad gw as de eq re co av hi ke u_10 (vp_updL (abK he ab (k1)) (k1 + 1) ((dW he (k1 + 1)) / (byV he (k1 + 1)))) (vp_updL (beK he be (k1)) (k1 + 1) ((dW he (0)) / (byV he (k1 + 1)))) nw tn th cd) hx hb hK hP hD hS 15 1 (f := (beK he be (k1))) rfl rfl (j := k1 + 1) (by omega) (by decide) rfl dX4_layShares_117 (fun H locs hP hD hS => ?_)
                refine lv_iinc (v := nI (k1 + 1 + 1)) (lv' := [(3, .int (nI (k1 + 1 + 1))), (6, .long (byV he (k1 + 1))), (4, .long (dW he (k1 + 1))), (1, .long (dW he (0))), (0, .ref (a 0))]) hx hb dX4_layShares_118 hl (k := 2) rfl (nI_1 (k1 + 1)) (by decide) rfl (fun ls hl => ?_)
                refine lv_goto (tgt := 26) hx hb dX4_layShares_121 (by decide) ?_
                have e_16 : (abK he ab (k1 + 1)) = (vp_updL (abK he ab (k1)) (k1 + 1) ((dW he (k1 + 1)) / (byV he (k1 + 1)))) := by first | rfl | exact if_pos (by assumption) | exact if_neg (by assumption) | (simp only [n_7, n_8, n_13, n_14, n_15, Bool.false_eq_true, ↓reduceIte])
                have e_17 : (beK he be (k1 + 1)) = (vp_updL (beK he be (k1)) (k1 + 1) ((dW he (0)) / (byV he (k1 + 1)))) := by first | rfl | exact if_pos (by assumption) | exact if_neg (by assumption) | (simp only [n_7, n_8, n_13, n_14, n_15, Bool.false_eq_true, ↓reduceIte])
                exact ih1 (k1 + 1) u_10 (by omega) _ _ ls (by rw [e_16, e_17]; exact hP) (by rw [e_16, e_17]; exact hD) hS (lv_sub hl [0, 3, 4] rfl)
              · have n_15 : ¬ (0 ≤ dW he (0)) := fun h => c_15 ((lg_cmp_ge _ _).mpr h)
                refine lv_lload hx hb dX4_layShares_87 (lv_at hl 0 rfl) ?_
                refine lv_lneg hx hb dX4_layShares_89 ?_
                refine lv_goto (tgt := 95) hx hb dX4_layShares_90 (by decide) ?_
                refine b_tl (y := byV he (k1 + 1)) ((if_neg n_15).symm) ?_
                refine lv_lstore (lv' := [(6, .long (byV he (k1 + 1))), (4, .long (dW he (k1 + 1))), (3, .int (nI (k1 + 1))), (1, .long (dW he (0))), (0, .ref (a 0))]) hx hb dX4_layShares_95 hl (by decide) rfl (fun ls hl => ?_)
                refine lv_aload_n hx hb dX4_layShares_97 rfl (lv_at hl 4 rfl) ?_
                refine va_get (D := D) (ci := 4) (v := .ref (a 14)) (C := RX4) (T := TX4) (N := 19) (Ts := wsX40) hx hb hin (fun _ h9 => h9) hown hK hP 0 rfl rfl 15 (by decide) (hts (.fieldLink RX4 50 "GroupbooksModel" "above" "[J") (by decide +kernel)) (fun _ h9 => h9) rfl dX4_layShares_98 ?_
                refine lv_iload_n hx hb dX4_layShares_101 rfl (lv_at hl 2 rfl) ?_
                refine lv_lload hx hb dX4_layShares_102 (lv_at hl 1 rfl) ?_
                refine lv_lload hx hb dX4_layShares_104 (lv_at hl 0 rfl) ?_
                refine lv_ldiv hx hb dX4_layShares_106 (by_ne hB hW (by omega)) ?_
                refine b_last (w' := MW a cI cJ he cm ad gw as de eq re co av hi ke u_10 (vp_updL (abK he ab (k1)) (k1 + 1) ((dW he (k1 + 1)) / (byV he (k1 + 1)))) (beK he be (k1)) nw tn th cd) hx hb hK hP hD hS 14 1 (f := (abK he ab (k1))) rfl rfl (j := k1 + 1) (by omega) (by decide) rfl dX4_layShares_107 (fun H locs hP hD hS => ?_)
                refine lv_aload_n hx hb dX4_layShares_108 rfl (lv_at hl 4 rfl) ?_
                refine va_get (D := D) (ci := 4) (v := .ref (a 15)) (C := RX4) (T := TX4) (N := 19) (Ts := wsX40) hx hb hin (fun _ h9 => h9) hown hK hP 0 rfl rfl 16 (by decide) (hts (.fieldLink RX4 53 "GroupbooksModel" "below" "[J") (by decide +kernel)) (fun _ h9 => h9) rfl dX4_layShares_109 ?_
                refine lv_iload_n hx hb dX4_layShares_112 rfl (lv_at hl 2 rfl) ?_
                refine lv_lload_n hx hb dX4_layShares_113 rfl (lv_at hl 3 rfl) ?_
                refine lv_lload hx hb dX4_layShares_114 (lv_at hl 0 rfl) ?_
                refine lv_ldiv hx hb dX4_layShares_116 (by_ne hB hW (by omega)) ?_
                refine b_last (w' := MW a cI cJ he cm ad gw as de eq re co av hi ke u_10 (vp_updL (abK he ab (k1)) (k1 + 1) ((dW he (k1 + 1)) / (byV he (k1 + 1)))) (vp_updL (beK he be (k1)) (k1 + 1) ((dW he (0)) / (byV he (k1 + 1)))) nw tn th cd) hx hb hK hP hD hS 15 1 (f := (beK he be (k1))) rfl rfl (j := k1 + 1) (by omega) (by decide) rfl dX4_layShares_117 (fun H locs hP hD hS => ?_)
                refine lv_iinc (v := nI (k1 + 1 + 1)) (lv' := [(3, .int (nI (k1 + 1 + 1))), (6, .long (byV he (k1 + 1))), (4, .long (dW he (k1 + 1))), (1, .long (dW he (0))), (0, .ref (a 0))]) hx hb dX4_layShares_118 hl (k := 2) rfl (nI_1 (k1 + 1)) (by decide) rfl (fun ls hl => ?_)
                refine lv_goto (tgt := 26) hx hb dX4_layShares_121 (by decide) ?_
                have e_18 : (abK he ab (k1 + 1)) = (vp_updL (abK he ab (k1)) (k1 + 1) ((dW he (k1 + 1)) / (byV he (k1 + 1)))) := by first | rfl | exact if_pos (by assumption) | exact if_neg (by assumption) | (simp only [n_7, n_8, n_13, n_14, n_15, Bool.false_eq_true, ↓reduceIte])
                have e_19 : (beK he be (k1 + 1)) = (vp_updL (beK he be (k1)) (k1 + 1) ((dW he (0)) / (byV he (k1 + 1)))) := by first | rfl | exact if_pos (by assumption) | exact if_neg (by assumption) | (simp only [n_7, n_8, n_13, n_14, n_15, Bool.false_eq_true, ↓reduceIte])
                exact ih1 (k1 + 1) u_10 (by omega) _ _ ls (by rw [e_18, e_19]; exact hP) (by rw [e_18, e_19]; exact hD) hS (lv_sub hl [0, 3, 4] rfl)
            · have n_14 : ¬ (0 ≤ dW he (0)) := fun h => c_14 ((lg_cmp_ge _ _).mpr h)
              refine lv_lload_n hx hb dX4_layShares_70 rfl (lv_at hl 2 rfl) ?_
              refine lv_lneg hx hb dX4_layShares_71 ?_
              refine lv_goto (tgt := 76) hx hb dX4_layShares_72 (by decide) ?_
              refine b_tl (y := lN ((dW he (0)).toInt.natAbs)) (absN_neg n_14 (hB (0) (by omega)).1) ?_
              refine b_csl (v := lN (Nat.gcd ((dW he (k1 + 1)).toInt.natAbs) ((dW he (0)).toInt.natAbs))) (W.runS (As := [.long (lN ((dW he (k1 + 1)).toInt.natAbs)), .long (lN ((dW he (0)).toInt.natAbs))]) (rest := []) ⟨hx, hb, hml, hown, hts⟩ (c_X4_common ll ((dW he (k1 + 1)).toInt.natAbs) ((dW he (0)).toInt.natAbs) (abs_lt hB (by omega)) (abs_lt hB (by omega))) (va_cwS 2 hts gX4_layShares_X4_common rfl rfl rfl (by decide +kernel) ⟨Nat.le_of_ble_eq_true rfl, Nat.le_of_ble_eq_true rfl⟩) ⟨PT.blind, PT.to⟩ rfl rfl hl.1 rfl (lv_room (Nat.le_of_ble_eq_true rfl)) dX4_layShares_76 ⟨Nat.le_of_ble_eq_true rfl, Nat.le_of_ble_eq_true rfl⟩) ?_
              refine lv_lstore (lv' := [(6, .long (lN (Nat.gcd ((dW he (k1 + 1)).toInt.natAbs) ((dW he (0)).toInt.natAbs)))), (4, .long (dW he (k1 + 1))), (3, .int (nI (k1 + 1))), (1, .long (dW he (0))), (0, .ref (a 0))]) hx hb dX4_layShares_79 hl (by decide) rfl (fun ls hl => ?_)
              refine lv_lload_n hx hb dX4_layShares_81 rfl (lv_at hl 3 rfl) ?_
              refine lv_lconst (v := 0) hx hb dX4_layShares_82 (by decide) ?_
              refine W.lcmp hx hb dX4_layShares_83 ?_
              refine lv_if_ge (tgt := 93) hx hb dX4_layShares_84 (by decide) (fun c_20 => ?_) (fun c_20 => ?_)
              · have n_20 : 0 ≤ dW he (0) := (lg_cmp_ge _ _).mp c_20
                refine lv_lload hx hb dX4_layShares_93 (lv_at hl 0 rfl) ?_
                refine b_tl (y := byV he (k1 + 1)) ((if_pos n_20).symm) ?_
                refine lv_lstore (lv' := [(6, .long (byV he (k1 + 1))), (4, .long (dW he (k1 + 1))), (3, .int (nI (k1 + 1))), (1, .long (dW he (0))), (0, .ref (a 0))]) hx hb dX4_layShares_95 hl (by decide) rfl (fun ls hl => ?_)
                refine lv_aload_n hx hb dX4_layShares_97 rfl (lv_at hl 4 rfl) ?_
                refine va_get (D := D) (ci := 4) (v := .ref (a 14)) (C := RX4) (T := TX4) (N := 19) (Ts := wsX40) hx hb hin (fun _ h9 => h9) hown hK hP 0 rfl rfl 15 (by decide) (hts (.fieldLink RX4 50 "GroupbooksModel" "above" "[J") (by decide +kernel)) (fun _ h9 => h9) rfl dX4_layShares_98 ?_
                refine lv_iload_n hx hb dX4_layShares_101 rfl (lv_at hl 2 rfl) ?_
                refine lv_lload hx hb dX4_layShares_102 (lv_at hl 1 rfl) ?_
                refine lv_lload hx hb dX4_layShares_104 (lv_at hl 0 rfl) ?_
                refine lv_ldiv hx hb dX4_layShares_106 (by_ne hB hW (by omega)) ?_
                refine b_last (w' := MW a cI cJ he cm ad gw as de eq re co av hi ke u_10 (vp_updL (abK he ab (k1)) (k1 + 1) ((dW he (k1 + 1)) / (byV he (k1 + 1)))) (beK he be (k1)) nw tn th cd) hx hb hK hP hD hS 14 1 (f := (abK he ab (k1))) rfl rfl (j := k1 + 1) (by omega) (by decide) rfl dX4_layShares_107 (fun H locs hP hD hS => ?_)
                refine lv_aload_n hx hb dX4_layShares_108 rfl (lv_at hl 4 rfl) ?_
                refine va_get (D := D) (ci := 4) (v := .ref (a 15)) (C := RX4) (T := TX4) (N := 19) (Ts := wsX40) hx hb hin (fun _ h9 => h9) hown hK hP 0 rfl rfl 16 (by decide) (hts (.fieldLink RX4 53 "GroupbooksModel" "below" "[J") (by decide +kernel)) (fun _ h9 => h9) rfl dX4_layShares_109 ?_
                refine lv_iload_n hx hb dX4_layShares_112 rfl (lv_at hl 2 rfl) ?_
                refine lv_lload_n hx hb dX4_layShares_113 rfl (lv_at hl 3 rfl) ?_
                refine lv_lload hx hb dX4_layShares_114 (lv_at hl 0 rfl) ?_
                refine lv_ldiv hx hb dX4_layShares_116 (by_ne hB hW (by omega)) ?_
                refine b_last (w' := MW a cI cJ he cm ad gw as de eq re co av hi ke u_10 (vp_updL (abK he ab (k1)) (k1 + 1) ((dW he (k1 + 1)) / (byV he (k1 + 1)))) (vp_updL (beK he be (k1)) (k1 + 1) ((dW he (0)) / (byV he (k1 + 1)))) nw tn th cd) hx hb hK hP hD hS 15 1 (f := (beK he be (k1))) rfl rfl (j := k1 + 1) (by omega) (by decide) rfl dX4_layShares_117 (fun H locs hP hD hS => ?_)
                refine lv_iinc (v := nI (k1 + 1 + 1)) (lv' := [(3, .int (nI (k1 + 1 + 1))), (6, .long (byV he (k1 + 1))), (4, .long (dW he (k1 + 1))), (1, .long (dW he (0))), (0, .ref (a 0))]) hx hb dX4_layShares_118 hl (k := 2) rfl (nI_1 (k1 + 1)) (by decide) rfl (fun ls hl => ?_)
                refine lv_goto (tgt := 26) hx hb dX4_layShares_121 (by decide) ?_
                have e_21 : (abK he ab (k1 + 1)) = (vp_updL (abK he ab (k1)) (k1 + 1) ((dW he (k1 + 1)) / (byV he (k1 + 1)))) := by first | rfl | exact if_pos (by assumption) | exact if_neg (by assumption) | (simp only [n_7, n_8, n_13, n_14, n_20, Bool.false_eq_true, ↓reduceIte])
                have e_22 : (beK he be (k1 + 1)) = (vp_updL (beK he be (k1)) (k1 + 1) ((dW he (0)) / (byV he (k1 + 1)))) := by first | rfl | exact if_pos (by assumption) | exact if_neg (by assumption) | (simp only [n_7, n_8, n_13, n_14, n_20, Bool.false_eq_true, ↓reduceIte])
                exact ih1 (k1 + 1) u_10 (by omega) _ _ ls (by rw [e_21, e_22]; exact hP) (by rw [e_21, e_22]; exact hD) hS (lv_sub hl [0, 3, 4] rfl)
              · have n_20 : ¬ (0 ≤ dW he (0)) := fun h => c_20 ((lg_cmp_ge _ _).mpr h)
                refine lv_lload hx hb dX4_layShares_87 (lv_at hl 0 rfl) ?_
                refine lv_lneg hx hb dX4_layShares_89 ?_
                refine lv_goto (tgt := 95) hx hb dX4_layShares_90 (by decide) ?_
                refine b_tl (y := byV he (k1 + 1)) ((if_neg n_20).symm) ?_
                refine lv_lstore (lv' := [(6, .long (byV he (k1 + 1))), (4, .long (dW he (k1 + 1))), (3, .int (nI (k1 + 1))), (1, .long (dW he (0))), (0, .ref (a 0))]) hx hb dX4_layShares_95 hl (by decide) rfl (fun ls hl => ?_)
                refine lv_aload_n hx hb dX4_layShares_97 rfl (lv_at hl 4 rfl) ?_
                refine va_get (D := D) (ci := 4) (v := .ref (a 14)) (C := RX4) (T := TX4) (N := 19) (Ts := wsX40) hx hb hin (fun _ h9 => h9) hown hK hP 0 rfl rfl 15 (by decide) (hts (.fieldLink RX4 50 "GroupbooksModel" "above" "[J") (by decide +kernel)) (fun _ h9 => h9) rfl dX4_layShares_98 ?_
                refine lv_iload_n hx hb dX4_layShares_101 rfl (lv_at hl 2 rfl) ?_
                refine lv_lload hx hb dX4_layShares_102 (lv_at hl 1 rfl) ?_
                refine lv_lload hx hb dX4_layShares_104 (lv_at hl 0 rfl) ?_
                refine lv_ldiv hx hb dX4_layShares_106 (by_ne hB hW (by omega)) ?_
                refine b_last (w' := MW a cI cJ he cm ad gw as de eq re co av hi ke u_10 (vp_updL (abK he ab (k1)) (k1 + 1) ((dW he (k1 + 1)) / (byV he (k1 + 1)))) (beK he be (k1)) nw tn th cd) hx hb hK hP hD hS 14 1 (f := (abK he ab (k1))) rfl rfl (j := k1 + 1) (by omega) (by decide) rfl dX4_layShares_107 (fun H locs hP hD hS => ?_)
                refine lv_aload_n hx hb dX4_layShares_108 rfl (lv_at hl 4 rfl) ?_
                refine va_get (D := D) (ci := 4) (v := .ref (a 15)) (C := RX4) (T := TX4) (N := 19) (Ts := wsX40) hx hb hin (fun _ h9 => h9) hown hK hP 0 rfl rfl 16 (by decide) (hts (.fieldLink RX4 53 "GroupbooksModel" "below" "[J") (by decide +kernel)) (fun _ h9 => h9) rfl dX4_layShares_109 ?_
                refine lv_iload_n hx hb dX4_layShares_112 rfl (lv_at hl 2 rfl) ?_
                refine lv_lload_n hx hb dX4_layShares_113 rfl (lv_at hl 3 rfl) ?_
                refine lv_lload hx hb dX4_layShares_114 (lv_at hl 0 rfl) ?_
                refine lv_ldiv hx hb dX4_layShares_116 (by_ne hB hW (by omega)) ?_
                refine b_last (w' := MW a cI cJ he cm ad gw as de eq re co av hi ke u_10 (vp_updL (abK he ab (k1)) (k1 + 1) ((dW he (k1 + 1)) / (byV he (k1 + 1)))) (vp_updL (beK he be (k1)) (k1 + 1) ((dW he (0)) / (byV he (k1 + 1)))) nw tn th cd) hx hb hK hP hD hS 15 1 (f := (beK he be (k1))) rfl rfl (j := k1 + 1) (by omega) (by decide) rfl dX4_layShares_117 (fun H locs hP hD hS => ?_)
                refine lv_iinc (v := nI (k1 + 1 + 1)) (lv' := [(3, .int (nI (k1 + 1 + 1))), (6, .long (byV he (k1 + 1))), (4, .long (dW he (k1 + 1))), (1, .long (dW he (0))), (0, .ref (a 0))]) hx hb dX4_layShares_118 hl (k := 2) rfl (nI_1 (k1 + 1)) (by decide) rfl (fun ls hl => ?_)
                refine lv_goto (tgt := 26) hx hb dX4_layShares_121 (by decide) ?_
                have e_23 : (abK he ab (k1 + 1)) = (vp_updL (abK he ab (k1)) (k1 + 1) ((dW he (k1 + 1)) / (byV he (k1 + 1)))) := by first | rfl | exact if_pos (by assumption) | exact if_neg (by assumption) | (simp only [n_7, n_8, n_13, n_14, n_20, Bool.false_eq_true, ↓reduceIte])
                have e_24 : (beK he be (k1 + 1)) = (vp_updL (beK he be (k1)) (k1 + 1) ((dW he (0)) / (byV he (k1 + 1)))) := by first | rfl | exact if_pos (by assumption) | exact if_neg (by assumption) | (simp only [n_7, n_8, n_13, n_14, n_20, Bool.false_eq_true, ↓reduceIte])
                exact ih1 (k1 + 1) u_10 (by omega) _ _ ls (by rw [e_23, e_24]; exact hP) (by rw [e_23, e_24]; exact hD) hS (lv_sub hl [0, 3, 4] rfl)
          · have n_13 : ¬ (0 ≤ dW he (k1 + 1)) := fun h => c_13 ((lg_cmp_ge _ _).mpr h)
            refine lv_lload hx hb dX4_layShares_56 (lv_at hl 0 rfl) ?_
            refine lv_lneg hx hb dX4_layShares_58 ?_
            refine lv_goto (tgt := 64) hx hb dX4_layShares_59 (by decide) ?_
            refine b_tl (y := lN ((dW he (k1 + 1)).toInt.natAbs)) (absN_neg n_13 (hB (k1 + 1) (by omega)).1) ?_
            refine lv_lload_n hx hb dX4_layShares_64 rfl (lv_at hl 2 rfl) ?_
            refine lv_lconst (v := 0) hx hb dX4_layShares_65 (by decide) ?_
            refine W.lcmp hx hb dX4_layShares_66 ?_
            refine lv_if_ge (tgt := 75) hx hb dX4_layShares_67 (by decide) (fun c_25 => ?_) (fun c_25 => ?_)
            · have n_25 : 0 ≤ dW he (0) := (lg_cmp_ge _ _).mp c_25
              refine lv_lload_n hx hb dX4_layShares_75 rfl (lv_at hl 2 rfl) ?_
              refine b_tl (y := lN ((dW he (0)).toInt.natAbs)) (absN_pos n_25) ?_
              refine b_csl (v := lN (Nat.gcd ((dW he (k1 + 1)).toInt.natAbs) ((dW he (0)).toInt.natAbs))) (W.runS (As := [.long (lN ((dW he (k1 + 1)).toInt.natAbs)), .long (lN ((dW he (0)).toInt.natAbs))]) (rest := []) ⟨hx, hb, hml, hown, hts⟩ (c_X4_common ll ((dW he (k1 + 1)).toInt.natAbs) ((dW he (0)).toInt.natAbs) (abs_lt hB (by omega)) (abs_lt hB (by omega))) (va_cwS 2 hts gX4_layShares_X4_common rfl rfl rfl (by decide +kernel) ⟨Nat.le_of_ble_eq_true rfl, Nat.le_of_ble_eq_true rfl⟩) ⟨PT.blind, PT.to⟩ rfl rfl hl.1 rfl (lv_room (Nat.le_of_ble_eq_true rfl)) dX4_layShares_76 ⟨Nat.le_of_ble_eq_true rfl, Nat.le_of_ble_eq_true rfl⟩) ?_
              refine lv_lstore (lv' := [(6, .long (lN (Nat.gcd ((dW he (k1 + 1)).toInt.natAbs) ((dW he (0)).toInt.natAbs)))), (4, .long (dW he (k1 + 1))), (3, .int (nI (k1 + 1))), (1, .long (dW he (0))), (0, .ref (a 0))]) hx hb dX4_layShares_79 hl (by decide) rfl (fun ls hl => ?_)
              refine lv_lload_n hx hb dX4_layShares_81 rfl (lv_at hl 3 rfl) ?_
              refine lv_lconst (v := 0) hx hb dX4_layShares_82 (by decide) ?_
              refine W.lcmp hx hb dX4_layShares_83 ?_
              refine lv_if_ge (tgt := 93) hx hb dX4_layShares_84 (by decide) (fun c_26 => ?_) (fun c_26 => ?_)
              · have n_26 : 0 ≤ dW he (0) := (lg_cmp_ge _ _).mp c_26
                refine lv_lload hx hb dX4_layShares_93 (lv_at hl 0 rfl) ?_
                refine b_tl (y := byV he (k1 + 1)) ((if_pos n_26).symm) ?_
                refine lv_lstore (lv' := [(6, .long (byV he (k1 + 1))), (4, .long (dW he (k1 + 1))), (3, .int (nI (k1 + 1))), (1, .long (dW he (0))), (0, .ref (a 0))]) hx hb dX4_layShares_95 hl (by decide) rfl (fun ls hl => ?_)
                refine lv_aload_n hx hb dX4_layShares_97 rfl (lv_at hl 4 rfl) ?_
                refine va_get (D := D) (ci := 4) (v := .ref (a 14)) (C := RX4) (T := TX4) (N := 19) (Ts := wsX40) hx hb hin (fun _ h9 => h9) hown hK hP 0 rfl rfl 15 (by decide) (hts (.fieldLink RX4 50 "GroupbooksModel" "above" "[J") (by decide +kernel)) (fun _ h9 => h9) rfl dX4_layShares_98 ?_
                refine lv_iload_n hx hb dX4_layShares_101 rfl (lv_at hl 2 rfl) ?_
                refine lv_lload hx hb dX4_layShares_102 (lv_at hl 1 rfl) ?_
                refine lv_lload hx hb dX4_layShares_104 (lv_at hl 0 rfl) ?_
                refine lv_ldiv hx hb dX4_layShares_106 (by_ne hB hW (by omega)) ?_
                refine b_last (w' := MW a cI cJ he cm ad gw as de eq re co av hi ke u_10 (vp_updL (abK he ab (k1)) (k1 + 1) ((dW he (k1 + 1)) / (byV he (k1 + 1)))) (beK he be (k1)) nw tn th cd) hx hb hK hP hD hS 14 1 (f := (abK he ab (k1))) rfl rfl (j := k1 + 1) (by omega) (by decide) rfl dX4_layShares_107 (fun H locs hP hD hS => ?_)
                refine lv_aload_n hx hb dX4_layShares_108 rfl (lv_at hl 4 rfl) ?_
                refine va_get (D := D) (ci := 4) (v := .ref (a 15)) (C := RX4) (T := TX4) (N := 19) (Ts := wsX40) hx hb hin (fun _ h9 => h9) hown hK hP 0 rfl rfl 16 (by decide) (hts (.fieldLink RX4 53 "GroupbooksModel" "below" "[J") (by decide +kernel)) (fun _ h9 => h9) rfl dX4_layShares_109 ?_
                refine lv_iload_n hx hb dX4_layShares_112 rfl (lv_at hl 2 rfl) ?_
                refine lv_lload_n hx hb dX4_layShares_113 rfl (lv_at hl 3 rfl) ?_
                refine lv_lload hx hb dX4_layShares_114 (lv_at hl 0 rfl) ?_
                refine lv_ldiv hx hb dX4_layShares_116 (by_ne hB hW (by omega)) ?_
                refine b_last (w' := MW a cI cJ he cm ad gw as de eq re co av hi ke u_10 (vp_updL (abK he ab (k1)) (k1 + 1) ((dW he (k1 + 1)) / (byV he (k1 + 1)))) (vp_updL (beK he be (k1)) (k1 + 1) ((dW he (0)) / (byV he (k1 + 1)))) nw tn th cd) hx hb hK hP hD hS 15 1 (f := (beK he be (k1))) rfl rfl (j := k1 + 1) (by omega) (by decide) rfl dX4_layShares_117 (fun H locs hP hD hS => ?_)
                refine lv_iinc (v := nI (k1 + 1 + 1)) (lv' := [(3, .int (nI (k1 + 1 + 1))), (6, .long (byV he (k1 + 1))), (4, .long (dW he (k1 + 1))), (1, .long (dW he (0))), (0, .ref (a 0))]) hx hb dX4_layShares_118 hl (k := 2) rfl (nI_1 (k1 + 1)) (by decide) rfl (fun ls hl => ?_)
                refine lv_goto (tgt := 26) hx hb dX4_layShares_121 (by decide) ?_
                have e_27 : (abK he ab (k1 + 1)) = (vp_updL (abK he ab (k1)) (k1 + 1) ((dW he (k1 + 1)) / (byV he (k1 + 1)))) := by first | rfl | exact if_pos (by assumption) | exact if_neg (by assumption) | (simp only [n_7, n_8, n_13, n_25, n_26, Bool.false_eq_true, ↓reduceIte])
                have e_28 : (beK he be (k1 + 1)) = (vp_updL (beK he be (k1)) (k1 + 1) ((dW he (0)) / (byV he (k1 + 1)))) := by first | rfl | exact if_pos (by assumption) | exact if_neg (by assumption) | (simp only [n_7, n_8, n_13, n_25, n_26, Bool.false_eq_true, ↓reduceIte])
                exact ih1 (k1 + 1) u_10 (by omega) _ _ ls (by rw [e_27, e_28]; exact hP) (by rw [e_27, e_28]; exact hD) hS (lv_sub hl [0, 3, 4] rfl)
              · have n_26 : ¬ (0 ≤ dW he (0)) := fun h => c_26 ((lg_cmp_ge _ _).mpr h)
                refine lv_lload hx hb dX4_layShares_87 (lv_at hl 0 rfl) ?_
                refine lv_lneg hx hb dX4_layShares_89 ?_
                refine lv_goto (tgt := 95) hx hb dX4_layShares_90 (by decide) ?_
                refine b_tl (y := byV he (k1 + 1)) ((if_neg n_26).symm) ?_
                refine lv_lstore (lv' := [(6, .long (byV he (k1 + 1))), (4, .long (dW he (k1 + 1))), (3, .int (nI (k1 + 1))), (1, .long (dW he (0))), (0, .ref (a 0))]) hx hb dX4_layShares_95 hl (by decide) rfl (fun ls hl => ?_)
                refine lv_aload_n hx hb dX4_layShares_97 rfl (lv_at hl 4 rfl) ?_
                refine va_get (D := D) (ci := 4) (v := .ref (a 14)) (C := RX4) (T := TX4) (N := 19) (Ts := wsX40) hx hb hin (fun _ h9 => h9) hown hK hP 0 rfl rfl 15 (by decide) (hts (.fieldLink RX4 50 "GroupbooksModel" "above" "[J") (by decide +kernel)) (fun _ h9 => h9) rfl dX4_layShares_98 ?_
                refine lv_iload_n hx hb dX4_layShares_101 rfl (lv_at hl 2 rfl) ?_
                refine lv_lload hx hb dX4_layShares_102 (lv_at hl 1 rfl) ?_
                refine lv_lload hx hb dX4_layShares_104 (lv_at hl 0 rfl) ?_
                refine lv_ldiv hx hb dX4_layShares_106 (by_ne hB hW (by omega)) ?_
                refine b_last (w' := MW a cI cJ he cm ad gw as de eq re co av hi ke u_10 (vp_updL (abK he ab (k1)) (k1 + 1) ((dW he (k1 + 1)) / (byV he (k1 + 1)))) (beK he be (k1)) nw tn th cd) hx hb hK hP hD hS 14 1 (f := (abK he ab (k1))) rfl rfl (j := k1 + 1) (by omega) (by decide) rfl dX4_layShares_107 (fun H locs hP hD hS => ?_)
                refine lv_aload_n hx hb dX4_layShares_108 rfl (lv_at hl 4 rfl) ?_
                refine va_get (D := D) (ci := 4) (v := .ref (a 15)) (C := RX4) (T := TX4) (N := 19) (Ts := wsX40) hx hb hin (fun _ h9 => h9) hown hK hP 0 rfl rfl 16 (by decide) (hts (.fieldLink RX4 53 "GroupbooksModel" "below" "[J") (by decide +kernel)) (fun _ h9 => h9) rfl dX4_layShares_109 ?_
                refine lv_iload_n hx hb dX4_layShares_112 rfl (lv_at hl 2 rfl) ?_
                refine lv_lload_n hx hb dX4_layShares_113 rfl (lv_at hl 3 rfl) ?_
                refine lv_lload hx hb dX4_layShares_114 (lv_at hl 0 rfl) ?_
                refine lv_ldiv hx hb dX4_layShares_116 (by_ne hB hW (by omega)) ?_
                refine b_last (w' := MW a cI cJ he cm ad gw as de eq re co av hi ke u_10 (vp_updL (abK he ab (k1)) (k1 + 1) ((dW he (k1 + 1)) / (byV he (k1 + 1)))) (vp_updL (beK he be (k1)) (k1 + 1) ((dW he (0)) / (byV he (k1 + 1)))) nw tn th cd) hx hb hK hP hD hS 15 1 (f := (beK he be (k1))) rfl rfl (j := k1 + 1) (by omega) (by decide) rfl dX4_layShares_117 (fun H locs hP hD hS => ?_)
                refine lv_iinc (v := nI (k1 + 1 + 1)) (lv' := [(3, .int (nI (k1 + 1 + 1))), (6, .long (byV he (k1 + 1))), (4, .long (dW he (k1 + 1))), (1, .long (dW he (0))), (0, .ref (a 0))]) hx hb dX4_layShares_118 hl (k := 2) rfl (nI_1 (k1 + 1)) (by decide) rfl (fun ls hl => ?_)
                refine lv_goto (tgt := 26) hx hb dX4_layShares_121 (by decide) ?_
                have e_29 : (abK he ab (k1 + 1)) = (vp_updL (abK he ab (k1)) (k1 + 1) ((dW he (k1 + 1)) / (byV he (k1 + 1)))) := by first | rfl | exact if_pos (by assumption) | exact if_neg (by assumption) | (simp only [n_7, n_8, n_13, n_25, n_26, Bool.false_eq_true, ↓reduceIte])
                have e_30 : (beK he be (k1 + 1)) = (vp_updL (beK he be (k1)) (k1 + 1) ((dW he (0)) / (byV he (k1 + 1)))) := by first | rfl | exact if_pos (by assumption) | exact if_neg (by assumption) | (simp only [n_7, n_8, n_13, n_25, n_26, Bool.false_eq_true, ↓reduceIte])
                exact ih1 (k1 + 1) u_10 (by omega) _ _ ls (by rw [e_29, e_30]; exact hP) (by rw [e_29, e_30]; exact hD) hS (lv_sub hl [0, 3, 4] rfl)
            · have n_25 : ¬ (0 ≤ dW he (0)) := fun h => c_25 ((lg_cmp_ge _ _).mpr h)
              refine lv_lload_n hx hb dX4_layShares_70 rfl (lv_at hl 2 rfl) ?_
              refine lv_lneg hx hb dX4_layShares_71 ?_
              refine lv_goto (tgt := 76) hx hb dX4_layShares_72 (by decide) ?_
              refine b_tl (y := lN ((dW he (0)).toInt.natAbs)) (absN_neg n_25 (hB (0) (by omega)).1) ?_
              refine b_csl (v := lN (Nat.gcd ((dW he (k1 + 1)).toInt.natAbs) ((dW he (0)).toInt.natAbs))) (W.runS (As := [.long (lN ((dW he (k1 + 1)).toInt.natAbs)), .long (lN ((dW he (0)).toInt.natAbs))]) (rest := []) ⟨hx, hb, hml, hown, hts⟩ (c_X4_common ll ((dW he (k1 + 1)).toInt.natAbs) ((dW he (0)).toInt.natAbs) (abs_lt hB (by omega)) (abs_lt hB (by omega))) (va_cwS 2 hts gX4_layShares_X4_common rfl rfl rfl (by decide +kernel) ⟨Nat.le_of_ble_eq_true rfl, Nat.le_of_ble_eq_true rfl⟩) ⟨PT.blind, PT.to⟩ rfl rfl hl.1 rfl (lv_room (Nat.le_of_ble_eq_true rfl)) dX4_layShares_76 ⟨Nat.le_of_ble_eq_true rfl, Nat.le_of_ble_eq_true rfl⟩) ?_
              refine lv_lstore (lv' := [(6, .long (lN (Nat.gcd ((dW he (k1 + 1)).toInt.natAbs) ((dW he (0)).toInt.natAbs)))), (4, .long (dW he (k1 + 1))), (3, .int (nI (k1 + 1))), (1, .long (dW he (0))), (0, .ref (a 0))]) hx hb dX4_layShares_79 hl (by decide) rfl (fun ls hl => ?_)
              refine lv_lload_n hx hb dX4_layShares_81 rfl (lv_at hl 3 rfl) ?_
              refine lv_lconst (v := 0) hx hb dX4_layShares_82 (by decide) ?_
              refine W.lcmp hx hb dX4_layShares_83 ?_
              refine lv_if_ge (tgt := 93) hx hb dX4_layShares_84 (by decide) (fun c_31 => ?_) (fun c_31 => ?_)
              · have n_31 : 0 ≤ dW he (0) := (lg_cmp_ge _ _).mp c_31
                refine lv_lload hx hb dX4_layShares_93 (lv_at hl 0 rfl) ?_
                refine b_tl (y := byV he (k1 + 1)) ((if_pos n_31).symm) ?_
                refine lv_lstore (lv' := [(6, .long (byV he (k1 + 1))), (4, .long (dW he (k1 + 1))), (3, .int (nI (k1 + 1))), (1, .long (dW he (0))), (0, .ref (a 0))]) hx hb dX4_layShares_95 hl (by decide) rfl (fun ls hl => ?_)
                refine lv_aload_n hx hb dX4_layShares_97 rfl (lv_at hl 4 rfl) ?_
                refine va_get (D := D) (ci := 4) (v := .ref (a 14)) (C := RX4) (T := TX4) (N := 19) (Ts := wsX40) hx hb hin (fun _ h9 => h9) hown hK hP 0 rfl rfl 15 (by decide) (hts (.fieldLink RX4 50 "GroupbooksModel" "above" "[J") (by decide +kernel)) (fun _ h9 => h9) rfl dX4_layShares_98 ?_
                refine lv_iload_n hx hb dX4_layShares_101 rfl (lv_at hl 2 rfl) ?_
                refine lv_lload hx hb dX4_layShares_102 (lv_at hl 1 rfl) ?_
                refine lv_lload hx hb dX4_layShares_104 (lv_at hl 0 rfl) ?_
                refine lv_ldiv hx hb dX4_layShares_106 (by_ne hB hW (by omega)) ?_
                refine b_last (w' := MW a cI cJ he cm ad gw as de eq re co av hi ke u_10 (vp_updL (abK he ab (k1)) (k1 + 1) ((dW he (k1 + 1)) / (byV he (k1 + 1)))) (beK he be (k1)) nw tn th cd) hx hb hK hP hD hS 14 1 (f := (abK he ab (k1))) rfl rfl (j := k1 + 1) (by omega) (by decide) rfl dX4_layShares_107 (fun H locs hP hD hS => ?_)
                refine lv_aload_n hx hb dX4_layShares_108 rfl (lv_at hl 4 rfl) ?_
                refine va_get (D := D) (ci := 4) (v := .ref (a 15)) (C := RX4) (T := TX4) (N := 19) (Ts := wsX40) hx hb hin (fun _ h9 => h9) hown hK hP 0 rfl rfl 16 (by decide) (hts (.fieldLink RX4 53 "GroupbooksModel" "below" "[J") (by decide +kernel)) (fun _ h9 => h9) rfl dX4_layShares_109 ?_
                refine lv_iload_n hx hb dX4_layShares_112 rfl (lv_at hl 2 rfl) ?_
                refine lv_lload_n hx hb dX4_layShares_113 rfl (lv_at hl 3 rfl) ?_
                refine lv_lload hx hb dX4_layShares_114 (lv_at hl 0 rfl) ?_
                refine lv_ldiv hx hb dX4_layShares_116 (by_ne hB hW (by omega)) ?_
                refine b_last (w' := MW a cI cJ he cm ad gw as de eq re co av hi ke u_10 (vp_updL (abK he ab (k1)) (k1 + 1) ((dW he (k1 + 1)) / (byV he (k1 + 1)))) (vp_updL (beK he be (k1)) (k1 + 1) ((dW he (0)) / (byV he (k1 + 1)))) nw tn th cd) hx hb hK hP hD hS 15 1 (f := (beK he be (k1))) rfl rfl (j := k1 + 1) (by omega) (by decide) rfl dX4_layShares_117 (fun H locs hP hD hS => ?_)
                refine lv_iinc (v := nI (k1 + 1 + 1)) (lv' := [(3, .int (nI (k1 + 1 + 1))), (6, .long (byV he (k1 + 1))), (4, .long (dW he (k1 + 1))), (1, .long (dW he (0))), (0, .ref (a 0))]) hx hb dX4_layShares_118 hl (k := 2) rfl (nI_1 (k1 + 1)) (by decide) rfl (fun ls hl => ?_)
                refine lv_goto (tgt := 26) hx hb dX4_layShares_121 (by decide) ?_
                have e_32 : (abK he ab (k1 + 1)) = (vp_updL (abK he ab (k1)) (k1 + 1) ((dW he (k1 + 1)) / (byV he (k1 + 1)))) := by first | rfl | exact if_pos (by assumption) | exact if_neg (by assumption) | (simp only [n_7, n_8, n_13, n_25, n_31, Bool.false_eq_true, ↓reduceIte])
                have e_33 : (beK he be (k1 + 1)) = (vp_updL (beK he be (k1)) (k1 + 1) ((dW he (0)) / (byV he (k1 + 1)))) := by first | rfl | exact if_pos (by assumption) | exact if_neg (by assumption) | (simp only [n_7, n_8, n_13, n_25, n_31, Bool.false_eq_true, ↓reduceIte])
                exact ih1 (k1 + 1) u_10 (by omega) _ _ ls (by rw [e_32, e_33]; exact hP) (by rw [e_32, e_33]; exact hD) hS (lv_sub hl [0, 3, 4] rfl)
              · have n_31 : ¬ (0 ≤ dW he (0)) := fun h => c_31 ((lg_cmp_ge _ _).mpr h)
                refine lv_lload hx hb dX4_layShares_87 (lv_at hl 0 rfl) ?_
                refine lv_lneg hx hb dX4_layShares_89 ?_
                refine lv_goto (tgt := 95) hx hb dX4_layShares_90 (by decide) ?_
                refine b_tl (y := byV he (k1 + 1)) ((if_neg n_31).symm) ?_
                refine lv_lstore (lv' := [(6, .long (byV he (k1 + 1))), (4, .long (dW he (k1 + 1))), (3, .int (nI (k1 + 1))), (1, .long (dW he (0))), (0, .ref (a 0))]) hx hb dX4_layShares_95 hl (by decide) rfl (fun ls hl => ?_)
                refine lv_aload_n hx hb dX4_layShares_97 rfl (lv_at hl 4 rfl) ?_
                refine va_get (D := D) (ci := 4) (v := .ref (a 14)) (C := RX4) (T := TX4) (N := 19) (Ts := wsX40) hx hb hin (fun _ h9 => h9) hown hK hP 0 rfl rfl 15 (by decide) (hts (.fieldLink RX4 50 "GroupbooksModel" "above" "[J") (by decide +kernel)) (fun _ h9 => h9) rfl dX4_layShares_98 ?_
                refine lv_iload_n hx hb dX4_layShares_101 rfl (lv_at hl 2 rfl) ?_
                refine lv_lload hx hb dX4_layShares_102 (lv_at hl 1 rfl) ?_
                refine lv_lload hx hb dX4_layShares_104 (lv_at hl 0 rfl) ?_
                refine lv_ldiv hx hb dX4_layShares_106 (by_ne hB hW (by omega)) ?_
                refine b_last (w' := MW a cI cJ he cm ad gw as de eq re co av hi ke u_10 (vp_updL (abK he ab (k1)) (k1 + 1) ((dW he (k1 + 1)) / (byV he (k1 + 1)))) (beK he be (k1)) nw tn th cd) hx hb hK hP hD hS 14 1 (f := (abK he ab (k1))) rfl rfl (j := k1 + 1) (by omega) (by decide) rfl dX4_layShares_107 (fun H locs hP hD hS => ?_)
                refine lv_aload_n hx hb dX4_layShares_108 rfl (lv_at hl 4 rfl) ?_
                refine va_get (D := D) (ci := 4) (v := .ref (a 15)) (C := RX4) (T := TX4) (N := 19) (Ts := wsX40) hx hb hin (fun _ h9 => h9) hown hK hP 0 rfl rfl 16 (by decide) (hts (.fieldLink RX4 53 "GroupbooksModel" "below" "[J") (by decide +kernel)) (fun _ h9 => h9) rfl dX4_layShares_109 ?_
                refine lv_iload_n hx hb dX4_layShares_112 rfl (lv_at hl 2 rfl) ?_
                refine lv_lload_n hx hb dX4_layShares_113 rfl (lv_at hl 3 rfl) ?_
                refine lv_lload hx hb dX4_layShares_114 (lv_at hl 0 rfl) ?_
                refine lv_ldiv hx hb dX4_layShares_116 (by_ne hB hW (by omega)) ?_
                refine b_last (w' := MW a cI cJ he cm ad gw as de eq re co av hi ke u_10 (vp_updL (abK he ab (k1)) (k1 + 1) ((dW he (k1 + 1)) / (byV he (k1 + 1)))) (vp_updL (beK he be (k1)) (k1 + 1) ((dW he (0)) / (byV he (k1 + 1)))) nw tn th cd) hx hb hK hP hD hS 15 1 (f := (beK he be (k1))) rfl rfl (j := k1 + 1) (by omega) (by decide) rfl dX4_layShares_117 (fun H locs hP hD hS => ?_)
                refine lv_iinc (v := nI (k1 + 1 + 1)) (lv' := [(3, .int (nI (k1 + 1 + 1))), (6, .long (byV he (k1 + 1))), (4, .long (dW he (k1 + 1))), (1, .long (dW he (0))), (0, .ref (a 0))]) hx hb dX4_layShares_118 hl (k := 2) rfl (nI_1 (k1 + 1)) (by decide) rfl (fun ls hl => ?_)
                refine lv_goto (tgt := 26) hx hb dX4_layShares_121 (by decide) ?_
                have e_34 : (abK he ab (k1 + 1)) = (vp_updL (abK he ab (k1)) (k1 + 1) ((dW he (k1 + 1)) / (byV he (k1 + 1)))) := by first | rfl | exact if_pos (by assumption) | exact if_neg (by assumption) | (simp only [n_7, n_8, n_13, n_25, n_31, Bool.false_eq_true, ↓reduceIte])
                have e_35 : (beK he be (k1 + 1)) = (vp_updL (beK he be (k1)) (k1 + 1) ((dW he (0)) / (byV he (k1 + 1)))) := by first | rfl | exact if_pos (by assumption) | exact if_neg (by assumption) | (simp only [n_7, n_8, n_13, n_25, n_31, Bool.false_eq_true, ↓reduceIte])
                exact ih1 (k1 + 1) u_10 (by omega) _ _ ls (by rw [e_34, e_35]; exact hP) (by rw [e_34, e_35]; exact hD) hS (lv_sub hl [0, 3, 4] rfl)
  exact L1 (5) 0 u_2 (by omega) _ _ ls hP hD hS (lv_sub hl [0, 1, 2] rfl)

abbrev rmX4_layShares_no : Room := ({ frames := 2, cells := 0, slots := 0, locals := 53 } : Room)
set_option maxHeartbeats 4000000 in
set_option maxRecDepth 100000 in
theorem c_X4_layShares_no (ll : Launch) (D : va_G) (a : Nat → Nat) (cI cJ : ClassId) (sz : Nat) (he cm ad gw as de eq re co av hi ke : Nat → Int32) (sq ab be : Nat → Int64) (nw tn : Nat → Int32) (th cd : Int32)  (hW : dW he 0 = 0) : Met ll yX4_layShares wsX4_layShares rmX4_layShares_no (va_Pc [.ref (a 0)] (PW D (tyG cI cJ) (MW a cI cJ he cm ad gw as de eq re co av hi ke sq ab be nw tn th cd) sz)) (va_Qi (fun (rr : Int32) (u : Nat → Int64) => rr = 0) (fun (u : Nat → Int64) t => AW D (tyG cI cJ) (va_A (MW a cI cJ he cm ad gw as de eq re co av hi ke sq ab be nw tn th cd) sz) (MW a cI cJ he cm ad gw as de eq re co av hi ke u (vp_updL ab 0 1) (vp_updL be 0 1) nw tn th cd) t) (va_A (MW a cI cJ he cm ad gw as de eq re co av hi ke sq ab be nw tn th cd) sz)) 0 0 (va_A (MW a cI cJ he cm ad gw as de eq re co av hi ke sq ab be nw tn th cd) sz) := by
  refine Met.ofW (cc := cX4_layShares) (maxL := 8) (ret := (some .boolean)) (by decide) rfl ?_
  intro pp ee ss mm ar bel mth cde s₁ B hml hv
  obtain ⟨rfl, hsz, hP, hK, hD0, hE⟩ := hv
  have hx := B.exec
  have hb := B.bytes
  have hr := B.returns
  have hts := atoms_spec (ws := wsX4_layShares) B.pre
  have hown : ss.vm.findClass RX4 = some mm.cls := findClass_of_methodNamed B.named
  have hlocks := B.notSynchronized
  subst hsz
  have hD := hD0.self (sz := ss.heap.size)
  generalize hAe : va_A (MW a cI cJ he cm ad gw as de eq re co av hi ke sq ab be nw tn th cd) ss.heap.size = A at hD ⊢
  have hA : ∀ q : Nat, ss.heap.size ≤ q → A q := fun q h => by rw [← hAe]; exact Or.inr h
  have hS : va_S A ss.heap ss.heap [] := va_S.rf
  have hin : ∀ w ∈ wsX40, w.before ([.ref (a 0)] : List Value).toArray ss = true := fun w h => hts w ((by decide +kernel : ∀ w ∈ wsX40, w ∈ wsX4_layShares) w h)
  have hl := lv_entry [.ref (a 0)] (n := 8) (Nat.le_of_ble_eq_true rfl)
  rw [lg_entry_eq]
  generalize (lg_sl [.ref (a 0)] ++ List.replicate (8 - (lg_sl [.ref (a 0)]).length) Slot.unset).toArray = ls at hl ⊢
  have hl : lv_has ls 8 [(0, .ref (a 0))] := hl
  refine lv_aload_n hx hb dX4_layShares_0 rfl (lv_at hl 0 rfl) ?_
  refine lv_iconst (v := 0) hx hb dX4_layShares_1 (by decide) ?_
  refine b_callv0 (S := Unit) (w' := fun u => MW a cI cJ he cm ad gw as de eq re co av hi ke (lsO he 0 sq 5) ab be nw tn th cd) hP hD hS hA (va_runV (As := [.int (0)]) (rest := []) ⟨hx, hb, hml, hown, hts⟩ (c_X4_laySquare ll D a cI cJ _ he cm ad gw as de eq re co av hi ke sq ab be nw tn th cd 0 (by omega)) (cwV 1 hts gX4_layShares_X4_laySquare rfl rfl rfl (by decide +kernel) ⟨Nat.le_of_ble_eq_true rfl, Nat.le_of_ble_eq_true rfl⟩) ⟨PW.blind, va_recv hK hP (ci := 4) (q0 := 0) rfl rfl, PW.go hP hK hD hE⟩ rfl rfl hl.1 rfl (lv_room (Nat.le_of_ble_eq_true rfl)) dX4_layShares_2 ⟨Nat.le_of_ble_eq_true rfl, Nat.le_of_ble_eq_true rfl⟩) (fun u H locs h_1 hP hD hS => ?_)
  refine lv_aload_n hx hb dX4_layShares_5 rfl (lv_at hl 0 rfl) ?_
  refine b_calll0 (S := Nat → Int64) (w' := fun u_2 => MW a cI cJ he cm ad gw as de eq re co av hi ke u_2 ab be nw tn th cd) hP hD hS hA (va_runV (As := []) (rest := []) ⟨hx, hb, hml, hown, hts⟩ (c_X4_determinant ll D a cI cJ _ he cm ad gw as de eq re co av hi ke (lsO he 0 sq 5) ab be nw tn th cd  ) (cwV 0 hts gX4_layShares_X4_determinant rfl rfl rfl (by decide +kernel) ⟨Nat.le_of_ble_eq_true rfl, Nat.le_of_ble_eq_true rfl⟩) ⟨PW.blind, va_recv hK hP (ci := 4) (q0 := 0) rfl rfl, PW.go hP hK hD hE⟩ rfl rfl hl.1 rfl (lv_room (Nat.le_of_ble_eq_true rfl)) dX4_layShares_6 ⟨Nat.le_of_ble_eq_true rfl, Nat.le_of_ble_eq_true rfl⟩) (fun r_4 u_2 H locs h_3 hP hD hS => ?_)
  obtain rfl : r_4 = dW he (0) := (show r_4 = dtG 4 0 _ 1 1 from h_3).trans (dt_lay he (0) _)
  refine lv_lstore_n (lv' := [(1, .long (dW he (0))), (0, .ref (a 0))]) hx hb dX4_layShares_9 rfl hl (by decide) rfl (fun ls hl => ?_)
  refine lv_aload_n hx hb dX4_layShares_10 rfl (lv_at hl 1 rfl) ?_
  refine va_get (D := D) (ci := 4) (v := .ref (a 14)) (C := RX4) (T := TX4) (N := 19) (Ts := wsX40) hx hb hin (fun _ h9 => h9) hown hK hP 0 rfl rfl 15 (by decide) (hts (.fieldLink RX4 50 "GroupbooksModel" "above" "[J") (by decide +kernel)) (fun _ h9 => h9) rfl dX4_layShares_11 ?_
  refine lv_iconst (v := 0) hx hb dX4_layShares_14 (by decide) ?_
  refine lv_lconst (v := 1) hx hb dX4_layShares_15 (by decide) ?_
  refine b_last (w' := MW a cI cJ he cm ad gw as de eq re co av hi ke u_2 (vp_updL ab (0) (1)) be nw tn th cd) hx hb hK hP hD hS 14 1 (f := ab) rfl rfl (j := 0) (by omega) (by decide) rfl dX4_layShares_16 (fun H locs hP hD hS => ?_)
  refine lv_aload_n hx hb dX4_layShares_17 rfl (lv_at hl 1 rfl) ?_
  refine va_get (D := D) (ci := 4) (v := .ref (a 15)) (C := RX4) (T := TX4) (N := 19) (Ts := wsX40) hx hb hin (fun _ h9 => h9) hown hK hP 0 rfl rfl 16 (by decide) (hts (.fieldLink RX4 53 "GroupbooksModel" "below" "[J") (by decide +kernel)) (fun _ h9 => h9) rfl dX4_layShares_18 ?_
  refine lv_iconst (v := 0) hx hb dX4_layShares_21 (by decide) ?_
  refine lv_lconst (v := 1) hx hb dX4_layShares_22 (by decide) ?_
  refine b_last (w' := MW a cI cJ he cm ad gw as de eq re co av hi ke u_2 (vp_updL ab (0) (1)) (vp_updL be (0) (1)) nw tn th cd) hx hb hK hP hD hS 15 1 (f := be) rfl rfl (j := 0) (by omega) (by decide) rfl dX4_layShares_23 (fun H locs hP hD hS => ?_)
  refine lv_iconst (v := 1) hx hb dX4_layShares_24 (by decide) ?_
  refine lv_istore_n (lv' := [(3, .int (1)), (1, .long (dW he (0))), (0, .ref (a 0))]) hx hb dX4_layShares_25 rfl hl (by decide) rfl (fun ls hl => ?_)
  refine lv_iload_n hx hb dX4_layShares_26 rfl (lv_at hl 0 rfl) ?_
  refine lv_bipush (v := 6) hx hb dX4_layShares_27 (by decide) ?_
  refine lv_icmp_ge (tgt := 124) hx hb dX4_layShares_29 (by decide) (fun c_5 => ?_) (fun c_5 => ?_)
  · have n_5 := c_5
    exact absurd c_5 (by decide)
  · have n_5 := c_5
    refine lv_lload_n hx hb dX4_layShares_32 rfl (lv_at hl 1 rfl) ?_
    refine lv_lconst (v := 0) hx hb dX4_layShares_33 (by decide) ?_
    refine W.lcmp hx hb dX4_layShares_34 ?_
    refine lv_if_eq (tgt := 124) hx hb dX4_layShares_35 (by decide) (fun c_6 => ?_) (fun c_6 => ?_)
    · have n_6 : dW he (0) = 0 := (lg_cmp_eq _ _).mp c_6
      refine lv_lload_n hx hb dX4_layShares_124 rfl (lv_at hl 1 rfl) ?_
      refine lv_lconst (v := 0) hx hb dX4_layShares_125 (by decide) ?_
      refine W.lcmp hx hb dX4_layShares_126 ?_
      refine lv_if_eq (tgt := 134) hx hb dX4_layShares_127 (by decide) (fun c_7 => ?_) (fun c_7 => ?_)
      · have n_7 : dW he (0) = 0 := (lg_cmp_eq _ _).mp c_7
        refine lv_iconst (v := 0) hx hb dX4_layShares_134 (by decide) ?_
        refine W.zret hx hb hr (by decide) (fun t ht hW => ?_) hS.2.2 dX4_layShares_135
        refine ⟨⟨_, (u_2), rfl, ?_, ?_, va_K.moved hW.alike hK, ?_⟩, hS.F ht⟩
        · try dsimp only
          all_goals exact rfl
        · rw [ht]
          try dsimp only
          exact hP
        · try dsimp only
          exact hD
      · have n_7 : ¬ (dW he (0) = 0) := fun h => c_7 ((lg_cmp_eq _ _).mpr h)
        exact absurd hW n_7
    · have n_6 : ¬ (dW he (0) = 0) := fun h => c_6 ((lg_cmp_eq _ _).mpr h)
      exact absurd hW n_6
