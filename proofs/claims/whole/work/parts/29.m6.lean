abbrev rmX4_acquire : Room := ({ frames := 4, cells := 0, slots := 0, locals := 106 } : Room)
set_option maxHeartbeats 4000000 in
set_option maxRecDepth 100000 in
theorem c_X4_acquire (ll : Launch) (D : va_G) (a : Nat → Nat) (cI cJ : ClassId) (sz : Nat) (he cm ad gw as de eq re co av hi ke : Nat → Int32) (sq ab be : Nat → Int64) (nw tn : Nat → Int32) (th cd : Int32) (o c : Nat) (x pz : Int32) (ho : o < 6) (hc : c < 6) (hpr : prB (nI o) (nI c) = true) (hqx : inB x 1 100 = true) (hz : inB pz 0 1000000 = true) (hs : smH he o c (he (6 * o + c) + x) ≤ 100) (hB : okB (upd he (6 * o + c) (he (6 * o + c) + x))) (hW : ¬ dW (upd he (6 * o + c) (he (6 * o + c) + x)) 0 = 0) : Met ll yX4_acquire wsX4_acquire rmX4_acquire (va_Pc [.ref (a 0), .int (nI (o)), .int (nI (c)), .int (x), .int (pz)] (PW D (tyG cI cJ) (MW a cI cJ he cm ad gw as de eq re co av hi ke sq ab be nw tn th cd) sz)) (va_Qi (fun (rr : Int32) (u : (Nat → Int64) × (Nat → Int64) × (Nat → Int64)) => rr = he (6 * o + c) + x) (fun (u : (Nat → Int64) × (Nat → Int64) × (Nat → Int64)) t => AW D (tyG cI cJ) (va_A (MW a cI cJ he cm ad gw as de eq re co av hi ke sq ab be nw tn th cd) sz) (MW a cI cJ (upd he (6 * o + c) (he (6 * o + c) + x)) cm ad (upd gw c (gw c + (pz - (flM (x.toInt64 * (ntM as de co c).toInt64) 100).toInt32))) as de eq re co av hi ke (u.1) (u.2.1) (u.2.2) nw tn 0 cd) t) (va_A (MW a cI cJ he cm ad gw as de eq re co av hi ke sq ab be nw tn th cd) sz)) 0 0 (va_A (MW a cI cJ he cm ad gw as de eq re co av hi ke sq ab be nw tn th cd) sz) := by
  refine Met.ofW (cc := cX4_acquire) (maxL := 6) (ret := (some .int)) (by decide) rfl ?_
  intro pp ee ss mm ar bel mth cde s₁ B hml hv
  obtain ⟨rfl, hsz, hP, hK, hD0, hE⟩ := hv
  have hx := B.exec
  have hb := B.bytes
  have hr := B.returns
  have hts := atoms_spec (ws := wsX4_acquire) B.pre
  have hown : ss.vm.findClass RX4 = some mm.cls := findClass_of_methodNamed B.named
  have hlocks := B.notSynchronized
  subst hsz
  have hD := hD0.self (sz := ss.heap.size)
  generalize hAe : va_A (MW a cI cJ he cm ad gw as de eq re co av hi ke sq ab be nw tn th cd) ss.heap.size = A at hD ⊢
  have hA : ∀ q : Nat, ss.heap.size ≤ q → A q := fun q h => by rw [← hAe]; exact Or.inr h
  have hS : va_S A ss.heap ss.heap [] := va_S.rf
  have hin : ∀ w ∈ wsX40, w.before ([.ref (a 0), .int (nI (o)), .int (nI (c)), .int (x), .int (pz)] : List Value).toArray ss = true := fun w h => hts w ((by decide +kernel : ∀ w ∈ wsX40, w ∈ wsX4_acquire) w h)
  have hl := lv_entry [.ref (a 0), .int (nI (o)), .int (nI (c)), .int (x), .int (pz)] (n := 6) (Nat.le_of_ble_eq_true rfl)
  rw [lg_entry_eq]
  generalize (lg_sl [.ref (a 0), .int (nI (o)), .int (nI (c)), .int (x), .int (pz)] ++ List.replicate (6 - (lg_sl [.ref (a 0), .int (nI (o)), .int (nI (c)), .int (x), .int (pz)]).length) Slot.unset).toArray = ls at hl ⊢
  have hl : lv_has ls 6 [(0, .ref (a 0)), (1, .int (nI (o))), (2, .int (nI (c))), (3, .int (x)), (4, .int (pz))] := hl
  refine lv_aload_n hx hb dX4_acquire_0 rfl (lv_at hl 0 rfl) ?_
  refine lv_iconst (v := 0) hx hb dX4_acquire_1 (by decide) ?_
  refine va_put (D := D) (ci := 4) (v := .int (0)) (ty := .int) (C := RX4) (T := TX4) (N := 19) (Ts := wsX40) hx hb hin (fun _ h9 => h9) tyX4 tyX4_ok nmX4 hown hK hP hD hS 0 rfl rfl 0 (by decide) (hts (.fieldLink RX4 62 "GroupbooksModel" "thrown" "I") (by decide +kernel)) (fun _ h9 => h9) rfl (by decide +kernel) rfl rfl (Nat.le_of_ble_eq_true rfl) dX4_acquire_2 (fun H locs hP hD hS => ?_)
  have hP : va_P D vwCl (MW a cI cJ he cm ad gw as de eq re co av hi ke sq ab be nw tn 0 cd) H := hP
  have hD : va_D A (MW a cI cJ he cm ad gw as de eq re co av hi ke sq ab be nw tn 0 cd) := hD
  refine lv_iload_n hx hb dX4_acquire_5 rfl (lv_at hl 1 rfl) ?_
  refine lv_iload_n hx hb dX4_acquire_6 rfl (lv_at hl 2 rfl) ?_
  refine b_csi (v := bI (prB (nI (o)) (nI (c)))) (W.runS (As := [.int (nI (o)), .int (nI (c))]) (rest := []) ⟨hx, hb, hml, hown, hts⟩ (c_X4_isPair ll (nI (o)) (nI (c)) ) (va_cwS 2 hts gX4_acquire_X4_isPair rfl rfl rfl (by decide +kernel) ⟨Nat.le_of_ble_eq_true rfl, Nat.le_of_ble_eq_true rfl⟩) ⟨PT.blind, PT.to⟩ rfl rfl hl.1 rfl (lv_room (Nat.le_of_ble_eq_true rfl)) dX4_acquire_7 ⟨Nat.le_of_ble_eq_true rfl, Nat.le_of_ble_eq_true rfl⟩) ?_
  refine lv_if_eq (tgt := 34) hx hb dX4_acquire_10 (by decide) (fun c_1 => ?_) (fun c_1 => ?_)
  · have n_1 : ¬ (prB (nI (o)) (nI (c))) = true := bI0 c_1
    exact absurd hpr n_1
  · have n_1 : (prB (nI (o)) (nI (c))) = true := bI1 c_1
    refine lv_iload_n hx hb dX4_acquire_13 rfl (lv_at hl 3 rfl) ?_
    refine lv_iconst (v := 1) hx hb dX4_acquire_14 (by decide) ?_
    refine lv_bipush (v := 100) hx hb dX4_acquire_15 (by decide) ?_
    refine b_csi (v := bI (inB x 1 100)) (W.runS (As := [.int (x), .int (1), .int (100)]) (rest := []) ⟨hx, hb, hml, hown, hts⟩ (c_X4_in ll x 1 100 ) (va_cwS 3 hts gX4_acquire_X4_in rfl rfl rfl (by decide +kernel) ⟨Nat.le_of_ble_eq_true rfl, Nat.le_of_ble_eq_true rfl⟩) ⟨PT.blind, PT.to⟩ rfl rfl hl.1 rfl (lv_room (Nat.le_of_ble_eq_true rfl)) dX4_acquire_17 ⟨Nat.le_of_ble_eq_true rfl, Nat.le_of_ble_eq_true rfl⟩) ?_
    refine lv_if_eq (tgt := 34) hx hb dX4_acquire_20 (by decide) (fun c_2 => ?_) (fun c_2 => ?_)
    · have n_2 : ¬ (inB x 1 100) = true := bI0 c_2
      exact absurd hqx n_2
    · have n_2 : (inB x 1 100) = true := bI1 c_2
      refine lv_iload hx hb dX4_acquire_23 (lv_at hl 4 rfl) ?_
      refine lv_iconst (v := 0) hx hb dX4_acquire_25 (by decide) ?_
      refine lv_ldc (v := 1000000) hx hb hown (hts (.constant RX4 105 (1000000)) (by decide +kernel)) dX4_acquire_26 ?_
      refine b_csi (v := bI (inB pz 0 ((1000000)))) (W.runS (As := [.int (pz), .int (0), .int ((1000000))]) (rest := []) ⟨hx, hb, hml, hown, hts⟩ (c_X4_in ll pz 0 ((1000000)) ) (va_cwS 3 hts gX4_acquire_X4_in rfl rfl rfl (by decide +kernel) ⟨Nat.le_of_ble_eq_true rfl, Nat.le_of_ble_eq_true rfl⟩) ⟨PT.blind, PT.to⟩ rfl rfl hl.1 rfl (lv_room (Nat.le_of_ble_eq_true rfl)) dX4_acquire_28 ⟨Nat.le_of_ble_eq_true rfl, Nat.le_of_ble_eq_true rfl⟩) ?_
      refine lv_if_ne (tgt := 40) hx hb dX4_acquire_31 (by decide) (fun c_3 => ?_) (fun c_3 => ?_)
      · have n_3 : (inB pz 0 ((1000000))) = true := bI1 c_3
        refine lv_aload_n hx hb dX4_acquire_40 rfl (lv_at hl 0 rfl) ?_
        refine va_get (D := D) (ci := 4) (v := .ref (a 1)) (C := RX4) (T := TX4) (N := 19) (Ts := wsX40) hx hb hin (fun _ h9 => h9) hown hK hP 0 rfl rfl 1 (by decide) (hts (.fieldLink RX4 7 "GroupbooksModel" "held" "[I") (by decide +kernel)) (fun _ h9 => h9) rfl dX4_acquire_41 ?_
        refine lv_bipush (v := 6) hx hb dX4_acquire_44 (by decide) ?_
        refine lv_iload_n hx hb dX4_acquire_46 rfl (lv_at hl 1 rfl) ?_
        refine lv_imul hx hb dX4_acquire_47 ?_
        refine b_ti (pk_mul (6) (o)) ?_
        refine lv_iload_n hx hb dX4_acquire_48 rfl (lv_at hl 2 rfl) ?_
        refine lv_iadd hx hb dX4_acquire_49 ?_
        refine b_ti (nI_add ((6) * (o)) (c)) ?_
        refine b_iald hx hb hK hP 1 0 (f := he) rfl rfl (j := ((6) * (o)) + (c)) (by omega) (by decide) dX4_acquire_50 ?_
        refine lv_iload_n hx hb dX4_acquire_51 rfl (lv_at hl 3 rfl) ?_
        refine lv_iadd hx hb dX4_acquire_52 ?_
        refine lv_istore (lv' := [(5, .int ((he (((6) * (o)) + (c))) + (x))), (0, .ref (a 0)), (1, .int (nI (o))), (2, .int (nI (c))), (3, .int (x)), (4, .int (pz))]) hx hb dX4_acquire_53 hl (by decide) rfl (fun ls hl => ?_)
        refine lv_aload_n hx hb dX4_acquire_55 rfl (lv_at hl 1 rfl) ?_
        refine lv_iload_n hx hb dX4_acquire_56 rfl (lv_at hl 2 rfl) ?_
        refine lv_iload_n hx hb dX4_acquire_57 rfl (lv_at hl 3 rfl) ?_
        refine lv_iload hx hb dX4_acquire_58 (lv_at hl 0 rfl) ?_
        refine b_calli0 (S := (Nat → Int64) × (Nat → Int64) × (Nat → Int64)) (w' := fun u_4 => MW a cI cJ (upd he (6 * o + c) ((he (((6) * (o)) + (c))) + (x))) cm ad gw as de eq re co av hi ke (u_4.1) (u_4.2.1) (u_4.2.2) nw tn 0 cd) hP hD hS hA (va_runV (As := [.int (nI (o)), .int (nI (c)), .int ((he (((6) * (o)) + (c))) + (x))]) (rest := []) ⟨hx, hb, hml, hown, hts⟩ (c_X4_sets ll D a cI cJ _ he cm ad gw as de eq re co av hi ke sq ab be nw tn 0 cd o c ((he (((6) * (o)) + (c))) + (x)) ho hc hs hB hW) (cwV 3 hts gX4_acquire_X4_sets rfl rfl rfl (by decide +kernel) ⟨Nat.le_of_ble_eq_true rfl, Nat.le_of_ble_eq_true rfl⟩) ⟨PW.blind, va_recv hK hP (ci := 4) (q0 := 0) rfl rfl, PW.go hP hK hD hE⟩ rfl rfl hl.1 rfl (lv_room (Nat.le_of_ble_eq_true rfl)) dX4_acquire_60 ⟨Nat.le_of_ble_eq_true rfl, Nat.le_of_ble_eq_true rfl⟩) (fun r_6 u_4 H locs h_5 hP hD hS => ?_)
        obtain rfl : r_6 = 1 := h_5
        refine lv_if_ne (tgt := 72) hx hb dX4_acquire_63 (by decide) (fun c_7 => ?_) (fun c_7 => ?_)
        · have n_7 := c_7
          refine lv_aload_n hx hb dX4_acquire_72 rfl (lv_at hl 1 rfl) ?_
          refine va_get (D := D) (ci := 4) (v := .ref (a 4)) (C := RX4) (T := TX4) (N := 19) (Ts := wsX40) hx hb hin (fun _ h9 => h9) hown hK hP 0 rfl rfl 4 (by decide) (hts (.fieldLink RX4 19 "GroupbooksModel" "goodwill" "[I") (by decide +kernel)) (fun _ h9 => h9) rfl dX4_acquire_73 ?_
          refine lv_iload_n hx hb dX4_acquire_76 rfl (lv_at hl 3 rfl) ?_
          refine lv_dup2_11 hx hb dX4_acquire_77 rfl rfl ?_
          refine b_iald hx hb hK hP 4 0 (f := gw) rfl rfl (j := c) (by omega) (by decide) dX4_acquire_78 ?_
          refine lv_iload hx hb dX4_acquire_79 (lv_at hl 5 rfl) ?_
          refine lv_iload_n hx hb dX4_acquire_81 rfl (lv_at hl 4 rfl) ?_
          refine lv_i2l (v := (x).toInt64) hx hb dX4_acquire_82 rfl ?_
          refine lv_aload_n hx hb dX4_acquire_83 rfl (lv_at hl 1 rfl) ?_
          refine lv_iload_n hx hb dX4_acquire_84 rfl (lv_at hl 3 rfl) ?_
          refine b_csi (v := ntM as de co c) (W.runV (As := [.int (nI (c))]) (rest := [.long ((x).toInt64), .int (pz), .int (gw (c)), .int (nI (c)), .ref (a 4)]) ⟨hx, hb, hml, hown, hts⟩ (c_X4_net ll D a cI cJ (upd he (6 * o + c) ((he (((6) * (o)) + (c))) + (x))) cm ad gw as de eq re co av hi ke (u_4.1) (u_4.2.1) (u_4.2.2) nw tn 0 cd c (by omega)) (cwV 1 hts gX4_acquire_X4_net rfl rfl rfl (by decide +kernel) ⟨Nat.le_of_ble_eq_true rfl, Nat.le_of_ble_eq_true rfl⟩) ⟨PR.blind, va_recv hK hP (ci := 4) (q0 := 0) rfl rfl, PR.go hP hK hE⟩ rfl rfl hl.1 rfl (lv_room (Nat.le_of_ble_eq_true rfl)) dX4_acquire_85 ⟨Nat.le_of_ble_eq_true rfl, Nat.le_of_ble_eq_true rfl⟩) ?_
          refine lv_i2l (v := (ntM as de co c).toInt64) hx hb dX4_acquire_88 rfl ?_
          refine lv_lmul hx hb dX4_acquire_89 ?_
          refine lv_ldc2 (v := 100) hx hb hown (hts (.constantLong RX4 109 (100)) (by decide +kernel)) dX4_acquire_90 ?_
          refine b_csl (v := flM (((x).toInt64) * ((ntM as de co c).toInt64)) ((100))) (W.runS (As := [.long (((x).toInt64) * ((ntM as de co c).toInt64)), .long ((100))]) (rest := [.int (pz), .int (gw (c)), .int (nI (c)), .ref (a 4)]) ⟨hx, hb, hml, hown, hts⟩ (c_X4_floor ll (((x).toInt64) * ((ntM as de co c).toInt64)) ((100)) (by decide)) (va_cwS 2 hts gX4_acquire_X4_floor rfl rfl rfl (by decide +kernel) ⟨Nat.le_of_ble_eq_true rfl, Nat.le_of_ble_eq_true rfl⟩) ⟨PT.blind, PT.to⟩ rfl rfl hl.1 rfl (lv_room (Nat.le_of_ble_eq_true rfl)) dX4_acquire_93 ⟨Nat.le_of_ble_eq_true rfl, Nat.le_of_ble_eq_true rfl⟩) ?_
          refine lv_l2i (v := (flM (((x).toInt64) * ((ntM as de co c).toInt64)) ((100))).toInt32) hx hb dX4_acquire_96 rfl ?_
          refine lv_isub hx hb dX4_acquire_97 ?_
          refine lv_iadd hx hb dX4_acquire_98 ?_
          refine b_iast (w' := MW a cI cJ (upd he (6 * o + c) ((he (((6) * (o)) + (c))) + (x))) cm ad (upd gw (c) ((gw (c)) + ((pz) - ((flM (((x).toInt64) * ((ntM as de co c).toInt64)) ((100))).toInt32)))) as de eq re co av hi ke (u_4.1) (u_4.2.1) (u_4.2.2) nw tn 0 cd) hx hb hK hP hD hS 4 0 (f := gw) rfl rfl (j := c) (by omega) (by decide) rfl dX4_acquire_99 (fun H locs hP hD hS => ?_)
          refine lv_iload hx hb dX4_acquire_100 (lv_at hl 0 rfl) ?_
          have e_8 : (upd he (6 * o + c) (he (6 * o + c) + x)) = (upd he (6 * o + c) ((he (((6) * (o)) + (c))) + (x))) := by first | rfl | exact if_pos (by assumption) | exact if_neg (by assumption) | (simp only [n_1, n_2, n_3, n_7, Bool.false_eq_true, ↓reduceIte])
          have hP := (congrArg (fun z9 => va_P D vwCl (MW a cI cJ z9 cm ad (upd gw (c) ((gw (c)) + ((pz) - ((flM (((x).toInt64) * ((ntM as de co c).toInt64)) ((100))).toInt32)))) as de eq re co av hi ke (u_4.1) (u_4.2.1) (u_4.2.2) nw tn 0 cd) _) e_8).mpr hP
          have hD := (congrArg (fun z9 => va_D A (MW a cI cJ z9 cm ad (upd gw (c) ((gw (c)) + ((pz) - ((flM (((x).toInt64) * ((ntM as de co c).toInt64)) ((100))).toInt32)))) as de eq re co av hi ke (u_4.1) (u_4.2.1) (u_4.2.2) nw tn 0 cd)) e_8).mpr hD
          have e_9 : (upd gw c (gw c + (pz - (flM (x.toInt64 * (ntM as de co c).toInt64) 100).toInt32))) = (upd gw (c) ((gw (c)) + ((pz) - ((flM (((x).toInt64) * ((ntM as de co c).toInt64)) ((100))).toInt32)))) := by first | rfl | exact if_pos (by assumption) | exact if_neg (by assumption) | (simp only [n_1, n_2, n_3, n_7, Bool.false_eq_true, ↓reduceIte])
          have hP := (congrArg (fun z9 => va_P D vwCl (MW a cI cJ (upd he (6 * o + c) (he (6 * o + c) + x)) cm ad z9 as de eq re co av hi ke (u_4.1) (u_4.2.1) (u_4.2.2) nw tn 0 cd) _) e_9).mpr hP
          have hD := (congrArg (fun z9 => va_D A (MW a cI cJ (upd he (6 * o + c) (he (6 * o + c) + x)) cm ad z9 as de eq re co av hi ke (u_4.1) (u_4.2.1) (u_4.2.2) nw tn 0 cd)) e_9).mpr hD
          refine W.iret hx hb hr (fun t ht hW => ?_) hS.2.2 dX4_acquire_102
          refine ⟨⟨_, (u_4.1, u_4.2.1, u_4.2.2), rfl, ?_, ?_, va_K.moved hW.alike hK, ?_⟩, hS.F ht⟩
          · try dsimp only
            all_goals exact rfl
          · rw [ht]
            try dsimp only
            exact hP
          · try dsimp only
            exact hD
        · have n_7 := c_7
          exact absurd c_7 (by decide)
      · have n_3 : ¬ (inB pz 0 ((1000000))) = true := bI0 c_3
        exact absurd hz n_3

abbrev rmX4_acquire_hi : Room := ({ frames := 3, cells := 0, slots := 0, locals := 63 } : Room)
set_option maxHeartbeats 4000000 in
set_option maxRecDepth 100000 in
theorem c_X4_acquire_hi (ll : Launch) (D : va_G) (a : Nat → Nat) (cI cJ : ClassId) (sz : Nat) (he cm ad gw as de eq re co av hi ke : Nat → Int32) (sq ab be : Nat → Int64) (nw tn : Nat → Int32) (th cd : Int32) (o c : Nat) (x pz : Int32) (ho : o < 6) (hc : c < 6) (hpr : prB (nI o) (nI c) = true) (hqx : inB x 1 100 = true) (hz : inB pz 0 1000000 = true) (hs : ¬ smH he o c (he (6 * o + c) + x) ≤ 100) : Met ll yX4_acquire wsX4_acquire rmX4_acquire_hi (va_Pc [.ref (a 0), .int (nI (o)), .int (nI (c)), .int (x), .int (pz)] (PW D (tyG cI cJ) (MW a cI cJ he cm ad gw as de eq re co av hi ke sq ab be nw tn th cd) sz)) (va_Qi (fun (rr : Int32) (u : Unit) => rr = 0) (fun (u : Unit) t => AW D (tyG cI cJ) (va_A (MW a cI cJ he cm ad gw as de eq re co av hi ke sq ab be nw tn th cd) sz) (MW a cI cJ he cm ad gw as de eq re co av hi ke sq ab be nw tn 2 cd) t) (va_A (MW a cI cJ he cm ad gw as de eq re co av hi ke sq ab be nw tn th cd) sz)) 0 0 (va_A (MW a cI cJ he cm ad gw as de eq re co av hi ke sq ab be nw tn th cd) sz) := by
  refine Met.ofW (cc := cX4_acquire) (maxL := 6) (ret := (some .int)) (by decide) rfl ?_
  intro pp ee ss mm ar bel mth cde s₁ B hml hv
  obtain ⟨rfl, hsz, hP, hK, hD0, hE⟩ := hv
  have hx := B.exec
  have hb := B.bytes
  have hr := B.returns
  have hts := atoms_spec (ws := wsX4_acquire) B.pre
  have hown : ss.vm.findClass RX4 = some mm.cls := findClass_of_methodNamed B.named
  have hlocks := B.notSynchronized
  subst hsz
  have hD := hD0.self (sz := ss.heap.size)
  generalize hAe : va_A (MW a cI cJ he cm ad gw as de eq re co av hi ke sq ab be nw tn th cd) ss.heap.size = A at hD ⊢
  have hA : ∀ q : Nat, ss.heap.size ≤ q → A q := fun q h => by rw [← hAe]; exact Or.inr h
  have hS : va_S A ss.heap ss.heap [] := va_S.rf
  have hin : ∀ w ∈ wsX40, w.before ([.ref (a 0), .int (nI (o)), .int (nI (c)), .int (x), .int (pz)] : List Value).toArray ss = true := fun w h => hts w ((by decide +kernel : ∀ w ∈ wsX40, w ∈ wsX4_acquire) w h)
  have hl := lv_entry [.ref (a 0), .int (nI (o)), .int (nI (c)), .int (x), .int (pz)] (n := 6) (Nat.le_of_ble_eq_true rfl)
  rw [lg_entry_eq]
  generalize (lg_sl [.ref (a 0), .int (nI (o)), .int (nI (c)), .int (x), .int (pz)] ++ List.replicate (6 - (lg_sl [.ref (a 0), .int (nI (o)), .int (nI (c)), .int (x), .int (pz)]).length) Slot.unset).toArray = ls at hl ⊢
  have hl : lv_has ls 6 [(0, .ref (a 0)), (1, .int (nI (o))), (2, .int (nI (c))), (3, .int (x)), (4, .int (pz))] := hl
  refine lv_aload_n hx hb dX4_acquire_0 rfl (lv_at hl 0 rfl) ?_
  refine lv_iconst (v := 0) hx hb dX4_acquire_1 (by decide) ?_
  refine va_put (D := D) (ci := 4) (v := .int (0)) (ty := .int) (C := RX4) (T := TX4) (N := 19) (Ts := wsX40) hx hb hin (fun _ h9 => h9) tyX4 tyX4_ok nmX4 hown hK hP hD hS 0 rfl rfl 0 (by decide) (hts (.fieldLink RX4 62 "GroupbooksModel" "thrown" "I") (by decide +kernel)) (fun _ h9 => h9) rfl (by decide +kernel) rfl rfl (Nat.le_of_ble_eq_true rfl) dX4_acquire_2 (fun H locs hP hD hS => ?_)
  have hP : va_P D vwCl (MW a cI cJ he cm ad gw as de eq re co av hi ke sq ab be nw tn 0 cd) H := hP
  have hD : va_D A (MW a cI cJ he cm ad gw as de eq re co av hi ke sq ab be nw tn 0 cd) := hD
  refine lv_iload_n hx hb dX4_acquire_5 rfl (lv_at hl 1 rfl) ?_
  refine lv_iload_n hx hb dX4_acquire_6 rfl (lv_at hl 2 rfl) ?_
  refine b_csi (v := bI (prB (nI (o)) (nI (c)))) (W.runS (As := [.int (nI (o)), .int (nI (c))]) (rest := []) ⟨hx, hb, hml, hown, hts⟩ (c_X4_isPair ll (nI (o)) (nI (c)) ) (va_cwS 2 hts gX4_acquire_X4_isPair rfl rfl rfl (by decide +kernel) ⟨Nat.le_of_ble_eq_true rfl, Nat.le_of_ble_eq_true rfl⟩) ⟨PT.blind, PT.to⟩ rfl rfl hl.1 rfl (lv_room (Nat.le_of_ble_eq_true rfl)) dX4_acquire_7 ⟨Nat.le_of_ble_eq_true rfl, Nat.le_of_ble_eq_true rfl⟩) ?_
  refine lv_if_eq (tgt := 34) hx hb dX4_acquire_10 (by decide) (fun c_1 => ?_) (fun c_1 => ?_)
  · have n_1 : ¬ (prB (nI (o)) (nI (c))) = true := bI0 c_1
    exact absurd hpr n_1
  · have n_1 : (prB (nI (o)) (nI (c))) = true := bI1 c_1
    refine lv_iload_n hx hb dX4_acquire_13 rfl (lv_at hl 3 rfl) ?_
    refine lv_iconst (v := 1) hx hb dX4_acquire_14 (by decide) ?_
    refine lv_bipush (v := 100) hx hb dX4_acquire_15 (by decide) ?_
    refine b_csi (v := bI (inB x 1 100)) (W.runS (As := [.int (x), .int (1), .int (100)]) (rest := []) ⟨hx, hb, hml, hown, hts⟩ (c_X4_in ll x 1 100 ) (va_cwS 3 hts gX4_acquire_X4_in rfl rfl rfl (by decide +kernel) ⟨Nat.le_of_ble_eq_true rfl, Nat.le_of_ble_eq_true rfl⟩) ⟨PT.blind, PT.to⟩ rfl rfl hl.1 rfl (lv_room (Nat.le_of_ble_eq_true rfl)) dX4_acquire_17 ⟨Nat.le_of_ble_eq_true rfl, Nat.le_of_ble_eq_true rfl⟩) ?_
    refine lv_if_eq (tgt := 34) hx hb dX4_acquire_20 (by decide) (fun c_2 => ?_) (fun c_2 => ?_)
    · have n_2 : ¬ (inB x 1 100) = true := bI0 c_2
      exact absurd hqx n_2
    · have n_2 : (inB x 1 100) = true := bI1 c_2
      refine lv_iload hx hb dX4_acquire_23 (lv_at hl 4 rfl) ?_
      refine lv_iconst (v := 0) hx hb dX4_acquire_25 (by decide) ?_
      refine lv_ldc (v := 1000000) hx hb hown (hts (.constant RX4 105 (1000000)) (by decide +kernel)) dX4_acquire_26 ?_
      refine b_csi (v := bI (inB pz 0 ((1000000)))) (W.runS (As := [.int (pz), .int (0), .int ((1000000))]) (rest := []) ⟨hx, hb, hml, hown, hts⟩ (c_X4_in ll pz 0 ((1000000)) ) (va_cwS 3 hts gX4_acquire_X4_in rfl rfl rfl (by decide +kernel) ⟨Nat.le_of_ble_eq_true rfl, Nat.le_of_ble_eq_true rfl⟩) ⟨PT.blind, PT.to⟩ rfl rfl hl.1 rfl (lv_room (Nat.le_of_ble_eq_true rfl)) dX4_acquire_28 ⟨Nat.le_of_ble_eq_true rfl, Nat.le_of_ble_eq_true rfl⟩) ?_
      refine lv_if_ne (tgt := 40) hx hb dX4_acquire_31 (by decide) (fun c_3 => ?_) (fun c_3 => ?_)
      · have n_3 : (inB pz 0 ((1000000))) = true := bI1 c_3
        refine lv_aload_n hx hb dX4_acquire_40 rfl (lv_at hl 0 rfl) ?_
        refine va_get (D := D) (ci := 4) (v := .ref (a 1)) (C := RX4) (T := TX4) (N := 19) (Ts := wsX40) hx hb hin (fun _ h9 => h9) hown hK hP 0 rfl rfl 1 (by decide) (hts (.fieldLink RX4 7 "GroupbooksModel" "held" "[I") (by decide +kernel)) (fun _ h9 => h9) rfl dX4_acquire_41 ?_
        refine lv_bipush (v := 6) hx hb dX4_acquire_44 (by decide) ?_
        refine lv_iload_n hx hb dX4_acquire_46 rfl (lv_at hl 1 rfl) ?_
        refine lv_imul hx hb dX4_acquire_47 ?_
        refine b_ti (pk_mul (6) (o)) ?_
        refine lv_iload_n hx hb dX4_acquire_48 rfl (lv_at hl 2 rfl) ?_
        refine lv_iadd hx hb dX4_acquire_49 ?_
        refine b_ti (nI_add ((6) * (o)) (c)) ?_
        refine b_iald hx hb hK hP 1 0 (f := he) rfl rfl (j := ((6) * (o)) + (c)) (by omega) (by decide) dX4_acquire_50 ?_
        refine lv_iload_n hx hb dX4_acquire_51 rfl (lv_at hl 3 rfl) ?_
        refine lv_iadd hx hb dX4_acquire_52 ?_
        refine lv_istore (lv' := [(5, .int ((he (((6) * (o)) + (c))) + (x))), (0, .ref (a 0)), (1, .int (nI (o))), (2, .int (nI (c))), (3, .int (x)), (4, .int (pz))]) hx hb dX4_acquire_53 hl (by decide) rfl (fun ls hl => ?_)
        refine lv_aload_n hx hb dX4_acquire_55 rfl (lv_at hl 1 rfl) ?_
        refine lv_iload_n hx hb dX4_acquire_56 rfl (lv_at hl 2 rfl) ?_
        refine lv_iload_n hx hb dX4_acquire_57 rfl (lv_at hl 3 rfl) ?_
        refine lv_iload hx hb dX4_acquire_58 (lv_at hl 0 rfl) ?_
        refine b_calli0 (S := Unit) (w' := fun u => MW a cI cJ he cm ad gw as de eq re co av hi ke sq ab be nw tn 0 cd) hP hD hS hA (va_runV (As := [.int (nI (o)), .int (nI (c)), .int ((he (((6) * (o)) + (c))) + (x))]) (rest := []) ⟨hx, hb, hml, hown, hts⟩ (c_X4_sets_hi ll D a cI cJ _ he cm ad gw as de eq re co av hi ke sq ab be nw tn 0 cd o c ((he (((6) * (o)) + (c))) + (x)) ho hc hs) (cwV 3 hts gX4_acquire_X4_sets rfl rfl rfl (by decide +kernel) ⟨Nat.le_of_ble_eq_true rfl, Nat.le_of_ble_eq_true rfl⟩) ⟨PW.blind, va_recv hK hP (ci := 4) (q0 := 0) rfl rfl, PW.go hP hK hD hE⟩ rfl rfl hl.1 rfl (lv_room (Nat.le_of_ble_eq_true rfl)) dX4_acquire_60 ⟨Nat.le_of_ble_eq_true rfl, Nat.le_of_ble_eq_true rfl⟩) (fun r_5 u H locs h_4 hP hD hS => ?_)
        obtain rfl : r_5 = 0 := h_4
        refine lv_if_ne (tgt := 72) hx hb dX4_acquire_63 (by decide) (fun c_6 => ?_) (fun c_6 => ?_)
        · have n_6 := c_6
          exact absurd c_6 (by decide)
        · have n_6 := c_6
          refine lv_aload_n hx hb dX4_acquire_66 rfl (lv_at hl 1 rfl) ?_
          refine lv_iconst (v := 2) hx hb dX4_acquire_67 (by decide) ?_
          refine b_calli0 (S := Unit) (w' := fun u => MW a cI cJ he cm ad gw as de eq re co av hi ke sq ab be nw tn 2 cd) hP hD hS hA (va_runV (As := [.int (2)]) (rest := []) ⟨hx, hb, hml, hown, hts⟩ (c_X4_fails ll D a cI cJ _ he cm ad gw as de eq re co av hi ke sq ab be nw tn 0 cd 2 ) (cwV 1 hts gX4_acquire_X4_fails rfl rfl rfl (by decide +kernel) ⟨Nat.le_of_ble_eq_true rfl, Nat.le_of_ble_eq_true rfl⟩) ⟨PW.blind, va_recv hK hP (ci := 4) (q0 := 0) rfl rfl, PW.go hP hK hD hE⟩ rfl rfl hl.1 rfl (lv_room (Nat.le_of_ble_eq_true rfl)) dX4_acquire_68 ⟨Nat.le_of_ble_eq_true rfl, Nat.le_of_ble_eq_true rfl⟩) (fun r_8 u H locs h_7 hP hD hS => ?_)
          have h_7 : r_8 = 0 := h_7
          subst h_7
          exact W.iret hx hb hr (fun t ht hW => ⟨⟨_, (), rfl, rfl, (by rw [ht]; exact hP), va_K.moved hW.alike hK, hD⟩, hS.F ht⟩) hS.2.2 dX4_acquire_71
      · have n_3 : ¬ (inB pz 0 ((1000000))) = true := bI0 c_3
        exact absurd hz n_3

abbrev rmX4_acquire_no : Room := ({ frames := 4, cells := 0, slots := 0, locals := 106 } : Room)
set_option maxHeartbeats 4000000 in
set_option maxRecDepth 100000 in
theorem c_X4_acquire_no (ll : Launch) (D : va_G) (a : Nat → Nat) (cI cJ : ClassId) (sz : Nat) (he cm ad gw as de eq re co av hi ke : Nat → Int32) (sq ab be : Nat → Int64) (nw tn : Nat → Int32) (th cd : Int32) (o c : Nat) (x pz : Int32) (ho : o < 6) (hc : c < 6) (hpr : prB (nI o) (nI c) = true) (hqx : inB x 1 100 = true) (hz : inB pz 0 1000000 = true) (hs : smH he o c (he (6 * o + c) + x) ≤ 100) (hW : dW (upd he (6 * o + c) (he (6 * o + c) + x)) 0 = 0) : Met ll yX4_acquire wsX4_acquire rmX4_acquire_no (va_Pc [.ref (a 0), .int (nI (o)), .int (nI (c)), .int (x), .int (pz)] (PW D (tyG cI cJ) (MW a cI cJ he cm ad gw as de eq re co av hi ke sq ab be nw tn th cd) sz)) (va_Qi (fun (rr : Int32) (u : (Nat → Int64) × (Nat → Int64) × (Nat → Int64)) => rr = 0) (fun (u : (Nat → Int64) × (Nat → Int64) × (Nat → Int64)) t => AW D (tyG cI cJ) (va_A (MW a cI cJ he cm ad gw as de eq re co av hi ke sq ab be nw tn th cd) sz) (MW a cI cJ he cm ad gw as de eq re co av hi ke (u.1) (u.2.1) (u.2.2) nw tn 2 cd) t) (va_A (MW a cI cJ he cm ad gw as de eq re co av hi ke sq ab be nw tn th cd) sz)) 0 0 (va_A (MW a cI cJ he cm ad gw as de eq re co av hi ke sq ab be nw tn th cd) sz) := by
  refine Met.ofW (cc := cX4_acquire) (maxL := 6) (ret := (some .int)) (by decide) rfl ?_
  intro pp ee ss mm ar bel mth cde s₁ B hml hv
  obtain ⟨rfl, hsz, hP, hK, hD0, hE⟩ := hv
  have hx := B.exec
  have hb := B.bytes
  have hr := B.returns
  have hts := atoms_spec (ws := wsX4_acquire) B.pre
  have hown : ss.vm.findClass RX4 = some mm.cls := findClass_of_methodNamed B.named
  have hlocks := B.notSynchronized
  subst hsz
  have hD := hD0.self (sz := ss.heap.size)
  generalize hAe : va_A (MW a cI cJ he cm ad gw as de eq re co av hi ke sq ab be nw tn th cd) ss.heap.size = A at hD ⊢
  have hA : ∀ q : Nat, ss.heap.size ≤ q → A q := fun q h => by rw [← hAe]; exact Or.inr h
  have hS : va_S A ss.heap ss.heap [] := va_S.rf
  have hin : ∀ w ∈ wsX40, w.before ([.ref (a 0), .int (nI (o)), .int (nI (c)), .int (x), .int (pz)] : List Value).toArray ss = true := fun w h => hts w ((by decide +kernel : ∀ w ∈ wsX40, w ∈ wsX4_acquire) w h)
  have hl := lv_entry [.ref (a 0), .int (nI (o)), .int (nI (c)), .int (x), .int (pz)] (n := 6) (Nat.le_of_ble_eq_true rfl)
  rw [lg_entry_eq]
  generalize (lg_sl [.ref (a 0), .int (nI (o)), .int (nI (c)), .int (x), .int (pz)] ++ List.replicate (6 - (lg_sl [.ref (a 0), .int (nI (o)), .int (nI (c)), .int (x), .int (pz)]).length) Slot.unset).toArray = ls at hl ⊢
  have hl : lv_has ls 6 [(0, .ref (a 0)), (1, .int (nI (o))), (2, .int (nI (c))), (3, .int (x)), (4, .int (pz))] := hl
  refine lv_aload_n hx hb dX4_acquire_0 rfl (lv_at hl 0 rfl) ?_
  refine lv_iconst (v := 0) hx hb dX4_acquire_1 (by decide) ?_
  refine va_put (D := D) (ci := 4) (v := .int (0)) (ty := .int) (C := RX4) (T := TX4) (N := 19) (Ts := wsX40) hx hb hin (fun _ h9 => h9) tyX4 tyX4_ok nmX4 hown hK hP hD hS 0 rfl rfl 0 (by decide) (hts (.fieldLink RX4 62 "GroupbooksModel" "thrown" "I") (by decide +kernel)) (fun _ h9 => h9) rfl (by decide +kernel) rfl rfl (Nat.le_of_ble_eq_true rfl) dX4_acquire_2 (fun H locs hP hD hS => ?_)
  have hP : va_P D vwCl (MW a cI cJ he cm ad gw as de eq re co av hi ke sq ab be nw tn 0 cd) H := hP
  have hD : va_D A (MW a cI cJ he cm ad gw as de eq re co av hi ke sq ab be nw tn 0 cd) := hD
  refine lv_iload_n hx hb dX4_acquire_5 rfl (lv_at hl 1 rfl) ?_
  refine lv_iload_n hx hb dX4_acquire_6 rfl (lv_at hl 2 rfl) ?_
  refine b_csi (v := bI (prB (nI (o)) (nI (c)))) (W.runS (As := [.int (nI (o)), .int (nI (c))]) (rest := []) ⟨hx, hb, hml, hown, hts⟩ (c_X4_isPair ll (nI (o)) (nI (c)) ) (va_cwS 2 hts gX4_acquire_X4_isPair rfl rfl rfl (by decide +kernel) ⟨Nat.le_of_ble_eq_true rfl, Nat.le_of_ble_eq_true rfl⟩) ⟨PT.blind, PT.to⟩ rfl rfl hl.1 rfl (lv_room (Nat.le_of_ble_eq_true rfl)) dX4_acquire_7 ⟨Nat.le_of_ble_eq_true rfl, Nat.le_of_ble_eq_true rfl⟩) ?_
  refine lv_if_eq (tgt := 34) hx hb dX4_acquire_10 (by decide) (fun c_1 => ?_) (fun c_1 => ?_)
  · have n_1 : ¬ (prB (nI (o)) (nI (c))) = true := bI0 c_1
    exact absurd hpr n_1
  · have n_1 : (prB (nI (o)) (nI (c))) = true := bI1 c_1
    refine lv_iload_n hx hb dX4_acquire_13 rfl (lv_at hl 3 rfl) ?_
    refine lv_iconst (v := 1) hx hb dX4_acquire_14 (by decide) ?_
    refine lv_bipush (v := 100) hx hb dX4_acquire_15 (by decide) ?_
    refine b_csi (v := bI (inB x 1 100)) (W.runS (As := [.int (x), .int (1), .int (100)]) (rest := []) ⟨hx, hb, hml, hown, hts⟩ (c_X4_in ll x 1 100 ) (va_cwS 3 hts gX4_acquire_X4_in rfl rfl rfl (by decide +kernel) ⟨Nat.le_of_ble_eq_true rfl, Nat.le_of_ble_eq_true rfl⟩) ⟨PT.blind, PT.to⟩ rfl rfl hl.1 rfl (lv_room (Nat.le_of_ble_eq_true rfl)) dX4_acquire_17 ⟨Nat.le_of_ble_eq_true rfl, Nat.le_of_ble_eq_true rfl⟩) ?_
    refine lv_if_eq (tgt := 34) hx hb dX4_acquire_20 (by decide) (fun c_2 => ?_) (fun c_2 => ?_)
    · have n_2 : ¬ (inB x 1 100) = true := bI0 c_2
      exact absurd hqx n_2
    · have n_2 : (inB x 1 100) = true := bI1 c_2
      refine lv_iload hx hb dX4_acquire_23 (lv_at hl 4 rfl) ?_
      refine lv_iconst (v := 0) hx hb dX4_acquire_25 (by decide) ?_
      refine lv_ldc (v := 1000000) hx hb hown (hts (.constant RX4 105 (1000000)) (by decide +kernel)) dX4_acquire_26 ?_
      refine b_csi (v := bI (inB pz 0 ((1000000)))) (W.runS (As := [.int (pz), .int (0), .int ((1000000))]) (rest := []) ⟨hx, hb, hml, hown, hts⟩ (c_X4_in ll pz 0 ((1000000)) ) (va_cwS 3 hts gX4_acquire_X4_in rfl rfl rfl (by decide +kernel) ⟨Nat.le_of_ble_eq_true rfl, Nat.le_of_ble_eq_true rfl⟩) ⟨PT.blind, PT.to⟩ rfl rfl hl.1 rfl (lv_room (Nat.le_of_ble_eq_true rfl)) dX4_acquire_28 ⟨Nat.le_of_ble_eq_true rfl, Nat.le_of_ble_eq_true rfl⟩) ?_
      refine lv_if_ne (tgt := 40) hx hb dX4_acquire_31 (by decide) (fun c_3 => ?_) (fun c_3 => ?_)
      · have n_3 : (inB pz 0 ((1000000))) = true := bI1 c_3
        refine lv_aload_n hx hb dX4_acquire_40 rfl (lv_at hl 0 rfl) ?_
        refine va_get (D := D) (ci := 4) (v := .ref (a 1)) (C := RX4) (T := TX4) (N := 19) (Ts := wsX40) hx hb hin (fun _ h9 => h9) hown hK hP 0 rfl rfl 1 (by decide) (hts (.fieldLink RX4 7 "GroupbooksModel" "held" "[I") (by decide +kernel)) (fun _ h9 => h9) rfl dX4_acquire_41 ?_
        refine lv_bipush (v := 6) hx hb dX4_acquire_44 (by decide) ?_
        refine lv_iload_n hx hb dX4_acquire_46 rfl (lv_at hl 1 rfl) ?_
        refine lv_imul hx hb dX4_acquire_47 ?_
        refine b_ti (pk_mul (6) (o)) ?_
        refine lv_iload_n hx hb dX4_acquire_48 rfl (lv_at hl 2 rfl) ?_
        refine lv_iadd hx hb dX4_acquire_49 ?_
        refine b_ti (nI_add ((6) * (o)) (c)) ?_
        refine b_iald hx hb hK hP 1 0 (f := he) rfl rfl (j := ((6) * (o)) + (c)) (by omega) (by decide) dX4_acquire_50 ?_
        refine lv_iload_n hx hb dX4_acquire_51 rfl (lv_at hl 3 rfl) ?_
        refine lv_iadd hx hb dX4_acquire_52 ?_
        refine lv_istore (lv' := [(5, .int ((he (((6) * (o)) + (c))) + (x))), (0, .ref (a 0)), (1, .int (nI (o))), (2, .int (nI (c))), (3, .int (x)), (4, .int (pz))]) hx hb dX4_acquire_53 hl (by decide) rfl (fun ls hl => ?_)
        refine lv_aload_n hx hb dX4_acquire_55 rfl (lv_at hl 1 rfl) ?_
        refine lv_iload_n hx hb dX4_acquire_56 rfl (lv_at hl 2 rfl) ?_
        refine lv_iload_n hx hb dX4_acquire_57 rfl (lv_at hl 3 rfl) ?_
        refine lv_iload hx hb dX4_acquire_58 (lv_at hl 0 rfl) ?_
        refine b_calli0 (S := (Nat → Int64) × (Nat → Int64) × (Nat → Int64)) (w' := fun u_4 => MW a cI cJ he cm ad gw as de eq re co av hi ke (u_4.1) (u_4.2.1) (u_4.2.2) nw tn 0 cd) hP hD hS hA (va_runV (As := [.int (nI (o)), .int (nI (c)), .int ((he (((6) * (o)) + (c))) + (x))]) (rest := []) ⟨hx, hb, hml, hown, hts⟩ (c_X4_sets_no ll D a cI cJ _ he cm ad gw as de eq re co av hi ke sq ab be nw tn 0 cd o c ((he (((6) * (o)) + (c))) + (x)) ho hc hs hW) (cwV 3 hts gX4_acquire_X4_sets rfl rfl rfl (by decide +kernel) ⟨Nat.le_of_ble_eq_true rfl, Nat.le_of_ble_eq_true rfl⟩) ⟨PW.blind, va_recv hK hP (ci := 4) (q0 := 0) rfl rfl, PW.go hP hK hD hE⟩ rfl rfl hl.1 rfl (lv_room (Nat.le_of_ble_eq_true rfl)) dX4_acquire_60 ⟨Nat.le_of_ble_eq_true rfl, Nat.le_of_ble_eq_true rfl⟩) (fun r_6 u_4 H locs h_5 hP hD hS => ?_)
        obtain rfl : r_6 = 0 := h_5
        refine lv_if_ne (tgt := 72) hx hb dX4_acquire_63 (by decide) (fun c_7 => ?_) (fun c_7 => ?_)
        · have n_7 := c_7
          exact absurd c_7 (by decide)
        · have n_7 := c_7
          refine lv_aload_n hx hb dX4_acquire_66 rfl (lv_at hl 1 rfl) ?_
          refine lv_iconst (v := 2) hx hb dX4_acquire_67 (by decide) ?_
          refine b_calli0 (S := Unit) (w' := fun u => MW a cI cJ he cm ad gw as de eq re co av hi ke (u_4.1) (u_4.2.1) (u_4.2.2) nw tn 2 cd) hP hD hS hA (va_runV (As := [.int (2)]) (rest := []) ⟨hx, hb, hml, hown, hts⟩ (c_X4_fails ll D a cI cJ _ he cm ad gw as de eq re co av hi ke (u_4.1) (u_4.2.1) (u_4.2.2) nw tn 0 cd 2 ) (cwV 1 hts gX4_acquire_X4_fails rfl rfl rfl (by decide +kernel) ⟨Nat.le_of_ble_eq_true rfl, Nat.le_of_ble_eq_true rfl⟩) ⟨PW.blind, va_recv hK hP (ci := 4) (q0 := 0) rfl rfl, PW.go hP hK hD hE⟩ rfl rfl hl.1 rfl (lv_room (Nat.le_of_ble_eq_true rfl)) dX4_acquire_68 ⟨Nat.le_of_ble_eq_true rfl, Nat.le_of_ble_eq_true rfl⟩) (fun r_9 u H locs h_8 hP hD hS => ?_)
          have h_8 : r_9 = 0 := h_8
          subst h_8
          refine W.iret hx hb hr (fun t ht hW => ?_) hS.2.2 dX4_acquire_71
          refine ⟨⟨_, (u_4.1, u_4.2.1, u_4.2.2), rfl, ?_, ?_, va_K.moved hW.alike hK, ?_⟩, hS.F ht⟩
          · try dsimp only
            all_goals exact rfl
          · rw [ht]
            try dsimp only
            exact hP
          · try dsimp only
            exact hD
      · have n_3 : ¬ (inB pz 0 ((1000000))) = true := bI0 c_3
        exact absurd hz n_3

abbrev rmX4_acquire_bad : Room := ({ frames := 3, cells := 0, slots := 0, locals := 63 } : Room)
set_option maxHeartbeats 4000000 in
set_option maxRecDepth 100000 in
theorem c_X4_acquire_bad (ll : Launch) (D : va_G) (a : Nat → Nat) (cI cJ : ClassId) (sz : Nat) (he cm ad gw as de eq re co av hi ke : Nat → Int32) (sq ab be : Nat → Int64) (nw tn : Nat → Int32) (th cd : Int32) (x0 x1 x pz : Int32) (hbad : ¬ (prB x0 x1 = true ∧ inB x 1 100 = true ∧ inB pz 0 1000000 = true)) : Met ll yX4_acquire wsX4_acquire rmX4_acquire_bad (va_Pc [.ref (a 0), .int (x0), .int (x1), .int (x), .int (pz)] (PW D (tyG cI cJ) (MW a cI cJ he cm ad gw as de eq re co av hi ke sq ab be nw tn th cd) sz)) (va_Qi (fun (rr : Int32) (u : Unit) => rr = 0) (fun (u : Unit) t => AW D (tyG cI cJ) (va_A (MW a cI cJ he cm ad gw as de eq re co av hi ke sq ab be nw tn th cd) sz) (MW a cI cJ he cm ad gw as de eq re co av hi ke sq ab be nw tn 1 cd) t) (va_A (MW a cI cJ he cm ad gw as de eq re co av hi ke sq ab be nw tn th cd) sz)) 0 0 (va_A (MW a cI cJ he cm ad gw as de eq re co av hi ke sq ab be nw tn th cd) sz) := by
  refine Met.ofW (cc := cX4_acquire) (maxL := 6) (ret := (some .int)) (by decide) rfl ?_
  intro pp ee ss mm ar bel mth cde s₁ B hml hv
  obtain ⟨rfl, hsz, hP, hK, hD0, hE⟩ := hv
  have hx := B.exec
  have hb := B.bytes
  have hr := B.returns
  have hts := atoms_spec (ws := wsX4_acquire) B.pre
  have hown : ss.vm.findClass RX4 = some mm.cls := findClass_of_methodNamed B.named
  have hlocks := B.notSynchronized
  subst hsz
  have hD := hD0.self (sz := ss.heap.size)
  generalize hAe : va_A (MW a cI cJ he cm ad gw as de eq re co av hi ke sq ab be nw tn th cd) ss.heap.size = A at hD ⊢
  have hA : ∀ q : Nat, ss.heap.size ≤ q → A q := fun q h => by rw [← hAe]; exact Or.inr h
  have hS : va_S A ss.heap ss.heap [] := va_S.rf
  have hin : ∀ w ∈ wsX40, w.before ([.ref (a 0), .int (x0), .int (x1), .int (x), .int (pz)] : List Value).toArray ss = true := fun w h => hts w ((by decide +kernel : ∀ w ∈ wsX40, w ∈ wsX4_acquire) w h)
  have hl := lv_entry [.ref (a 0), .int (x0), .int (x1), .int (x), .int (pz)] (n := 6) (Nat.le_of_ble_eq_true rfl)
  rw [lg_entry_eq]
  generalize (lg_sl [.ref (a 0), .int (x0), .int (x1), .int (x), .int (pz)] ++ List.replicate (6 - (lg_sl [.ref (a 0), .int (x0), .int (x1), .int (x), .int (pz)]).length) Slot.unset).toArray = ls at hl ⊢
  have hl : lv_has ls 6 [(0, .ref (a 0)), (1, .int (x0)), (2, .int (x1)), (3, .int (x)), (4, .int (pz))] := hl
  refine lv_aload_n hx hb dX4_acquire_0 rfl (lv_at hl 0 rfl) ?_
  refine lv_iconst (v := 0) hx hb dX4_acquire_1 (by decide) ?_
  refine va_put (D := D) (ci := 4) (v := .int (0)) (ty := .int) (C := RX4) (T := TX4) (N := 19) (Ts := wsX40) hx hb hin (fun _ h9 => h9) tyX4 tyX4_ok nmX4 hown hK hP hD hS 0 rfl rfl 0 (by decide) (hts (.fieldLink RX4 62 "GroupbooksModel" "thrown" "I") (by decide +kernel)) (fun _ h9 => h9) rfl (by decide +kernel) rfl rfl (Nat.le_of_ble_eq_true rfl) dX4_acquire_2 (fun H locs hP hD hS => ?_)
  have hP : va_P D vwCl (MW a cI cJ he cm ad gw as de eq re co av hi ke sq ab be nw tn 0 cd) H := hP
  have hD : va_D A (MW a cI cJ he cm ad gw as de eq re co av hi ke sq ab be nw tn 0 cd) := hD
  refine lv_iload_n hx hb dX4_acquire_5 rfl (lv_at hl 1 rfl) ?_
  refine lv_iload_n hx hb dX4_acquire_6 rfl (lv_at hl 2 rfl) ?_
  refine b_csi (v := bI (prB x0 x1)) (W.runS (As := [.int (x0), .int (x1)]) (rest := []) ⟨hx, hb, hml, hown, hts⟩ (c_X4_isPair ll x0 x1 ) (va_cwS 2 hts gX4_acquire_X4_isPair rfl rfl rfl (by decide +kernel) ⟨Nat.le_of_ble_eq_true rfl, Nat.le_of_ble_eq_true rfl⟩) ⟨PT.blind, PT.to⟩ rfl rfl hl.1 rfl (lv_room (Nat.le_of_ble_eq_true rfl)) dX4_acquire_7 ⟨Nat.le_of_ble_eq_true rfl, Nat.le_of_ble_eq_true rfl⟩) ?_
  refine lv_if_eq (tgt := 34) hx hb dX4_acquire_10 (by decide) (fun c_1 => ?_) (fun c_1 => ?_)
  · have n_1 : ¬ (prB x0 x1) = true := bI0 c_1
    refine lv_aload_n hx hb dX4_acquire_34 rfl (lv_at hl 0 rfl) ?_
    refine lv_iconst (v := 1) hx hb dX4_acquire_35 (by decide) ?_
    refine b_calli0 (S := Unit) (w' := fun u => MW a cI cJ he cm ad gw as de eq re co av hi ke sq ab be nw tn 1 cd) hP hD hS hA (va_runV (As := [.int (1)]) (rest := []) ⟨hx, hb, hml, hown, hts⟩ (c_X4_fails ll D a cI cJ _ he cm ad gw as de eq re co av hi ke sq ab be nw tn 0 cd 1 ) (cwV 1 hts gX4_acquire_X4_fails rfl rfl rfl (by decide +kernel) ⟨Nat.le_of_ble_eq_true rfl, Nat.le_of_ble_eq_true rfl⟩) ⟨PW.blind, va_recv hK hP (ci := 4) (q0 := 0) rfl rfl, PW.go hP hK hD hE⟩ rfl rfl hl.1 rfl (lv_room (Nat.le_of_ble_eq_true rfl)) dX4_acquire_36 ⟨Nat.le_of_ble_eq_true rfl, Nat.le_of_ble_eq_true rfl⟩) (fun r_3 u H locs h_2 hP hD hS => ?_)
    have h_2 : r_3 = 0 := h_2
    subst h_2
    exact W.iret hx hb hr (fun t ht hW => ⟨⟨_, (), rfl, rfl, (by rw [ht]; exact hP), va_K.moved hW.alike hK, hD⟩, hS.F ht⟩) hS.2.2 dX4_acquire_39
  · have n_1 : (prB x0 x1) = true := bI1 c_1
    refine lv_iload_n hx hb dX4_acquire_13 rfl (lv_at hl 3 rfl) ?_
    refine lv_iconst (v := 1) hx hb dX4_acquire_14 (by decide) ?_
    refine lv_bipush (v := 100) hx hb dX4_acquire_15 (by decide) ?_
    refine b_csi (v := bI (inB x 1 100)) (W.runS (As := [.int (x), .int (1), .int (100)]) (rest := []) ⟨hx, hb, hml, hown, hts⟩ (c_X4_in ll x 1 100 ) (va_cwS 3 hts gX4_acquire_X4_in rfl rfl rfl (by decide +kernel) ⟨Nat.le_of_ble_eq_true rfl, Nat.le_of_ble_eq_true rfl⟩) ⟨PT.blind, PT.to⟩ rfl rfl hl.1 rfl (lv_room (Nat.le_of_ble_eq_true rfl)) dX4_acquire_17 ⟨Nat.le_of_ble_eq_true rfl, Nat.le_of_ble_eq_true rfl⟩) ?_
    refine lv_if_eq (tgt := 34) hx hb dX4_acquire_20 (by decide) (fun c_4 => ?_) (fun c_4 => ?_)
    · have n_4 : ¬ (inB x 1 100) = true := bI0 c_4
      refine lv_aload_n hx hb dX4_acquire_34 rfl (lv_at hl 0 rfl) ?_
      refine lv_iconst (v := 1) hx hb dX4_acquire_35 (by decide) ?_
      refine b_calli0 (S := Unit) (w' := fun u => MW a cI cJ he cm ad gw as de eq re co av hi ke sq ab be nw tn 1 cd) hP hD hS hA (va_runV (As := [.int (1)]) (rest := []) ⟨hx, hb, hml, hown, hts⟩ (c_X4_fails ll D a cI cJ _ he cm ad gw as de eq re co av hi ke sq ab be nw tn 0 cd 1 ) (cwV 1 hts gX4_acquire_X4_fails rfl rfl rfl (by decide +kernel) ⟨Nat.le_of_ble_eq_true rfl, Nat.le_of_ble_eq_true rfl⟩) ⟨PW.blind, va_recv hK hP (ci := 4) (q0 := 0) rfl rfl, PW.go hP hK hD hE⟩ rfl rfl hl.1 rfl (lv_room (Nat.le_of_ble_eq_true rfl)) dX4_acquire_36 ⟨Nat.le_of_ble_eq_true rfl, Nat.le_of_ble_eq_true rfl⟩) (fun r_6 u H locs h_5 hP hD hS => ?_)
      have h_5 : r_6 = 0 := h_5
      subst h_5
      exact W.iret hx hb hr (fun t ht hW => ⟨⟨_, (), rfl, rfl, (by rw [ht]; exact hP), va_K.moved hW.alike hK, hD⟩, hS.F ht⟩) hS.2.2 dX4_acquire_39
    · have n_4 : (inB x 1 100) = true := bI1 c_4
      refine lv_iload hx hb dX4_acquire_23 (lv_at hl 4 rfl) ?_
      refine lv_iconst (v := 0) hx hb dX4_acquire_25 (by decide) ?_
      refine lv_ldc (v := 1000000) hx hb hown (hts (.constant RX4 105 (1000000)) (by decide +kernel)) dX4_acquire_26 ?_
      refine b_csi (v := bI (inB pz 0 ((1000000)))) (W.runS (As := [.int (pz), .int (0), .int ((1000000))]) (rest := []) ⟨hx, hb, hml, hown, hts⟩ (c_X4_in ll pz 0 ((1000000)) ) (va_cwS 3 hts gX4_acquire_X4_in rfl rfl rfl (by decide +kernel) ⟨Nat.le_of_ble_eq_true rfl, Nat.le_of_ble_eq_true rfl⟩) ⟨PT.blind, PT.to⟩ rfl rfl hl.1 rfl (lv_room (Nat.le_of_ble_eq_true rfl)) dX4_acquire_28 ⟨Nat.le_of_ble_eq_true rfl, Nat.le_of_ble_eq_true rfl⟩) ?_
      refine lv_if_ne (tgt := 40) hx hb dX4_acquire_31 (by decide) (fun c_7 => ?_) (fun c_7 => ?_)
      · have n_7 : (inB pz 0 ((1000000))) = true := bI1 c_7
        exact absurd (And.intro n_1 (And.intro n_4 n_7)) hbad
      · have n_7 : ¬ (inB pz 0 ((1000000))) = true := bI0 c_7
        refine lv_aload_n hx hb dX4_acquire_34 rfl (lv_at hl 0 rfl) ?_
        refine lv_iconst (v := 1) hx hb dX4_acquire_35 (by decide) ?_
        refine b_calli0 (S := Unit) (w' := fun u => MW a cI cJ he cm ad gw as de eq re co av hi ke sq ab be nw tn 1 cd) hP hD hS hA (va_runV (As := [.int (1)]) (rest := []) ⟨hx, hb, hml, hown, hts⟩ (c_X4_fails ll D a cI cJ _ he cm ad gw as de eq re co av hi ke sq ab be nw tn 0 cd 1 ) (cwV 1 hts gX4_acquire_X4_fails rfl rfl rfl (by decide +kernel) ⟨Nat.le_of_ble_eq_true rfl, Nat.le_of_ble_eq_true rfl⟩) ⟨PW.blind, va_recv hK hP (ci := 4) (q0 := 0) rfl rfl, PW.go hP hK hD hE⟩ rfl rfl hl.1 rfl (lv_room (Nat.le_of_ble_eq_true rfl)) dX4_acquire_36 ⟨Nat.le_of_ble_eq_true rfl, Nat.le_of_ble_eq_true rfl⟩) (fun r_9 u H locs h_8 hP hD hS => ?_)
        have h_8 : r_9 = 0 := h_8
        subst h_8
        exact W.iret hx hb hr (fun t ht hW => ⟨⟨_, (), rfl, rfl, (by rw [ht]; exact hP), va_K.moved hW.alike hK, hD⟩, hS.F ht⟩) hS.2.2 dX4_acquire_39

abbrev rmX4_held : Room := ({ frames := 2, cells := 0, slots := 0, locals := 42 } : Room)
set_option maxHeartbeats 4000000 in
set_option maxRecDepth 100000 in
theorem c_X4_held (ll : Launch) (D : va_G) (a : Nat → Nat) (cI cJ : ClassId) (sz : Nat) (he cm ad gw as de eq re co av hi ke : Nat → Int32) (sq ab be : Nat → Int64) (nw tn : Nat → Int32) (th cd : Int32) (o c : Nat) (ho : o < 6) (hc : c < 6) : Met ll yX4_held wsX4_held rmX4_held (va_Pc [.ref (a 0), .int (nI (o)), .int (nI (c))] (PW D (tyG cI cJ) (MW a cI cJ he cm ad gw as de eq re co av hi ke sq ab be nw tn th cd) sz)) (va_Qi (fun (rr : Int32) (u : Unit) => rr = he (6 * o + c)) (fun (u : Unit) t => AW D (tyG cI cJ) (va_A (MW a cI cJ he cm ad gw as de eq re co av hi ke sq ab be nw tn th cd) sz) (MW a cI cJ he cm ad gw as de eq re co av hi ke sq ab be nw tn 0 cd) t) (va_A (MW a cI cJ he cm ad gw as de eq re co av hi ke sq ab be nw tn th cd) sz)) 0 0 (va_A (MW a cI cJ he cm ad gw as de eq re co av hi ke sq ab be nw tn th cd) sz) := by
  refine Met.ofW (cc := cX4_held) (maxL := 3) (ret := (some .int)) (by decide) rfl ?_
  intro pp ee ss mm ar bel mth cde s₁ B hml hv
  obtain ⟨rfl, hsz, hP, hK, hD0, hE⟩ := hv
  have hx := B.exec
  have hb := B.bytes
  have hr := B.returns
  have hts := atoms_spec (ws := wsX4_held) B.pre
  have hown : ss.vm.findClass RX4 = some mm.cls := findClass_of_methodNamed B.named
  have hlocks := B.notSynchronized
  subst hsz
  have hD := hD0.self (sz := ss.heap.size)
  generalize hAe : va_A (MW a cI cJ he cm ad gw as de eq re co av hi ke sq ab be nw tn th cd) ss.heap.size = A at hD ⊢
  have hA : ∀ q : Nat, ss.heap.size ≤ q → A q := fun q h => by rw [← hAe]; exact Or.inr h
  have hS : va_S A ss.heap ss.heap [] := va_S.rf
  have hin : ∀ w ∈ wsX40, w.before ([.ref (a 0), .int (nI (o)), .int (nI (c))] : List Value).toArray ss = true := fun w h => hts w ((by decide +kernel : ∀ w ∈ wsX40, w ∈ wsX4_held) w h)
  have hl := lv_entry [.ref (a 0), .int (nI (o)), .int (nI (c))] (n := 3) (Nat.le_of_ble_eq_true rfl)
  rw [lg_entry_eq]
  generalize (lg_sl [.ref (a 0), .int (nI (o)), .int (nI (c))] ++ List.replicate (3 - (lg_sl [.ref (a 0), .int (nI (o)), .int (nI (c))]).length) Slot.unset).toArray = ls at hl ⊢
  have hl : lv_has ls 3 [(0, .ref (a 0)), (1, .int (nI (o))), (2, .int (nI (c)))] := hl
  refine lv_aload_n hx hb dX4_held_0 rfl (lv_at hl 0 rfl) ?_
  refine lv_iconst (v := 0) hx hb dX4_held_1 (by decide) ?_
  refine va_put (D := D) (ci := 4) (v := .int (0)) (ty := .int) (C := RX4) (T := TX4) (N := 19) (Ts := wsX40) hx hb hin (fun _ h9 => h9) tyX4 tyX4_ok nmX4 hown hK hP hD hS 0 rfl rfl 0 (by decide) (hts (.fieldLink RX4 62 "GroupbooksModel" "thrown" "I") (by decide +kernel)) (fun _ h9 => h9) rfl (by decide +kernel) rfl rfl (Nat.le_of_ble_eq_true rfl) dX4_held_2 (fun H locs hP hD hS => ?_)
  have hP : va_P D vwCl (MW a cI cJ he cm ad gw as de eq re co av hi ke sq ab be nw tn 0 cd) H := hP
  have hD : va_D A (MW a cI cJ he cm ad gw as de eq re co av hi ke sq ab be nw tn 0 cd) := hD
  refine lv_iload_n hx hb dX4_held_5 rfl (lv_at hl 1 rfl) ?_
  refine b_csi (v := bI (inB (nI (o)) 0 5)) (W.runS (As := [.int (nI (o))]) (rest := []) ⟨hx, hb, hml, hown, hts⟩ (c_X4_isCompany ll (nI (o)) ) (va_cwS 1 hts gX4_held_X4_isCompany rfl rfl rfl (by decide +kernel) ⟨Nat.le_of_ble_eq_true rfl, Nat.le_of_ble_eq_true rfl⟩) ⟨PT.blind, PT.to⟩ rfl rfl hl.1 rfl (lv_room (Nat.le_of_ble_eq_true rfl)) dX4_held_6 ⟨Nat.le_of_ble_eq_true rfl, Nat.le_of_ble_eq_true rfl⟩) ?_
  refine lv_if_eq (tgt := 33) hx hb dX4_held_9 (by decide) (fun c_1 => ?_) (fun c_1 => ?_)
  · have n_1 : ¬ (inB (nI (o)) 0 5) = true := bI0 c_1
    exact absurd (inB_c o ho) n_1
  · have n_1 : (inB (nI (o)) 0 5) = true := bI1 c_1
    refine lv_iload_n hx hb dX4_held_12 rfl (lv_at hl 2 rfl) ?_
    refine b_csi (v := bI (inB (nI (c)) 0 5)) (W.runS (As := [.int (nI (c))]) (rest := []) ⟨hx, hb, hml, hown, hts⟩ (c_X4_isCompany ll (nI (c)) ) (va_cwS 1 hts gX4_held_X4_isCompany rfl rfl rfl (by decide +kernel) ⟨Nat.le_of_ble_eq_true rfl, Nat.le_of_ble_eq_true rfl⟩) ⟨PT.blind, PT.to⟩ rfl rfl hl.1 rfl (lv_room (Nat.le_of_ble_eq_true rfl)) dX4_held_13 ⟨Nat.le_of_ble_eq_true rfl, Nat.le_of_ble_eq_true rfl⟩) ?_
    refine lv_if_eq (tgt := 33) hx hb dX4_held_16 (by decide) (fun c_2 => ?_) (fun c_2 => ?_)
    · have n_2 : ¬ (inB (nI (c)) 0 5) = true := bI0 c_2
      exact absurd (inB_c c hc) n_2
    · have n_2 : (inB (nI (c)) 0 5) = true := bI1 c_2
      refine lv_aload_n hx hb dX4_held_19 rfl (lv_at hl 0 rfl) ?_
      refine va_get (D := D) (ci := 4) (v := .ref (a 1)) (C := RX4) (T := TX4) (N := 19) (Ts := wsX40) hx hb hin (fun _ h9 => h9) hown hK hP 0 rfl rfl 1 (by decide) (hts (.fieldLink RX4 7 "GroupbooksModel" "held" "[I") (by decide +kernel)) (fun _ h9 => h9) rfl dX4_held_20 ?_
      refine lv_bipush (v := 6) hx hb dX4_held_23 (by decide) ?_
      refine lv_iload_n hx hb dX4_held_25 rfl (lv_at hl 1 rfl) ?_
      refine lv_imul hx hb dX4_held_26 ?_
      refine b_ti (pk_mul (6) (o)) ?_
      refine lv_iload_n hx hb dX4_held_27 rfl (lv_at hl 2 rfl) ?_
      refine lv_iadd hx hb dX4_held_28 ?_
      refine b_ti (nI_add ((6) * (o)) (c)) ?_
      refine b_iald hx hb hK hP 1 0 (f := he) rfl rfl (j := ((6) * (o)) + (c)) (by omega) (by decide) dX4_held_29 ?_
      refine lv_goto (tgt := 38) hx hb dX4_held_30 (by decide) ?_
      exact W.iret hx hb hr (fun t ht hW => ⟨⟨_, (), rfl, rfl, (by rw [ht]; exact hP), va_K.moved hW.alike hK, hD⟩, hS.F ht⟩) hS.2.2 dX4_held_38

abbrev rmX4_held_bad : Room := ({ frames := 2, cells := 0, slots := 0, locals := 42 } : Room)
set_option maxHeartbeats 4000000 in
set_option maxRecDepth 100000 in
theorem c_X4_held_bad (ll : Launch) (D : va_G) (a : Nat → Nat) (cI cJ : ClassId) (sz : Nat) (he cm ad gw as de eq re co av hi ke : Nat → Int32) (sq ab be : Nat → Int64) (nw tn : Nat → Int32) (th cd : Int32) (x0 x1 : Int32) (hbad : ¬ (inB x0 0 5 = true ∧ inB x1 0 5 = true)) : Met ll yX4_held wsX4_held rmX4_held_bad (va_Pc [.ref (a 0), .int (x0), .int (x1)] (PW D (tyG cI cJ) (MW a cI cJ he cm ad gw as de eq re co av hi ke sq ab be nw tn th cd) sz)) (va_Qi (fun (rr : Int32) (u : Unit) => rr = 0) (fun (u : Unit) t => AW D (tyG cI cJ) (va_A (MW a cI cJ he cm ad gw as de eq re co av hi ke sq ab be nw tn th cd) sz) (MW a cI cJ he cm ad gw as de eq re co av hi ke sq ab be nw tn 1 cd) t) (va_A (MW a cI cJ he cm ad gw as de eq re co av hi ke sq ab be nw tn th cd) sz)) 0 0 (va_A (MW a cI cJ he cm ad gw as de eq re co av hi ke sq ab be nw tn th cd) sz) := by
  refine Met.ofW (cc := cX4_held) (maxL := 3) (ret := (some .int)) (by decide) rfl ?_
  intro pp ee ss mm ar bel mth cde s₁ B hml hv
  obtain ⟨rfl, hsz, hP, hK, hD0, hE⟩ := hv
  have hx := B.exec
  have hb := B.bytes
  have hr := B.returns
  have hts := atoms_spec (ws := wsX4_held) B.pre
  have hown : ss.vm.findClass RX4 = some mm.cls := findClass_of_methodNamed B.named
  have hlocks := B.notSynchronized
  subst hsz
  have hD := hD0.self (sz := ss.heap.size)
  generalize hAe : va_A (MW a cI cJ he cm ad gw as de eq re co av hi ke sq ab be nw tn th cd) ss.heap.size = A at hD ⊢
  have hA : ∀ q : Nat, ss.heap.size ≤ q → A q := fun q h => by rw [← hAe]; exact Or.inr h
  have hS : va_S A ss.heap ss.heap [] := va_S.rf
  have hin : ∀ w ∈ wsX40, w.before ([.ref (a 0), .int (x0), .int (x1)] : List Value).toArray ss = true := fun w h => hts w ((by decide +kernel : ∀ w ∈ wsX40, w ∈ wsX4_held) w h)
  have hl := lv_entry [.ref (a 0), .int (x0), .int (x1)] (n := 3) (Nat.le_of_ble_eq_true rfl)
  rw [lg_entry_eq]
  generalize (lg_sl [.ref (a 0), .int (x0), .int (x1)] ++ List.replicate (3 - (lg_sl [.ref (a 0), .int (x0), .int (x1)]).length) Slot.unset).toArray = ls at hl ⊢
  have hl : lv_has ls 3 [(0, .ref (a 0)), (1, .int (x0)), (2, .int (x1))] := hl
  refine lv_aload_n hx hb dX4_held_0 rfl (lv_at hl 0 rfl) ?_
  refine lv_iconst (v := 0) hx hb dX4_held_1 (by decide) ?_
  refine va_put (D := D) (ci := 4) (v := .int (0)) (ty := .int) (C := RX4) (T := TX4) (N := 19) (Ts := wsX40) hx hb hin (fun _ h9 => h9) tyX4 tyX4_ok nmX4 hown hK hP hD hS 0 rfl rfl 0 (by decide) (hts (.fieldLink RX4 62 "GroupbooksModel" "thrown" "I") (by decide +kernel)) (fun _ h9 => h9) rfl (by decide +kernel) rfl rfl (Nat.le_of_ble_eq_true rfl) dX4_held_2 (fun H locs hP hD hS => ?_)
  have hP : va_P D vwCl (MW a cI cJ he cm ad gw as de eq re co av hi ke sq ab be nw tn 0 cd) H := hP
  have hD : va_D A (MW a cI cJ he cm ad gw as de eq re co av hi ke sq ab be nw tn 0 cd) := hD
  refine lv_iload_n hx hb dX4_held_5 rfl (lv_at hl 1 rfl) ?_
  refine b_csi (v := bI (inB x0 0 5)) (W.runS (As := [.int (x0)]) (rest := []) ⟨hx, hb, hml, hown, hts⟩ (c_X4_isCompany ll x0 ) (va_cwS 1 hts gX4_held_X4_isCompany rfl rfl rfl (by decide +kernel) ⟨Nat.le_of_ble_eq_true rfl, Nat.le_of_ble_eq_true rfl⟩) ⟨PT.blind, PT.to⟩ rfl rfl hl.1 rfl (lv_room (Nat.le_of_ble_eq_true rfl)) dX4_held_6 ⟨Nat.le_of_ble_eq_true rfl, Nat.le_of_ble_eq_true rfl⟩) ?_
  refine lv_if_eq (tgt := 33) hx hb dX4_held_9 (by decide) (fun c_1 => ?_) (fun c_1 => ?_)
  · have n_1 : ¬ (inB x0 0 5) = true := bI0 c_1
    refine lv_aload_n hx hb dX4_held_33 rfl (lv_at hl 0 rfl) ?_
    refine lv_iconst (v := 1) hx hb dX4_held_34 (by decide) ?_
    refine b_calli0 (S := Unit) (w' := fun u => MW a cI cJ he cm ad gw as de eq re co av hi ke sq ab be nw tn 1 cd) hP hD hS hA (va_runV (As := [.int (1)]) (rest := []) ⟨hx, hb, hml, hown, hts⟩ (c_X4_fails ll D a cI cJ _ he cm ad gw as de eq re co av hi ke sq ab be nw tn 0 cd 1 ) (cwV 1 hts gX4_held_X4_fails rfl rfl rfl (by decide +kernel) ⟨Nat.le_of_ble_eq_true rfl, Nat.le_of_ble_eq_true rfl⟩) ⟨PW.blind, va_recv hK hP (ci := 4) (q0 := 0) rfl rfl, PW.go hP hK hD hE⟩ rfl rfl hl.1 rfl (lv_room (Nat.le_of_ble_eq_true rfl)) dX4_held_35 ⟨Nat.le_of_ble_eq_true rfl, Nat.le_of_ble_eq_true rfl⟩) (fun r_3 u H locs h_2 hP hD hS => ?_)
    have h_2 : r_3 = 0 := h_2
    subst h_2
    exact W.iret hx hb hr (fun t ht hW => ⟨⟨_, (), rfl, rfl, (by rw [ht]; exact hP), va_K.moved hW.alike hK, hD⟩, hS.F ht⟩) hS.2.2 dX4_held_38
  · have n_1 : (inB x0 0 5) = true := bI1 c_1
    refine lv_iload_n hx hb dX4_held_12 rfl (lv_at hl 2 rfl) ?_
    refine b_csi (v := bI (inB x1 0 5)) (W.runS (As := [.int (x1)]) (rest := []) ⟨hx, hb, hml, hown, hts⟩ (c_X4_isCompany ll x1 ) (va_cwS 1 hts gX4_held_X4_isCompany rfl rfl rfl (by decide +kernel) ⟨Nat.le_of_ble_eq_true rfl, Nat.le_of_ble_eq_true rfl⟩) ⟨PT.blind, PT.to⟩ rfl rfl hl.1 rfl (lv_room (Nat.le_of_ble_eq_true rfl)) dX4_held_13 ⟨Nat.le_of_ble_eq_true rfl, Nat.le_of_ble_eq_true rfl⟩) ?_
    refine lv_if_eq (tgt := 33) hx hb dX4_held_16 (by decide) (fun c_4 => ?_) (fun c_4 => ?_)
    · have n_4 : ¬ (inB x1 0 5) = true := bI0 c_4
      refine lv_aload_n hx hb dX4_held_33 rfl (lv_at hl 0 rfl) ?_
      refine lv_iconst (v := 1) hx hb dX4_held_34 (by decide) ?_
      refine b_calli0 (S := Unit) (w' := fun u => MW a cI cJ he cm ad gw as de eq re co av hi ke sq ab be nw tn 1 cd) hP hD hS hA (va_runV (As := [.int (1)]) (rest := []) ⟨hx, hb, hml, hown, hts⟩ (c_X4_fails ll D a cI cJ _ he cm ad gw as de eq re co av hi ke sq ab be nw tn 0 cd 1 ) (cwV 1 hts gX4_held_X4_fails rfl rfl rfl (by decide +kernel) ⟨Nat.le_of_ble_eq_true rfl, Nat.le_of_ble_eq_true rfl⟩) ⟨PW.blind, va_recv hK hP (ci := 4) (q0 := 0) rfl rfl, PW.go hP hK hD hE⟩ rfl rfl hl.1 rfl (lv_room (Nat.le_of_ble_eq_true rfl)) dX4_held_35 ⟨Nat.le_of_ble_eq_true rfl, Nat.le_of_ble_eq_true rfl⟩) (fun r_6 u H locs h_5 hP hD hS => ?_)
      have h_5 : r_6 = 0 := h_5
      subst h_5
      exact W.iret hx hb hr (fun t ht hW => ⟨⟨_, (), rfl, rfl, (by rw [ht]; exact hP), va_K.moved hW.alike hK, hD⟩, hS.F ht⟩) hS.2.2 dX4_held_38
    · have n_4 : (inB x1 0 5) = true := bI1 c_4
      exact absurd (And.intro n_1 n_4) hbad
