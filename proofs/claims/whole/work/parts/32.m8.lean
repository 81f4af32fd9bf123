abbrev rmX4_setBooks : Room := ({ frames := 2, cells := 0, slots := 0, locals := 42 } : Room)
set_option maxHeartbeats 4000000 in
set_option maxRecDepth 100000 in
theorem c_X4_setBooks (ll : Launch) (D : va_G) (a : Nat → Nat) (cI cJ : ClassId) (sz : Nat) (he cm ad gw as de eq re co av hi ke : Nat → Int32) (sq ab be : Nat → Int64) (nw tn : Nat → Int32) (th cd : Int32) (c : Nat) (x1 x2 x3 x4 : Int32) (hc : c < 6) (h1 : inB x1 0 1000000 = true) (h2 : inB x2 0 1000000 = true) (h3 : inB x3 (-1000000) 1000000 = true) (h4 : inB x4 (-1000000) 1000000 = true) (h5 : x1 = x2 + x3 + x4) : Met ll yX4_setBooks wsX4_setBooks rmX4_setBooks (va_Pc [.ref (a 0), .int (nI (c)), .int (x1), .int (x2), .int (x3), .int (x4)] (PW D (tyG cI cJ) (MW a cI cJ he cm ad gw as de eq re co av hi ke sq ab be nw tn th cd) sz)) (va_Qv (fun (u : Unit) => True) (fun (u : Unit) t => AW D (tyG cI cJ) (va_A (MW a cI cJ he cm ad gw as de eq re co av hi ke sq ab be nw tn th cd) sz) (MW a cI cJ he cm ad gw (upd as c x1) (upd de c x2) (upd eq c x3) (upd re c x4) co av hi ke sq ab be nw tn 0 cd) t) (va_A (MW a cI cJ he cm ad gw as de eq re co av hi ke sq ab be nw tn th cd) sz)) 0 0 (va_A (MW a cI cJ he cm ad gw as de eq re co av hi ke sq ab be nw tn th cd) sz) := by
  refine Met.ofW (cc := cX4_setBooks) (maxL := 7) (ret := none) (by decide) rfl ?_
  intro pp ee ss mm ar bel mth cde s₁ B hml hv
  obtain ⟨rfl, hsz, hP, hK, hD0, hE⟩ := hv
  have hx := B.exec
  have hb := B.bytes
  have hr := B.returns
  have hts := atoms_spec (ws := wsX4_setBooks) B.pre
  have hown : ss.vm.findClass RX4 = some mm.cls := findClass_of_methodNamed B.named
  have hlocks := B.notSynchronized
  subst hsz
  have hD := hD0.self (sz := ss.heap.size)
  generalize hAe : va_A (MW a cI cJ he cm ad gw as de eq re co av hi ke sq ab be nw tn th cd) ss.heap.size = A at hD ⊢
  have hA : ∀ q : Nat, ss.heap.size ≤ q → A q := fun q h => by rw [← hAe]; exact Or.inr h
  have hS : va_S A ss.heap ss.heap [] := va_S.rf
  have hin : ∀ w ∈ wsX40, w.before ([.ref (a 0), .int (nI (c)), .int (x1), .int (x2), .int (x3), .int (x4)] : List Value).toArray ss = true := fun w h => hts w ((by decide +kernel : ∀ w ∈ wsX40, w ∈ wsX4_setBooks) w h)
  have hl := lv_entry [.ref (a 0), .int (nI (c)), .int (x1), .int (x2), .int (x3), .int (x4)] (n := 7) (Nat.le_of_ble_eq_true rfl)
  rw [lg_entry_eq]
  generalize (lg_sl [.ref (a 0), .int (nI (c)), .int (x1), .int (x2), .int (x3), .int (x4)] ++ List.replicate (7 - (lg_sl [.ref (a 0), .int (nI (c)), .int (x1), .int (x2), .int (x3), .int (x4)]).length) Slot.unset).toArray = ls at hl ⊢
  have hl : lv_has ls 7 [(0, .ref (a 0)), (1, .int (nI (c))), (2, .int (x1)), (3, .int (x2)), (4, .int (x3)), (5, .int (x4))] := hl
  refine lv_iload_n hx hb dX4_setBooks_0 rfl (lv_at hl 1 rfl) ?_
  refine b_csi (v := bI (inB (nI (c)) 0 5)) (W.runS (As := [.int (nI (c))]) (rest := []) ⟨hx, hb, hml, hown, hts⟩ (c_X4_isCompany ll (nI (c)) ) (va_cwS 1 hts gX4_setBooks_X4_isCompany rfl rfl rfl (by decide +kernel) ⟨Nat.le_of_ble_eq_true rfl, Nat.le_of_ble_eq_true rfl⟩) ⟨PT.blind, PT.to⟩ rfl rfl hl.1 rfl (lv_room (Nat.le_of_ble_eq_true rfl)) dX4_setBooks_1 ⟨Nat.le_of_ble_eq_true rfl, Nat.le_of_ble_eq_true rfl⟩) ?_
  refine lv_if_eq (tgt := 66) hx hb dX4_setBooks_4 (by decide) (fun c_1 => ?_) (fun c_1 => ?_)
  · have n_1 : ¬ (inB (nI (c)) 0 5) = true := bI0 c_1
    exact absurd (inB_c c hc) n_1
  · have n_1 : (inB (nI (c)) 0 5) = true := bI1 c_1
    refine lv_iload_n hx hb dX4_setBooks_7 rfl (lv_at hl 2 rfl) ?_
    refine lv_iconst (v := 0) hx hb dX4_setBooks_8 (by decide) ?_
    refine lv_ldc (v := 1000000) hx hb hown (hts (.constant RX4 105 (1000000)) (by decide +kernel)) dX4_setBooks_9 ?_
    refine b_csi (v := bI (inB x1 0 ((1000000)))) (W.runS (As := [.int (x1), .int (0), .int ((1000000))]) (rest := []) ⟨hx, hb, hml, hown, hts⟩ (c_X4_in ll x1 0 ((1000000)) ) (va_cwS 3 hts gX4_setBooks_X4_in rfl rfl rfl (by decide +kernel) ⟨Nat.le_of_ble_eq_true rfl, Nat.le_of_ble_eq_true rfl⟩) ⟨PT.blind, PT.to⟩ rfl rfl hl.1 rfl (lv_room (Nat.le_of_ble_eq_true rfl)) dX4_setBooks_11 ⟨Nat.le_of_ble_eq_true rfl, Nat.le_of_ble_eq_true rfl⟩) ?_
    refine lv_if_eq (tgt := 66) hx hb dX4_setBooks_14 (by decide) (fun c_2 => ?_) (fun c_2 => ?_)
    · have n_2 : ¬ (inB x1 0 ((1000000))) = true := bI0 c_2
      exact absurd h1 n_2
    · have n_2 : (inB x1 0 ((1000000))) = true := bI1 c_2
      refine lv_iload_n hx hb dX4_setBooks_17 rfl (lv_at hl 3 rfl) ?_
      refine lv_iconst (v := 0) hx hb dX4_setBooks_18 (by decide) ?_
      refine lv_ldc (v := 1000000) hx hb hown (hts (.constant RX4 105 (1000000)) (by decide +kernel)) dX4_setBooks_19 ?_
      refine b_csi (v := bI (inB x2 0 ((1000000)))) (W.runS (As := [.int (x2), .int (0), .int ((1000000))]) (rest := []) ⟨hx, hb, hml, hown, hts⟩ (c_X4_in ll x2 0 ((1000000)) ) (va_cwS 3 hts gX4_setBooks_X4_in rfl rfl rfl (by decide +kernel) ⟨Nat.le_of_ble_eq_true rfl, Nat.le_of_ble_eq_true rfl⟩) ⟨PT.blind, PT.to⟩ rfl rfl hl.1 rfl (lv_room (Nat.le_of_ble_eq_true rfl)) dX4_setBooks_21 ⟨Nat.le_of_ble_eq_true rfl, Nat.le_of_ble_eq_true rfl⟩) ?_
      refine lv_if_eq (tgt := 66) hx hb dX4_setBooks_24 (by decide) (fun c_3 => ?_) (fun c_3 => ?_)
      · have n_3 : ¬ (inB x2 0 ((1000000))) = true := bI0 c_3
        exact absurd h2 n_3
      · have n_3 : (inB x2 0 ((1000000))) = true := bI1 c_3
        refine lv_iload hx hb dX4_setBooks_27 (lv_at hl 4 rfl) ?_
        refine lv_ldc (v := -1000000) hx hb hown (hts (.constant RX4 118 (-1000000)) (by decide +kernel)) dX4_setBooks_29 ?_
        refine lv_ldc (v := 1000000) hx hb hown (hts (.constant RX4 105 (1000000)) (by decide +kernel)) dX4_setBooks_31 ?_
        refine b_csi (v := bI (inB x3 ((-1000000)) ((1000000)))) (W.runS (As := [.int (x3), .int ((-1000000)), .int ((1000000))]) (rest := []) ⟨hx, hb, hml, hown, hts⟩ (c_X4_in ll x3 ((-1000000)) ((1000000)) ) (va_cwS 3 hts gX4_setBooks_X4_in rfl rfl rfl (by decide +kernel) ⟨Nat.le_of_ble_eq_true rfl, Nat.le_of_ble_eq_true rfl⟩) ⟨PT.blind, PT.to⟩ rfl rfl hl.1 rfl (lv_room (Nat.le_of_ble_eq_true rfl)) dX4_setBooks_33 ⟨Nat.le_of_ble_eq_true rfl, Nat.le_of_ble_eq_true rfl⟩) ?_
        refine lv_if_eq (tgt := 66) hx hb dX4_setBooks_36 (by decide) (fun c_4 => ?_) (fun c_4 => ?_)
        · have n_4 : ¬ (inB x3 ((-1000000)) ((1000000))) = true := bI0 c_4
          exact absurd h3 n_4
        · have n_4 : (inB x3 ((-1000000)) ((1000000))) = true := bI1 c_4
          refine lv_iload hx hb dX4_setBooks_39 (lv_at hl 5 rfl) ?_
          refine lv_ldc (v := -1000000) hx hb hown (hts (.constant RX4 118 (-1000000)) (by decide +kernel)) dX4_setBooks_41 ?_
          refine lv_ldc (v := 1000000) hx hb hown (hts (.constant RX4 105 (1000000)) (by decide +kernel)) dX4_setBooks_43 ?_
          refine b_csi (v := bI (inB x4 ((-1000000)) ((1000000)))) (W.runS (As := [.int (x4), .int ((-1000000)), .int ((1000000))]) (rest := []) ⟨hx, hb, hml, hown, hts⟩ (c_X4_in ll x4 ((-1000000)) ((1000000)) ) (va_cwS 3 hts gX4_setBooks_X4_in rfl rfl rfl (by decide +kernel) ⟨Nat.le_of_ble_eq_true rfl, Nat.le_of_ble_eq_true rfl⟩) ⟨PT.blind, PT.to⟩ rfl rfl hl.1 rfl (lv_room (Nat.le_of_ble_eq_true rfl)) dX4_setBooks_45 ⟨Nat.le_of_ble_eq_true rfl, Nat.le_of_ble_eq_true rfl⟩) ?_
          refine lv_if_eq (tgt := 66) hx hb dX4_setBooks_48 (by decide) (fun c_5 => ?_) (fun c_5 => ?_)
          · have n_5 : ¬ (inB x4 ((-1000000)) ((1000000))) = true := bI0 c_5
            exact absurd h4 n_5
          · have n_5 : (inB x4 ((-1000000)) ((1000000))) = true := bI1 c_5
            refine lv_iload_n hx hb dX4_setBooks_51 rfl (lv_at hl 2 rfl) ?_
            refine lv_iload_n hx hb dX4_setBooks_52 rfl (lv_at hl 3 rfl) ?_
            refine lv_iload hx hb dX4_setBooks_53 (lv_at hl 4 rfl) ?_
            refine lv_iadd hx hb dX4_setBooks_55 ?_
            refine lv_iload hx hb dX4_setBooks_56 (lv_at hl 5 rfl) ?_
            refine lv_iadd hx hb dX4_setBooks_58 ?_
            refine lv_icmp_ne (tgt := 66) hx hb dX4_setBooks_59 (by decide) (fun c_6 => ?_) (fun c_6 => ?_)
            · have n_6 := c_6
              exact absurd h5 n_6
            · have n_6 := c_6
              refine lv_iconst (v := 1) hx hb dX4_setBooks_62 (by decide) ?_
              refine lv_goto (tgt := 67) hx hb dX4_setBooks_63 (by decide) ?_
              refine lv_istore (lv' := [(6, .int (1)), (0, .ref (a 0)), (1, .int (nI (c))), (2, .int (x1)), (3, .int (x2)), (4, .int (x3)), (5, .int (x4))]) hx hb dX4_setBooks_67 hl (by decide) rfl (fun ls hl => ?_)
              refine lv_aload_n hx hb dX4_setBooks_69 rfl (lv_at hl 1 rfl) ?_
              refine lv_iload hx hb dX4_setBooks_70 (lv_at hl 0 rfl) ?_
              refine lv_if_eq (tgt := 79) hx hb dX4_setBooks_72 (by decide) (fun c_7 => ?_) (fun c_7 => ?_)
              · have n_7 := c_7
                exact absurd c_7 (by decide)
              · have n_7 := c_7
                refine lv_iconst (v := 0) hx hb dX4_setBooks_75 (by decide) ?_
                refine lv_goto (tgt := 80) hx hb dX4_setBooks_76 (by decide) ?_
                refine va_put (D := D) (ci := 4) (v := .int (0)) (ty := .int) (C := RX4) (T := TX4) (N := 19) (Ts := wsX40) hx hb hin (fun _ h9 => h9) tyX4 tyX4_ok nmX4 hown hK hP hD hS 0 rfl rfl 0 (by decide) (hts (.fieldLink RX4 62 "GroupbooksModel" "thrown" "I") (by decide +kernel)) (fun _ h9 => h9) rfl (by decide +kernel) rfl rfl (Nat.le_of_ble_eq_true rfl) dX4_setBooks_80 (fun H locs hP hD hS => ?_)
                have hP : va_P D vwCl (MW a cI cJ he cm ad gw as de eq re co av hi ke sq ab be nw tn 0 cd) H := hP
                have hD : va_D A (MW a cI cJ he cm ad gw as de eq re co av hi ke sq ab be nw tn 0 cd) := hD
                refine lv_iload hx hb dX4_setBooks_83 (lv_at hl 0 rfl) ?_
                refine lv_if_eq (tgt := 118) hx hb dX4_setBooks_85 (by decide) (fun c_8 => ?_) (fun c_8 => ?_)
                · have n_8 := c_8
                  exact absurd c_8 (by decide)
                · have n_8 := c_8
                  refine lv_aload_n hx hb dX4_setBooks_88 rfl (lv_at hl 1 rfl) ?_
                  refine va_get (D := D) (ci := 4) (v := .ref (a 5)) (C := RX4) (T := TX4) (N := 19) (Ts := wsX40) hx hb hin (fun _ h9 => h9) hown hK hP 0 rfl rfl 5 (by decide) (hts (.fieldLink RX4 22 "GroupbooksModel" "assets" "[I") (by decide +kernel)) (fun _ h9 => h9) rfl dX4_setBooks_89 ?_
                  refine lv_iload_n hx hb dX4_setBooks_92 rfl (lv_at hl 2 rfl) ?_
                  refine lv_iload_n hx hb dX4_setBooks_93 rfl (lv_at hl 3 rfl) ?_
                  refine b_iast (w' := MW a cI cJ he cm ad gw (upd as (c) (x1)) de eq re co av hi ke sq ab be nw tn 0 cd) hx hb hK hP hD hS 5 0 (f := as) rfl rfl (j := c) (by omega) (by decide) rfl dX4_setBooks_94 (fun H locs hP hD hS => ?_)
                  refine lv_aload_n hx hb dX4_setBooks_95 rfl (lv_at hl 1 rfl) ?_
                  refine va_get (D := D) (ci := 4) (v := .ref (a 6)) (C := RX4) (T := TX4) (N := 19) (Ts := wsX40) hx hb hin (fun _ h9 => h9) hown hK hP 0 rfl rfl 6 (by decide) (hts (.fieldLink RX4 25 "GroupbooksModel" "debts" "[I") (by decide +kernel)) (fun _ h9 => h9) rfl dX4_setBooks_96 ?_
                  refine lv_iload_n hx hb dX4_setBooks_99 rfl (lv_at hl 2 rfl) ?_
                  refine lv_iload_n hx hb dX4_setBooks_100 rfl (lv_at hl 4 rfl) ?_
                  refine b_iast (w' := MW a cI cJ he cm ad gw (upd as (c) (x1)) (upd de (c) (x2)) eq re co av hi ke sq ab be nw tn 0 cd) hx hb hK hP hD hS 6 0 (f := de) rfl rfl (j := c) (by omega) (by decide) rfl dX4_setBooks_101 (fun H locs hP hD hS => ?_)
                  refine lv_aload_n hx hb dX4_setBooks_102 rfl (lv_at hl 1 rfl) ?_
                  refine va_get (D := D) (ci := 4) (v := .ref (a 7)) (C := RX4) (T := TX4) (N := 19) (Ts := wsX40) hx hb hin (fun _ h9 => h9) hown hK hP 0 rfl rfl 7 (by decide) (hts (.fieldLink RX4 28 "GroupbooksModel" "equity" "[I") (by decide +kernel)) (fun _ h9 => h9) rfl dX4_setBooks_103 ?_
                  refine lv_iload_n hx hb dX4_setBooks_106 rfl (lv_at hl 2 rfl) ?_
                  refine lv_iload hx hb dX4_setBooks_107 (lv_at hl 5 rfl) ?_
                  refine b_iast (w' := MW a cI cJ he cm ad gw (upd as (c) (x1)) (upd de (c) (x2)) (upd eq (c) (x3)) re co av hi ke sq ab be nw tn 0 cd) hx hb hK hP hD hS 7 0 (f := eq) rfl rfl (j := c) (by omega) (by decide) rfl dX4_setBooks_109 (fun H locs hP hD hS => ?_)
                  refine lv_aload_n hx hb dX4_setBooks_110 rfl (lv_at hl 1 rfl) ?_
                  refine va_get (D := D) (ci := 4) (v := .ref (a 8)) (C := RX4) (T := TX4) (N := 19) (Ts := wsX40) hx hb hin (fun _ h9 => h9) hown hK hP 0 rfl rfl 8 (by decide) (hts (.fieldLink RX4 31 "GroupbooksModel" "result" "[I") (by decide +kernel)) (fun _ h9 => h9) rfl dX4_setBooks_111 ?_
                  refine lv_iload_n hx hb dX4_setBooks_114 rfl (lv_at hl 2 rfl) ?_
                  refine lv_iload hx hb dX4_setBooks_115 (lv_at hl 6 rfl) ?_
                  refine b_iast (w' := MW a cI cJ he cm ad gw (upd as (c) (x1)) (upd de (c) (x2)) (upd eq (c) (x3)) (upd re (c) (x4)) co av hi ke sq ab be nw tn 0 cd) hx hb hK hP hD hS 8 0 (f := re) rfl rfl (j := c) (by omega) (by decide) rfl dX4_setBooks_117 (fun H locs hP hD hS => ?_)
                  have e_9 : (upd as c x1) = (upd as (c) (x1)) := by first | rfl | exact if_pos (by assumption) | exact if_neg (by assumption) | (simp only [n_1, n_2, n_3, n_4, n_5, n_6, n_7, n_8, Bool.false_eq_true, ↓reduceIte])
                  have hP := (congrArg (fun z9 => va_P D vwCl (MW a cI cJ he cm ad gw z9 (upd de (c) (x2)) (upd eq (c) (x3)) (upd re (c) (x4)) co av hi ke sq ab be nw tn 0 cd) _) e_9).mpr hP
                  have hD := (congrArg (fun z9 => va_D A (MW a cI cJ he cm ad gw z9 (upd de (c) (x2)) (upd eq (c) (x3)) (upd re (c) (x4)) co av hi ke sq ab be nw tn 0 cd)) e_9).mpr hD
                  have e_10 : (upd de c x2) = (upd de (c) (x2)) := by first | rfl | exact if_pos (by assumption) | exact if_neg (by assumption) | (simp only [n_1, n_2, n_3, n_4, n_5, n_6, n_7, n_8, Bool.false_eq_true, ↓reduceIte])
                  have hP := (congrArg (fun z9 => va_P D vwCl (MW a cI cJ he cm ad gw (upd as c x1) z9 (upd eq (c) (x3)) (upd re (c) (x4)) co av hi ke sq ab be nw tn 0 cd) _) e_10).mpr hP
                  have hD := (congrArg (fun z9 => va_D A (MW a cI cJ he cm ad gw (upd as c x1) z9 (upd eq (c) (x3)) (upd re (c) (x4)) co av hi ke sq ab be nw tn 0 cd)) e_10).mpr hD
                  have e_11 : (upd eq c x3) = (upd eq (c) (x3)) := by first | rfl | exact if_pos (by assumption) | exact if_neg (by assumption) | (simp only [n_1, n_2, n_3, n_4, n_5, n_6, n_7, n_8, Bool.false_eq_true, ↓reduceIte])
                  have hP := (congrArg (fun z9 => va_P D vwCl (MW a cI cJ he cm ad gw (upd as c x1) (upd de c x2) z9 (upd re (c) (x4)) co av hi ke sq ab be nw tn 0 cd) _) e_11).mpr hP
                  have hD := (congrArg (fun z9 => va_D A (MW a cI cJ he cm ad gw (upd as c x1) (upd de c x2) z9 (upd re (c) (x4)) co av hi ke sq ab be nw tn 0 cd)) e_11).mpr hD
                  have e_12 : (upd re c x4) = (upd re (c) (x4)) := by first | rfl | exact if_pos (by assumption) | exact if_neg (by assumption) | (simp only [n_1, n_2, n_3, n_4, n_5, n_6, n_7, n_8, Bool.false_eq_true, ↓reduceIte])
                  have hP := (congrArg (fun z9 => va_P D vwCl (MW a cI cJ he cm ad gw (upd as c x1) (upd de c x2) (upd eq c x3) z9 co av hi ke sq ab be nw tn 0 cd) _) e_12).mpr hP
                  have hD := (congrArg (fun z9 => va_D A (MW a cI cJ he cm ad gw (upd as c x1) (upd de c x2) (upd eq c x3) z9 co av hi ke sq ab be nw tn 0 cd)) e_12).mpr hD
                  exact W.vret hx hb hr (fun t ht hW => ⟨⟨(), rfl, trivial, (by rw [ht]; exact hP), va_K.moved hW.alike hK, hD⟩, hS.F ht⟩) hS.2.2 dX4_setBooks_118

abbrev rmX4_setBooks_bad : Room := ({ frames := 2, cells := 0, slots := 0, locals := 42 } : Room)
set_option maxHeartbeats 4000000 in
set_option maxRecDepth 100000 in
theorem c_X4_setBooks_bad (ll : Launch) (D : va_G) (a : Nat → Nat) (cI cJ : ClassId) (sz : Nat) (he cm ad gw as de eq re co av hi ke : Nat → Int32) (sq ab be : Nat → Int64) (nw tn : Nat → Int32) (th cd : Int32) (x0 x1 x2 x3 x4 : Int32) (hbad : ¬ (inB x0 0 5 = true ∧ inB x1 0 1000000 = true ∧ inB x2 0 1000000 = true ∧ inB x3 (-1000000) 1000000 = true ∧ inB x4 (-1000000) 1000000 = true ∧ x1 = x2 + x3 + x4)) : Met ll yX4_setBooks wsX4_setBooks rmX4_setBooks_bad (va_Pc [.ref (a 0), .int (x0), .int (x1), .int (x2), .int (x3), .int (x4)] (PW D (tyG cI cJ) (MW a cI cJ he cm ad gw as de eq re co av hi ke sq ab be nw tn th cd) sz)) (va_Qv (fun (u : Unit) => True) (fun (u : Unit) t => AW D (tyG cI cJ) (va_A (MW a cI cJ he cm ad gw as de eq re co av hi ke sq ab be nw tn th cd) sz) (MW a cI cJ he cm ad gw as de eq re co av hi ke sq ab be nw tn 1 cd) t) (va_A (MW a cI cJ he cm ad gw as de eq re co av hi ke sq ab be nw tn th cd) sz)) 0 0 (va_A (MW a cI cJ he cm ad gw as de eq re co av hi ke sq ab be nw tn th cd) sz) := by
  refine Met.ofW (cc := cX4_setBooks) (maxL := 7) (ret := none) (by decide) rfl ?_
  intro pp ee ss mm ar bel mth cde s₁ B hml hv
  obtain ⟨rfl, hsz, hP, hK, hD0, hE⟩ := hv
  have hx := B.exec
  have hb := B.bytes
  have hr := B.returns
  have hts := atoms_spec (ws := wsX4_setBooks) B.pre
  have hown : ss.vm.findClass RX4 = some mm.cls := findClass_of_methodNamed B.named
  have hlocks := B.notSynchronized
  subst hsz
  have hD := hD0.self (sz := ss.heap.size)
  generalize hAe : va_A (MW a cI cJ he cm ad gw as de eq re co av hi ke sq ab be nw tn th cd) ss.heap.size = A at hD ⊢
  have hA : ∀ q : Nat, ss.heap.size ≤ q → A q := fun q h => by rw [← hAe]; exact Or.inr h
  have hS : va_S A ss.heap ss.heap [] := va_S.rf
  have hin : ∀ w ∈ wsX40, w.before ([.ref (a 0), .int (x0), .int (x1), .int (x2), .int (x3), .int (x4)] : List Value).toArray ss = true := fun w h => hts w ((by decide +kernel : ∀ w ∈ wsX40, w ∈ wsX4_setBooks) w h)
  have hl := lv_entry [.ref (a 0), .int (x0), .int (x1), .int (x2), .int (x3), .int (x4)] (n := 7) (Nat.le_of_ble_eq_true rfl)
  rw [lg_entry_eq]
  generalize (lg_sl [.ref (a 0), .int (x0), .int (x1), .int (x2), .int (x3), .int (x4)] ++ List.replicate (7 - (lg_sl [.ref (a 0), .int (x0), .int (x1), .int (x2), .int (x3), .int (x4)]).length) Slot.unset).toArray = ls at hl ⊢
  have hl : lv_has ls 7 [(0, .ref (a 0)), (1, .int (x0)), (2, .int (x1)), (3, .int (x2)), (4, .int (x3)), (5, .int (x4))] := hl
  refine lv_iload_n hx hb dX4_setBooks_0 rfl (lv_at hl 1 rfl) ?_
  refine b_csi (v := bI (inB x0 0 5)) (W.runS (As := [.int (x0)]) (rest := []) ⟨hx, hb, hml, hown, hts⟩ (c_X4_isCompany ll x0 ) (va_cwS 1 hts gX4_setBooks_X4_isCompany rfl rfl rfl (by decide +kernel) ⟨Nat.le_of_ble_eq_true rfl, Nat.le_of_ble_eq_true rfl⟩) ⟨PT.blind, PT.to⟩ rfl rfl hl.1 rfl (lv_room (Nat.le_of_ble_eq_true rfl)) dX4_setBooks_1 ⟨Nat.le_of_ble_eq_true rfl, Nat.le_of_ble_eq_true rfl⟩) ?_
  refine lv_if_eq (tgt := 66) hx hb dX4_setBooks_4 (by decide) (fun c_1 => ?_) (fun c_1 => ?_)
  · have n_1 : ¬ (inB x0 0 5) = true := bI0 c_1
    refine lv_iconst (v := 0) hx hb dX4_setBooks_66 (by decide) ?_
    refine lv_istore (lv' := [(6, .int (0)), (0, .ref (a 0)), (1, .int (x0)), (2, .int (x1)), (3, .int (x2)), (4, .int (x3)), (5, .int (x4))]) hx hb dX4_setBooks_67 hl (by decide) rfl (fun ls hl => ?_)
    refine lv_aload_n hx hb dX4_setBooks_69 rfl (lv_at hl 1 rfl) ?_
    refine lv_iload hx hb dX4_setBooks_70 (lv_at hl 0 rfl) ?_
    refine lv_if_eq (tgt := 79) hx hb dX4_setBooks_72 (by decide) (fun c_2 => ?_) (fun c_2 => ?_)
    · have n_2 := c_2
      refine lv_iconst (v := 1) hx hb dX4_setBooks_79 (by decide) ?_
      refine va_put (D := D) (ci := 4) (v := .int (1)) (ty := .int) (C := RX4) (T := TX4) (N := 19) (Ts := wsX40) hx hb hin (fun _ h9 => h9) tyX4 tyX4_ok nmX4 hown hK hP hD hS 0 rfl rfl 0 (by decide) (hts (.fieldLink RX4 62 "GroupbooksModel" "thrown" "I") (by decide +kernel)) (fun _ h9 => h9) rfl (by decide +kernel) rfl rfl (Nat.le_of_ble_eq_true rfl) dX4_setBooks_80 (fun H locs hP hD hS => ?_)
      have hP : va_P D vwCl (MW a cI cJ he cm ad gw as de eq re co av hi ke sq ab be nw tn 1 cd) H := hP
      have hD : va_D A (MW a cI cJ he cm ad gw as de eq re co av hi ke sq ab be nw tn 1 cd) := hD
      refine lv_iload hx hb dX4_setBooks_83 (lv_at hl 0 rfl) ?_
      refine lv_if_eq (tgt := 118) hx hb dX4_setBooks_85 (by decide) (fun c_3 => ?_) (fun c_3 => ?_)
      · have n_3 := c_3
        exact W.vret hx hb hr (fun t ht hW => ⟨⟨(), rfl, trivial, (by rw [ht]; exact hP), va_K.moved hW.alike hK, hD⟩, hS.F ht⟩) hS.2.2 dX4_setBooks_118
      · have n_3 := c_3
        exact absurd c_3 (by decide)
    · have n_2 := c_2
      exact absurd c_2 (by decide)
  · have n_1 : (inB x0 0 5) = true := bI1 c_1
    refine lv_iload_n hx hb dX4_setBooks_7 rfl (lv_at hl 2 rfl) ?_
    refine lv_iconst (v := 0) hx hb dX4_setBooks_8 (by decide) ?_
    refine lv_ldc (v := 1000000) hx hb hown (hts (.constant RX4 105 (1000000)) (by decide +kernel)) dX4_setBooks_9 ?_
    refine b_csi (v := bI (inB x1 0 ((1000000)))) (W.runS (As := [.int (x1), .int (0), .int ((1000000))]) (rest := []) ⟨hx, hb, hml, hown, hts⟩ (c_X4_in ll x1 0 ((1000000)) ) (va_cwS 3 hts gX4_setBooks_X4_in rfl rfl rfl (by decide +kernel) ⟨Nat.le_of_ble_eq_true rfl, Nat.le_of_ble_eq_true rfl⟩) ⟨PT.blind, PT.to⟩ rfl rfl hl.1 rfl (lv_room (Nat.le_of_ble_eq_true rfl)) dX4_setBooks_11 ⟨Nat.le_of_ble_eq_true rfl, Nat.le_of_ble_eq_true rfl⟩) ?_
    refine lv_if_eq (tgt := 66) hx hb dX4_setBooks_14 (by decide) (fun c_4 => ?_) (fun c_4 => ?_)
    · have n_4 : ¬ (inB x1 0 ((1000000))) = true := bI0 c_4
      refine lv_iconst (v := 0) hx hb dX4_setBooks_66 (by decide) ?_
      refine lv_istore (lv' := [(6, .int (0)), (0, .ref (a 0)), (1, .int (x0)), (2, .int (x1)), (3, .int (x2)), (4, .int (x3)), (5, .int (x4))]) hx hb dX4_setBooks_67 hl (by decide) rfl (fun ls hl => ?_)
      refine lv_aload_n hx hb dX4_setBooks_69 rfl (lv_at hl 1 rfl) ?_
      refine lv_iload hx hb dX4_setBooks_70 (lv_at hl 0 rfl) ?_
      refine lv_if_eq (tgt := 79) hx hb dX4_setBooks_72 (by decide) (fun c_5 => ?_) (fun c_5 => ?_)
      · have n_5 := c_5
        refine lv_iconst (v := 1) hx hb dX4_setBooks_79 (by decide) ?_
        refine va_put (D := D) (ci := 4) (v := .int (1)) (ty := .int) (C := RX4) (T := TX4) (N := 19) (Ts := wsX40) hx hb hin (fun _ h9 => h9) tyX4 tyX4_ok nmX4 hown hK hP hD hS 0 rfl rfl 0 (by decide) (hts (.fieldLink RX4 62 "GroupbooksModel" "thrown" "I") (by decide +kernel)) (fun _ h9 => h9) rfl (by decide +kernel) rfl rfl (Nat.le_of_ble_eq_true rfl) dX4_setBooks_80 (fun H locs hP hD hS => ?_)
        have hP : va_P D vwCl (MW a cI cJ he cm ad gw as de eq re co av hi ke sq ab be nw tn 1 cd) H := hP
        have hD : va_D A (MW a cI cJ he cm ad gw as de eq re co av hi ke sq ab be nw tn 1 cd) := hD
        refine lv_iload hx hb dX4_setBooks_83 (lv_at hl 0 rfl) ?_
        refine lv_if_eq (tgt := 118) hx hb dX4_setBooks_85 (by decide) (fun c_6 => ?_) (fun c_6 => ?_)
        · have n_6 := c_6
          exact W.vret hx hb hr (fun t ht hW => ⟨⟨(), rfl, trivial, (by rw [ht]; exact hP), va_K.moved hW.alike hK, hD⟩, hS.F ht⟩) hS.2.2 dX4_setBooks_118
        · have n_6 := c_6
          exact absurd c_6 (by decide)
      · have n_5 := c_5
        exact absurd c_5 (by decide)
    · have n_4 : (inB x1 0 ((1000000))) = true := bI1 c_4
      refine lv_iload_n hx hb dX4_setBooks_17 rfl (lv_at hl 3 rfl) ?_
      refine lv_iconst (v := 0) hx hb dX4_setBooks_18 (by decide) ?_
      refine lv_ldc (v := 1000000) hx hb hown (hts (.constant RX4 105 (1000000)) (by decide +kernel)) dX4_setBooks_19 ?_
      refine b_csi (v := bI (inB x2 0 ((1000000)))) (W.runS (As := [.int (x2), .int (0), .int ((1000000))]) (rest := []) ⟨hx, hb, hml, hown, hts⟩ (c_X4_in ll x2 0 ((1000000)) ) (va_cwS 3 hts gX4_setBooks_X4_in rfl rfl rfl (by decide +kernel) ⟨Nat.le_of_ble_eq_true rfl, Nat.le_of_ble_eq_true rfl⟩) ⟨PT.blind, PT.to⟩ rfl rfl hl.1 rfl (lv_room (Nat.le_of_ble_eq_true rfl)) dX4_setBooks_21 ⟨Nat.le_of_ble_eq_true rfl, Nat.le_of_ble_eq_true rfl⟩) ?_
      refine lv_if_eq (tgt := 66) hx hb dX4_setBooks_24 (by decide) (fun c_7 => ?_) (fun c_7 => ?_)
      · have n_7 : ¬ (inB x2 0 ((1000000))) = true := bI0 c_7
        refine lv_iconst (v := 0) hx hb dX4_setBooks_66 (by decide) ?_
        refine lv_istore (lv' := [(6, .int (0)), (0, .ref (a 0)), (1, .int (x0)), (2, .int (x1)), (3, .int (x2)), (4, .int (x3)), (5, .int (x4))]) hx hb dX4_setBooks_67 hl (by decide) rfl (fun ls hl => ?_)
        refine lv_aload_n hx hb dX4_setBooks_69 rfl (lv_at hl 1 rfl) ?_
        refine lv_iload hx hb dX4_setBooks_70 (lv_at hl 0 rfl) ?_
        refine lv_if_eq (tgt := 79) hx hb dX4_setBooks_72 (by decide) (fun c_8 => ?_) (fun c_8 => ?_)
        · have n_8 := c_8
          refine lv_iconst (v := 1) hx hb dX4_setBooks_79 (by decide) ?_
          refine va_put (D := D) (ci := 4) (v := .int (1)) (ty := .int) (C := RX4) (T := TX4) (N := 19) (Ts := wsX40) hx hb hin (fun _ h9 => h9) tyX4 tyX4_ok nmX4 hown hK hP hD hS 0 rfl rfl 0 (by decide) (hts (.fieldLink RX4 62 "GroupbooksModel" "thrown" "I") (by decide +kernel)) (fun _ h9 => h9) rfl (by decide +kernel) rfl rfl (Nat.le_of_ble_eq_true rfl) dX4_setBooks_80 (fun H locs hP hD hS => ?_)
          have hP : va_P D vwCl (MW a cI cJ he cm ad gw as de eq re co av hi ke sq ab be nw tn 1 cd) H := hP
          have hD : va_D A (MW a cI cJ he cm ad gw as de eq re co av hi ke sq ab be nw tn 1 cd) := hD
          refine lv_iload hx hb dX4_setBooks_83 (lv_at hl 0 rfl) ?_
          refine lv_if_eq (tgt := 118) hx hb dX4_setBooks_85 (by decide) (fun c_9 => ?_) (fun c_9 => ?_)
          · have n_9 := c_9
            exact W.vret hx hb hr (fun t ht hW => ⟨⟨(), rfl, trivial, (by rw [ht]; exact hP), va_K.moved hW.alike hK, hD⟩, hS.F ht⟩) hS.2.2 dX4_setBooks_118
          · have n_9 := c_9
            exact absurd c_9 (by decide)
        · have n_8 := c_8
          exact absurd c_8 (by decide)
      · have n_7 : (inB x2 0 ((1000000))) = true := bI1 c_7
        refine lv_iload hx hb dX4_setBooks_27 (lv_at hl 4 rfl) ?_
        refine lv_ldc (v := -1000000) hx hb hown (hts (.constant RX4 118 (-1000000)) (by decide +kernel)) dX4_setBooks_29 ?_
        refine lv_ldc (v := 1000000) hx hb hown (hts (.constant RX4 105 (1000000)) (by decide +kernel)) dX4_setBooks_31 ?_
        refine b_csi (v := bI (inB x3 ((-1000000)) ((1000000)))) (W.runS (As := [.int (x3), .int ((-1000000)), .int ((1000000))]) (rest := []) ⟨hx, hb, hml, hown, hts⟩ (c_X4_in ll x3 ((-1000000)) ((1000000)) ) (va_cwS 3 hts gX4_setBooks_X4_in rfl rfl rfl (by decide +kernel) ⟨Nat.le_of_ble_eq_true rfl, Nat.le_of_ble_eq_true rfl⟩) ⟨PT.blind, PT.to⟩ rfl rfl hl.1 rfl (lv_room (Nat.le_of_ble_eq_true rfl)) dX4_setBooks_33 ⟨Nat.le_of_ble_eq_true rfl, Nat.le_of_ble_eq_true rfl⟩) ?_
        refine lv_if_eq (tgt := 66) hx hb dX4_setBooks_36 (by decide) (fun c_10 => ?_) (fun c_10 => ?_)
        · have n_10 : ¬ (inB x3 ((-1000000)) ((1000000))) = true := bI0 c_10
          refine lv_iconst (v := 0) hx hb dX4_setBooks_66 (by decide) ?_
          refine lv_istore (lv' := [(6, .int (0)), (0, .ref (a 0)), (1, .int (x0)), (2, .int (x1)), (3, .int (x2)), (4, .int (x3)), (5, .int (x4))]) hx hb dX4_setBooks_67 hl (by decide) rfl (fun ls hl => ?_)
          refine lv_aload_n hx hb dX4_setBooks_69 rfl (lv_at hl 1 rfl) ?_
          refine lv_iload hx hb dX4_setBooks_70 (lv_at hl 0 rfl) ?_
          refine lv_if_eq (tgt := 79) hx hb dX4_setBooks_72 (by decide) (fun c_11 => ?_) (fun c_11 => ?_)
          · have n_11 := c_11
            refine lv_iconst (v := 1) hx hb dX4_setBooks_79 (by decide) ?_
            refine va_put (D := D) (ci := 4) (v := .int (1)) (ty := .int) (C := RX4) (T := TX4) (N := 19) (Ts := wsX40) hx hb hin (fun _ h9 => h9) tyX4 tyX4_ok nmX4 hown hK hP hD hS 0 rfl rfl 0 (by decide) (hts (.fieldLink RX4 62 "GroupbooksModel" "thrown" "I") (by decide +kernel)) (fun _ h9 => h9) rfl (by decide +kernel) rfl rfl (Nat.le_of_ble_eq_true rfl) dX4_setBooks_80 (fun H locs hP hD hS => ?_)
            have hP : va_P D vwCl (MW a cI cJ he cm ad gw as de eq re co av hi ke sq ab be nw tn 1 cd) H := hP
            have hD : va_D A (MW a cI cJ he cm ad gw as de eq re co av hi ke sq ab be nw tn 1 cd) := hD
            refine lv_iload hx hb dX4_setBooks_83 (lv_at hl 0 rfl) ?_
            refine lv_if_eq (tgt := 118) hx hb dX4_setBooks_85 (by decide) (fun c_12 => ?_) (fun c_12 => ?_)
            · have n_12 := c_12
              exact W.vret hx hb hr (fun t ht hW => ⟨⟨(), rfl, trivial, (by rw [ht]; exact hP), va_K.moved hW.alike hK, hD⟩, hS.F ht⟩) hS.2.2 dX4_setBooks_118
            · have n_12 := c_12
              exact absurd c_12 (by decide)
          · have n_11 := c_11
            exact absurd c_11 (by decide)
        · have n_10 : (inB x3 ((-1000000)) ((1000000))) = true := bI1 c_10
          refine lv_iload hx hb dX4_setBooks_39 (lv_at hl 5 rfl) ?_
          refine lv_ldc (v := -1000000) hx hb hown (hts (.constant RX4 118 (-1000000)) (by decide +kernel)) dX4_setBooks_41 ?_
          refine lv_ldc (v := 1000000) hx hb hown (hts (.constant RX4 105 (1000000)) (by decide +kernel)) dX4_setBooks_43 ?_
          refine b_csi (v := bI (inB x4 ((-1000000)) ((1000000)))) (W.runS (As := [.int (x4), .int ((-1000000)), .int ((1000000))]) (rest := []) ⟨hx, hb, hml, hown, hts⟩ (c_X4_in ll x4 ((-1000000)) ((1000000)) ) (va_cwS 3 hts gX4_setBooks_X4_in rfl rfl rfl (by decide +kernel) ⟨Nat.le_of_ble_eq_true rfl, Nat.le_of_ble_eq_true rfl⟩) ⟨PT.blind, PT.to⟩ rfl rfl hl.1 rfl (lv_room (Nat.le_of_ble_eq_true rfl)) dX4_setBooks_45 ⟨Nat.le_of_ble_eq_true rfl, Nat.le_of_ble_eq_true rfl⟩) ?_
          refine lv_if_eq (tgt := 66) hx hb dX4_setBooks_48 (by decide) (fun c_13 => ?_) (fun c_13 => ?_)
          · have n_13 : ¬ (inB x4 ((-1000000)) ((1000000))) = true := bI0 c_13
            refine lv_iconst (v := 0) hx hb dX4_setBooks_66 (by decide) ?_
            refine lv_istore (lv' := [(6, .int (0)), (0, .ref (a 0)), (1, .int (x0)), (2, .int (x1)), (3, .int (x2)), (4, .int (x3)), (5, .int (x4))]) hx hb dX4_setBooks_67 hl (by decide) rfl (fun ls hl => ?_)
            refine lv_aload_n hx hb dX4_setBooks_69 rfl (lv_at hl 1 rfl) ?_
            refine lv_iload hx hb dX4_setBooks_70 (lv_at hl 0 rfl) ?_
            refine lv_if_eq (tgt := 79) hx hb dX4_setBooks_72 (by decide) (fun c_14 => ?_) (fun c_14 => ?_)
            · have n_14 := c_14
              refine lv_iconst (v := 1) hx hb dX4_setBooks_79 (by decide) ?_
              refine va_put (D := D) (ci := 4) (v := .int (1)) (ty := .int) (C := RX4) (T := TX4) (N := 19) (Ts := wsX40) hx hb hin (fun _ h9 => h9) tyX4 tyX4_ok nmX4 hown hK hP hD hS 0 rfl rfl 0 (by decide) (hts (.fieldLink RX4 62 "GroupbooksModel" "thrown" "I") (by decide +kernel)) (fun _ h9 => h9) rfl (by decide +kernel) rfl rfl (Nat.le_of_ble_eq_true rfl) dX4_setBooks_80 (fun H locs hP hD hS => ?_)
              have hP : va_P D vwCl (MW a cI cJ he cm ad gw as de eq re co av hi ke sq ab be nw tn 1 cd) H := hP
              have hD : va_D A (MW a cI cJ he cm ad gw as de eq re co av hi ke sq ab be nw tn 1 cd) := hD
              refine lv_iload hx hb dX4_setBooks_83 (lv_at hl 0 rfl) ?_
              refine lv_if_eq (tgt := 118) hx hb dX4_setBooks_85 (by decide) (fun c_15 => ?_) (fun c_15 => ?_)
              · have n_15 := c_15
                exact W.vret hx hb hr (fun t ht hW => ⟨⟨(), rfl, trivial, (by rw [ht]; exact hP), va_K.moved hW.alike hK, hD⟩, hS.F ht⟩) hS.2.2 dX4_setBooks_118
              · have n_15 := c_15
                exact absurd c_15 (by decide)
            · have n_14 := c_14
              exact absurd c_14 (by decide)
          · have n_13 : (inB x4 ((-1000000)) ((1000000))) = true := bI1 c_13
            refine lv_iload_n hx hb dX4_setBooks_51 rfl (lv_at hl 2 rfl) ?_
            refine lv_iload_n hx hb dX4_setBooks_52 rfl (lv_at hl 3 rfl) ?_
            refine lv_iload hx hb dX4_setBooks_53 (lv_at hl 4 rfl) ?_
            refine lv_iadd hx hb dX4_setBooks_55 ?_
            refine lv_iload hx hb dX4_setBooks_56 (lv_at hl 5 rfl) ?_
            refine lv_iadd hx hb dX4_setBooks_58 ?_
            refine lv_icmp_ne (tgt := 66) hx hb dX4_setBooks_59 (by decide) (fun c_16 => ?_) (fun c_16 => ?_)
            · have n_16 := c_16
              refine lv_iconst (v := 0) hx hb dX4_setBooks_66 (by decide) ?_
              refine lv_istore (lv' := [(6, .int (0)), (0, .ref (a 0)), (1, .int (x0)), (2, .int (x1)), (3, .int (x2)), (4, .int (x3)), (5, .int (x4))]) hx hb dX4_setBooks_67 hl (by decide) rfl (fun ls hl => ?_)
              refine lv_aload_n hx hb dX4_setBooks_69 rfl (lv_at hl 1 rfl) ?_
              refine lv_iload hx hb dX4_setBooks_70 (lv_at hl 0 rfl) ?_
              refine lv_if_eq (tgt := 79) hx hb dX4_setBooks_72 (by decide) (fun c_17 => ?_) (fun c_17 => ?_)
              · have n_17 := c_17
                refine lv_iconst (v := 1) hx hb dX4_setBooks_79 (by decide) ?_
                refine va_put (D := D) (ci := 4) (v := .int (1)) (ty := .int) (C := RX4) (T := TX4) (N := 19) (Ts := wsX40) hx hb hin (fun _ h9 => h9) tyX4 tyX4_ok nmX4 hown hK hP hD hS 0 rfl rfl 0 (by decide) (hts (.fieldLink RX4 62 "GroupbooksModel" "thrown" "I") (by decide +kernel)) (fun _ h9 => h9) rfl (by decide +kernel) rfl rfl (Nat.le_of_ble_eq_true rfl) dX4_setBooks_80 (fun H locs hP hD hS => ?_)
                have hP : va_P D vwCl (MW a cI cJ he cm ad gw as de eq re co av hi ke sq ab be nw tn 1 cd) H := hP
                have hD : va_D A (MW a cI cJ he cm ad gw as de eq re co av hi ke sq ab be nw tn 1 cd) := hD
                refine lv_iload hx hb dX4_setBooks_83 (lv_at hl 0 rfl) ?_
                refine lv_if_eq (tgt := 118) hx hb dX4_setBooks_85 (by decide) (fun c_18 => ?_) (fun c_18 => ?_)
                · have n_18 := c_18
                  exact W.vret hx hb hr (fun t ht hW => ⟨⟨(), rfl, trivial, (by rw [ht]; exact hP), va_K.moved hW.alike hK, hD⟩, hS.F ht⟩) hS.2.2 dX4_setBooks_118
                · have n_18 := c_18
                  exact absurd c_18 (by decide)
              · have n_17 := c_17
                exact absurd c_17 (by decide)
            · have n_16 := c_16
              exact absurd ⟨n_1, n_4, n_7, n_10, n_13, n_16⟩ hbad

abbrev rmX4_setRates : Room := ({ frames := 2, cells := 0, slots := 0, locals := 42 } : Room)
set_option maxHeartbeats 4000000 in
set_option maxRecDepth 100000 in
theorem c_X4_setRates (ll : Launch) (D : va_G) (a : Nat → Nat) (cI cJ : ClassId) (sz : Nat) (he cm ad gw as de eq re co av hi ke : Nat → Int32) (sq ab be : Nat → Int64) (nw tn : Nat → Int32) (th cd : Int32) (c : Nat) (x1 x2 x3 : Int32) (hc : c < 6) (h1 : inB x1 1 1000 = true) (h2 : inB x2 1 1000 = true) (h3 : inB x3 1 1000 = true) : Met ll yX4_setRates wsX4_setRates rmX4_setRates (va_Pc [.ref (a 0), .int (nI (c)), .int (x1), .int (x2), .int (x3)] (PW D (tyG cI cJ) (MW a cI cJ he cm ad gw as de eq re co av hi ke sq ab be nw tn th cd) sz)) (va_Qv (fun (u : Unit) => True) (fun (u : Unit) t => AW D (tyG cI cJ) (va_A (MW a cI cJ he cm ad gw as de eq re co av hi ke sq ab be nw tn th cd) sz) (MW a cI cJ he cm ad gw as de eq re (upd co c x1) (upd av c x2) (upd hi c x3) ke sq ab be nw tn 0 cd) t) (va_A (MW a cI cJ he cm ad gw as de eq re co av hi ke sq ab be nw tn th cd) sz)) 0 0 (va_A (MW a cI cJ he cm ad gw as de eq re co av hi ke sq ab be nw tn th cd) sz) := by
  refine Met.ofW (cc := cX4_setRates) (maxL := 6) (ret := none) (by decide) rfl ?_
  intro pp ee ss mm ar bel mth cde s₁ B hml hv
  obtain ⟨rfl, hsz, hP, hK, hD0, hE⟩ := hv
  have hx := B.exec
  have hb := B.bytes
  have hr := B.returns
  have hts := atoms_spec (ws := wsX4_setRates) B.pre
  have hown : ss.vm.findClass RX4 = some mm.cls := findClass_of_methodNamed B.named
  have hlocks := B.notSynchronized
  subst hsz
  have hD := hD0.self (sz := ss.heap.size)
  generalize hAe : va_A (MW a cI cJ he cm ad gw as de eq re co av hi ke sq ab be nw tn th cd) ss.heap.size = A at hD ⊢
  have hA : ∀ q : Nat, ss.heap.size ≤ q → A q := fun q h => by rw [← hAe]; exact Or.inr h
  have hS : va_S A ss.heap ss.heap [] := va_S.rf
  have hin : ∀ w ∈ wsX40, w.before ([.ref (a 0), .int (nI (c)), .int (x1), .int (x2), .int (x3)] : List Value).toArray ss = true := fun w h => hts w ((by decide +kernel : ∀ w ∈ wsX40, w ∈ wsX4_setRates) w h)
  have hl := lv_entry [.ref (a 0), .int (nI (c)), .int (x1), .int (x2), .int (x3)] (n := 6) (Nat.le_of_ble_eq_true rfl)
  rw [lg_entry_eq]
  generalize (lg_sl [.ref (a 0), .int (nI (c)), .int (x1), .int (x2), .int (x3)] ++ List.replicate (6 - (lg_sl [.ref (a 0), .int (nI (c)), .int (x1), .int (x2), .int (x3)]).length) Slot.unset).toArray = ls at hl ⊢
  have hl : lv_has ls 6 [(0, .ref (a 0)), (1, .int (nI (c))), (2, .int (x1)), (3, .int (x2)), (4, .int (x3))] := hl
  refine lv_iload_n hx hb dX4_setRates_0 rfl (lv_at hl 1 rfl) ?_
  refine b_csi (v := bI (inB (nI (c)) 0 5)) (W.runS (As := [.int (nI (c))]) (rest := []) ⟨hx, hb, hml, hown, hts⟩ (c_X4_isCompany ll (nI (c)) ) (va_cwS 1 hts gX4_setRates_X4_isCompany rfl rfl rfl (by decide +kernel) ⟨Nat.le_of_ble_eq_true rfl, Nat.le_of_ble_eq_true rfl⟩) ⟨PT.blind, PT.to⟩ rfl rfl hl.1 rfl (lv_room (Nat.le_of_ble_eq_true rfl)) dX4_setRates_1 ⟨Nat.le_of_ble_eq_true rfl, Nat.le_of_ble_eq_true rfl⟩) ?_
  refine lv_if_eq (tgt := 45) hx hb dX4_setRates_4 (by decide) (fun c_1 => ?_) (fun c_1 => ?_)
  · have n_1 : ¬ (inB (nI (c)) 0 5) = true := bI0 c_1
    exact absurd (inB_c c hc) n_1
  · have n_1 : (inB (nI (c)) 0 5) = true := bI1 c_1
    refine lv_iload_n hx hb dX4_setRates_7 rfl (lv_at hl 2 rfl) ?_
    refine lv_iconst (v := 1) hx hb dX4_setRates_8 (by decide) ?_
    refine lv_sipush (v := 1000) hx hb dX4_setRates_9 (by decide) ?_
    refine b_csi (v := bI (inB x1 1 1000)) (W.runS (As := [.int (x1), .int (1), .int (1000)]) (rest := []) ⟨hx, hb, hml, hown, hts⟩ (c_X4_in ll x1 1 1000 ) (va_cwS 3 hts gX4_setRates_X4_in rfl rfl rfl (by decide +kernel) ⟨Nat.le_of_ble_eq_true rfl, Nat.le_of_ble_eq_true rfl⟩) ⟨PT.blind, PT.to⟩ rfl rfl hl.1 rfl (lv_room (Nat.le_of_ble_eq_true rfl)) dX4_setRates_12 ⟨Nat.le_of_ble_eq_true rfl, Nat.le_of_ble_eq_true rfl⟩) ?_
    refine lv_if_eq (tgt := 45) hx hb dX4_setRates_15 (by decide) (fun c_2 => ?_) (fun c_2 => ?_)
    · have n_2 : ¬ (inB x1 1 1000) = true := bI0 c_2
      exact absurd h1 n_2
    · have n_2 : (inB x1 1 1000) = true := bI1 c_2
      refine lv_iload_n hx hb dX4_setRates_18 rfl (lv_at hl 3 rfl) ?_
      refine lv_iconst (v := 1) hx hb dX4_setRates_19 (by decide) ?_
      refine lv_sipush (v := 1000) hx hb dX4_setRates_20 (by decide) ?_
      refine b_csi (v := bI (inB x2 1 1000)) (W.runS (As := [.int (x2), .int (1), .int (1000)]) (rest := []) ⟨hx, hb, hml, hown, hts⟩ (c_X4_in ll x2 1 1000 ) (va_cwS 3 hts gX4_setRates_X4_in rfl rfl rfl (by decide +kernel) ⟨Nat.le_of_ble_eq_true rfl, Nat.le_of_ble_eq_true rfl⟩) ⟨PT.blind, PT.to⟩ rfl rfl hl.1 rfl (lv_room (Nat.le_of_ble_eq_true rfl)) dX4_setRates_23 ⟨Nat.le_of_ble_eq_true rfl, Nat.le_of_ble_eq_true rfl⟩) ?_
      refine lv_if_eq (tgt := 45) hx hb dX4_setRates_26 (by decide) (fun c_3 => ?_) (fun c_3 => ?_)
      · have n_3 : ¬ (inB x2 1 1000) = true := bI0 c_3
        exact absurd h2 n_3
      · have n_3 : (inB x2 1 1000) = true := bI1 c_3
        refine lv_iload hx hb dX4_setRates_29 (lv_at hl 4 rfl) ?_
        refine lv_iconst (v := 1) hx hb dX4_setRates_31 (by decide) ?_
        refine lv_sipush (v := 1000) hx hb dX4_setRates_32 (by decide) ?_
        refine b_csi (v := bI (inB x3 1 1000)) (W.runS (As := [.int (x3), .int (1), .int (1000)]) (rest := []) ⟨hx, hb, hml, hown, hts⟩ (c_X4_in ll x3 1 1000 ) (va_cwS 3 hts gX4_setRates_X4_in rfl rfl rfl (by decide +kernel) ⟨Nat.le_of_ble_eq_true rfl, Nat.le_of_ble_eq_true rfl⟩) ⟨PT.blind, PT.to⟩ rfl rfl hl.1 rfl (lv_room (Nat.le_of_ble_eq_true rfl)) dX4_setRates_35 ⟨Nat.le_of_ble_eq_true rfl, Nat.le_of_ble_eq_true rfl⟩) ?_
        refine lv_if_eq (tgt := 45) hx hb dX4_setRates_38 (by decide) (fun c_4 => ?_) (fun c_4 => ?_)
        · have n_4 : ¬ (inB x3 1 1000) = true := bI0 c_4
          exact absurd h3 n_4
        · have n_4 : (inB x3 1 1000) = true := bI1 c_4
          refine lv_iconst (v := 1) hx hb dX4_setRates_41 (by decide) ?_
          refine lv_goto (tgt := 46) hx hb dX4_setRates_42 (by decide) ?_
          refine lv_istore (lv' := [(5, .int (1)), (0, .ref (a 0)), (1, .int (nI (c))), (2, .int (x1)), (3, .int (x2)), (4, .int (x3))]) hx hb dX4_setRates_46 hl (by decide) rfl (fun ls hl => ?_)
          refine lv_aload_n hx hb dX4_setRates_48 rfl (lv_at hl 1 rfl) ?_
          refine lv_iload hx hb dX4_setRates_49 (lv_at hl 0 rfl) ?_
          refine lv_if_eq (tgt := 58) hx hb dX4_setRates_51 (by decide) (fun c_5 => ?_) (fun c_5 => ?_)
          · have n_5 := c_5
            exact absurd c_5 (by decide)
          · have n_5 := c_5
            refine lv_iconst (v := 0) hx hb dX4_setRates_54 (by decide) ?_
            refine lv_goto (tgt := 59) hx hb dX4_setRates_55 (by decide) ?_
            refine va_put (D := D) (ci := 4) (v := .int (0)) (ty := .int) (C := RX4) (T := TX4) (N := 19) (Ts := wsX40) hx hb hin (fun _ h9 => h9) tyX4 tyX4_ok nmX4 hown hK hP hD hS 0 rfl rfl 0 (by decide) (hts (.fieldLink RX4 62 "GroupbooksModel" "thrown" "I") (by decide +kernel)) (fun _ h9 => h9) rfl (by decide +kernel) rfl rfl (Nat.le_of_ble_eq_true rfl) dX4_setRates_59 (fun H locs hP hD hS => ?_)
            have hP : va_P D vwCl (MW a cI cJ he cm ad gw as de eq re co av hi ke sq ab be nw tn 0 cd) H := hP
            have hD : va_D A (MW a cI cJ he cm ad gw as de eq re co av hi ke sq ab be nw tn 0 cd) := hD
            refine lv_iload hx hb dX4_setRates_62 (lv_at hl 0 rfl) ?_
            refine lv_if_eq (tgt := 89) hx hb dX4_setRates_64 (by decide) (fun c_6 => ?_) (fun c_6 => ?_)
            · have n_6 := c_6
              exact absurd c_6 (by decide)
            · have n_6 := c_6
              refine lv_aload_n hx hb dX4_setRates_67 rfl (lv_at hl 1 rfl) ?_
              refine va_get (D := D) (ci := 4) (v := .ref (a 9)) (C := RX4) (T := TX4) (N := 19) (Ts := wsX40) hx hb hin (fun _ h9 => h9) hown hK hP 0 rfl rfl 9 (by decide) (hts (.fieldLink RX4 34 "GroupbooksModel" "closing" "[I") (by decide +kernel)) (fun _ h9 => h9) rfl dX4_setRates_68 ?_
              refine lv_iload_n hx hb dX4_setRates_71 rfl (lv_at hl 2 rfl) ?_
              refine lv_iload_n hx hb dX4_setRates_72 rfl (lv_at hl 3 rfl) ?_
              refine b_iast (w' := MW a cI cJ he cm ad gw as de eq re (upd co (c) (x1)) av hi ke sq ab be nw tn 0 cd) hx hb hK hP hD hS 9 0 (f := co) rfl rfl (j := c) (by omega) (by decide) rfl dX4_setRates_73 (fun H locs hP hD hS => ?_)
              refine lv_aload_n hx hb dX4_setRates_74 rfl (lv_at hl 1 rfl) ?_
              refine va_get (D := D) (ci := 4) (v := .ref (a 10)) (C := RX4) (T := TX4) (N := 19) (Ts := wsX40) hx hb hin (fun _ h9 => h9) hown hK hP 0 rfl rfl 10 (by decide) (hts (.fieldLink RX4 37 "GroupbooksModel" "average" "[I") (by decide +kernel)) (fun _ h9 => h9) rfl dX4_setRates_75 ?_
              refine lv_iload_n hx hb dX4_setRates_78 rfl (lv_at hl 2 rfl) ?_
              refine lv_iload_n hx hb dX4_setRates_79 rfl (lv_at hl 4 rfl) ?_
              refine b_iast (w' := MW a cI cJ he cm ad gw as de eq re (upd co (c) (x1)) (upd av (c) (x2)) hi ke sq ab be nw tn 0 cd) hx hb hK hP hD hS 10 0 (f := av) rfl rfl (j := c) (by omega) (by decide) rfl dX4_setRates_80 (fun H locs hP hD hS => ?_)
              refine lv_aload_n hx hb dX4_setRates_81 rfl (lv_at hl 1 rfl) ?_
              refine va_get (D := D) (ci := 4) (v := .ref (a 11)) (C := RX4) (T := TX4) (N := 19) (Ts := wsX40) hx hb hin (fun _ h9 => h9) hown hK hP 0 rfl rfl 11 (by decide) (hts (.fieldLink RX4 40 "GroupbooksModel" "historical" "[I") (by decide +kernel)) (fun _ h9 => h9) rfl dX4_setRates_82 ?_
              refine lv_iload_n hx hb dX4_setRates_85 rfl (lv_at hl 2 rfl) ?_
              refine lv_iload hx hb dX4_setRates_86 (lv_at hl 5 rfl) ?_
              refine b_iast (w' := MW a cI cJ he cm ad gw as de eq re (upd co (c) (x1)) (upd av (c) (x2)) (upd hi (c) (x3)) ke sq ab be nw tn 0 cd) hx hb hK hP hD hS 11 0 (f := hi) rfl rfl (j := c) (by omega) (by decide) rfl dX4_setRates_88 (fun H locs hP hD hS => ?_)
              have e_7 : (upd co c x1) = (upd co (c) (x1)) := by first | rfl | exact if_pos (by assumption) | exact if_neg (by assumption) | (simp only [n_1, n_2, n_3, n_4, n_5, n_6, Bool.false_eq_true, ↓reduceIte])
              have hP := (congrArg (fun z9 => va_P D vwCl (MW a cI cJ he cm ad gw as de eq re z9 (upd av (c) (x2)) (upd hi (c) (x3)) ke sq ab be nw tn 0 cd) _) e_7).mpr hP
              have hD := (congrArg (fun z9 => va_D A (MW a cI cJ he cm ad gw as de eq re z9 (upd av (c) (x2)) (upd hi (c) (x3)) ke sq ab be nw tn 0 cd)) e_7).mpr hD
              have e_8 : (upd av c x2) = (upd av (c) (x2)) := by first | rfl | exact if_pos (by assumption) | exact if_neg (by assumption) | (simp only [n_1, n_2, n_3, n_4, n_5, n_6, Bool.false_eq_true, ↓reduceIte])
              have hP := (congrArg (fun z9 => va_P D vwCl (MW a cI cJ he cm ad gw as de eq re (upd co c x1) z9 (upd hi (c) (x3)) ke sq ab be nw tn 0 cd) _) e_8).mpr hP
              have hD := (congrArg (fun z9 => va_D A (MW a cI cJ he cm ad gw as de eq re (upd co c x1) z9 (upd hi (c) (x3)) ke sq ab be nw tn 0 cd)) e_8).mpr hD
              have e_9 : (upd hi c x3) = (upd hi (c) (x3)) := by first | rfl | exact if_pos (by assumption) | exact if_neg (by assumption) | (simp only [n_1, n_2, n_3, n_4, n_5, n_6, Bool.false_eq_true, ↓reduceIte])
              have hP := (congrArg (fun z9 => va_P D vwCl (MW a cI cJ he cm ad gw as de eq re (upd co c x1) (upd av c x2) z9 ke sq ab be nw tn 0 cd) _) e_9).mpr hP
              have hD := (congrArg (fun z9 => va_D A (MW a cI cJ he cm ad gw as de eq re (upd co c x1) (upd av c x2) z9 ke sq ab be nw tn 0 cd)) e_9).mpr hD
              exact W.vret hx hb hr (fun t ht hW => ⟨⟨(), rfl, trivial, (by rw [ht]; exact hP), va_K.moved hW.alike hK, hD⟩, hS.F ht⟩) hS.2.2 dX4_setRates_89

abbrev rmX4_setRates_bad : Room := ({ frames := 2, cells := 0, slots := 0, locals := 42 } : Room)
set_option maxHeartbeats 4000000 in
set_option maxRecDepth 100000 in
theorem c_X4_setRates_bad (ll : Launch) (D : va_G) (a : Nat → Nat) (cI cJ : ClassId) (sz : Nat) (he cm ad gw as de eq re co av hi ke : Nat → Int32) (sq ab be : Nat → Int64) (nw tn : Nat → Int32) (th cd : Int32) (x0 x1 x2 x3 : Int32) (hbad : ¬ (inB x0 0 5 = true ∧ inB x1 1 1000 = true ∧ inB x2 1 1000 = true ∧ inB x3 1 1000 = true)) : Met ll yX4_setRates wsX4_setRates rmX4_setRates_bad (va_Pc [.ref (a 0), .int (x0), .int (x1), .int (x2), .int (x3)] (PW D (tyG cI cJ) (MW a cI cJ he cm ad gw as de eq re co av hi ke sq ab be nw tn th cd) sz)) (va_Qv (fun (u : Unit) => True) (fun (u : Unit) t => AW D (tyG cI cJ) (va_A (MW a cI cJ he cm ad gw as de eq re co av hi ke sq ab be nw tn th cd) sz) (MW a cI cJ he cm ad gw as de eq re co av hi ke sq ab be nw tn 1 cd) t) (va_A (MW a cI cJ he cm ad gw as de eq re co av hi ke sq ab be nw tn th cd) sz)) 0 0 (va_A (MW a cI cJ he cm ad gw as de eq re co av hi ke sq ab be nw tn th cd) sz) := by
  refine Met.ofW (cc := cX4_setRates) (maxL := 6) (ret := none) (by decide) rfl ?_
  intro pp ee ss mm ar bel mth cde s₁ B hml hv
  obtain ⟨rfl, hsz, hP, hK, hD0, hE⟩ := hv
  have hx := B.exec
  have hb := B.bytes
  have hr := B.returns
  have hts := atoms_spec (ws := wsX4_setRates) B.pre
  have hown : ss.vm.findClass RX4 = some mm.cls := findClass_of_methodNamed B.named
  have hlocks := B.notSynchronized
  subst hsz
  have hD := hD0.self (sz := ss.heap.size)
  generalize hAe : va_A (MW a cI cJ he cm ad gw as de eq re co av hi ke sq ab be nw tn th cd) ss.heap.size = A at hD ⊢
  have hA : ∀ q : Nat, ss.heap.size ≤ q → A q := fun q h => by rw [← hAe]; exact Or.inr h
  have hS : va_S A ss.heap ss.heap [] := va_S.rf
  have hin : ∀ w ∈ wsX40, w.before ([.ref (a 0), .int (x0), .int (x1), .int (x2), .int (x3)] : List Value).toArray ss = true := fun w h => hts w ((by decide +kernel : ∀ w ∈ wsX40, w ∈ wsX4_setRates) w h)
  have hl := lv_entry [.ref (a 0), .int (x0), .int (x1), .int (x2), .int (x3)] (n := 6) (Nat.le_of_ble_eq_true rfl)
  rw [lg_entry_eq]
  generalize (lg_sl [.ref (a 0), .int (x0), .int (x1), .int (x2), .int (x3)] ++ List.replicate (6 - (lg_sl [.ref (a 0), .int (x0), .int (x1), .int (x2), .int (x3)]).length) Slot.unset).toArray = ls at hl ⊢
  have hl : lv_has ls 6 [(0, .ref (a 0)), (1, .int (x0)), (2, .int (x1)), (3, .int (x2)), (4, .int (x3))] := hl
  refine lv_iload_n hx hb dX4_setRates_0 rfl (lv_at hl 1 rfl) ?_
  refine b_csi (v := bI (inB x0 0 5)) (W.runS (As := [.int (x0)]) (rest := []) ⟨hx, hb, hml, hown, hts⟩ (c_X4_isCompany ll x0 ) (va_cwS 1 hts gX4_setRates_X4_isCompany rfl rfl rfl (by decide +kernel) ⟨Nat.le_of_ble_eq_true rfl, Nat.le_of_ble_eq_true rfl⟩) ⟨PT.blind, PT.to⟩ rfl rfl hl.1 rfl (lv_room (Nat.le_of_ble_eq_true rfl)) dX4_setRates_1 ⟨Nat.le_of_ble_eq_true rfl, Nat.le_of_ble_eq_true rfl⟩) ?_
  refine lv_if_eq (tgt := 45) hx hb dX4_setRates_4 (by decide) (fun c_1 => ?_) (fun c_1 => ?_)
  · have n_1 : ¬ (inB x0 0 5) = true := bI0 c_1
    refine lv_iconst (v := 0) hx hb dX4_setRates_45 (by decide) ?_
    refine lv_istore (lv' := [(5, .int (0)), (0, .ref (a 0)), (1, .int (x0)), (2, .int (x1)), (3, .int (x2)), (4, .int (x3))]) hx hb dX4_setRates_46 hl (by decide) rfl (fun ls hl => ?_)
    refine lv_aload_n hx hb dX4_setRates_48 rfl (lv_at hl 1 rfl) ?_
    refine lv_iload hx hb dX4_setRates_49 (lv_at hl 0 rfl) ?_
    refine lv_if_eq (tgt := 58) hx hb dX4_setRates_51 (by decide) (fun c_2 => ?_) (fun c_2 => ?_)
    · have n_2 := c_2
      refine lv_iconst (v := 1) hx hb dX4_setRates_58 (by decide) ?_
      refine va_put (D := D) (ci := 4) (v := .int (1)) (ty := .int) (C := RX4) (T := TX4) (N := 19) (Ts := wsX40) hx hb hin (fun _ h9 => h9) tyX4 tyX4_ok nmX4 hown hK hP hD hS 0 rfl rfl 0 (by decide) (hts (.fieldLink RX4 62 "GroupbooksModel" "thrown" "I") (by decide +kernel)) (fun _ h9 => h9) rfl (by decide +kernel) rfl rfl (Nat.le_of_ble_eq_true rfl) dX4_setRates_59 (fun H locs hP hD hS => ?_)
      have hP : va_P D vwCl (MW a cI cJ he cm ad gw as de eq re co av hi ke sq ab be nw tn 1 cd) H := hP
      have hD : va_D A (MW a cI cJ he cm ad gw as de eq re co av hi ke sq ab be nw tn 1 cd) := hD
      refine lv_iload hx hb dX4_setRates_62 (lv_at hl 0 rfl) ?_
      refine lv_if_eq (tgt := 89) hx hb dX4_setRates_64 (by decide) (fun c_3 => ?_) (fun c_3 => ?_)
      · have n_3 := c_3
        exact W.vret hx hb hr (fun t ht hW => ⟨⟨(), rfl, trivial, (by rw [ht]; exact hP), va_K.moved hW.alike hK, hD⟩, hS.F ht⟩) hS.2.2 dX4_setRates_89
      · have n_3 := c_3
        exact absurd c_3 (by decide)
    · have n_2 := c_2
      exact absurd c_2 (by decide)
  · have n_1 : (inB x0 0 5) = true := bI1 c_1
    refine lv_iload_n hx hb dX4_setRates_7 rfl (lv_at hl 2 rfl) ?_
    refine lv_iconst (v := 1) hx hb dX4_setRates_8 (by decide) ?_
    refine lv_sipush (v := 1000) hx hb dX4_setRates_9 (by decide) ?_
    refine b_csi (v := bI (inB x1 1 1000)) (W.runS (As := [.int (x1), .int (1), .int (1000)]) (rest := []) ⟨hx, hb, hml, hown, hts⟩ (c_X4_in ll x1 1 1000 ) (va_cwS 3 hts gX4_setRates_X4_in rfl rfl rfl (by decide +kernel) ⟨Nat.le_of_ble_eq_true rfl, Nat.le_of_ble_eq_true rfl⟩) ⟨PT.blind, PT.to⟩ rfl rfl hl.1 rfl (lv_room (Nat.le_of_ble_eq_true rfl)) dX4_setRates_12 ⟨Nat.le_of_ble_eq_true rfl, Nat.le_of_ble_eq_true rfl⟩) ?_
    refine lv_if_eq (tgt := 45) hx hb dX4_setRates_15 (by decide) (fun c_4 => ?_) (fun c_4 => ?_)
    · have n_4 : ¬ (inB x1 1 1000) = true := bI0 c_4
      refine lv_iconst (v := 0) hx hb dX4_setRates_45 (by decide) ?_
      refine lv_istore (lv' := [(5, .int (0)), (0, .ref (a 0)), (1, .int (x0)), (2, .int (x1)), (3, .int (x2)), (4, .int (x3))]) hx hb dX4_setRates_46 hl (by decide) rfl (fun ls hl => ?_)
      refine lv_aload_n hx hb dX4_setRates_48 rfl (lv_at hl 1 rfl) ?_
      refine lv_iload hx hb dX4_setRates_49 (lv_at hl 0 rfl) ?_
      refine lv_if_eq (tgt := 58) hx hb dX4_setRates_51 (by decide) (fun c_5 => ?_) (fun c_5 => ?_)
      · have n_5 := c_5
        refine lv_iconst (v := 1) hx hb dX4_setRates_58 (by decide) ?_
        refine va_put (D := D) (ci := 4) (v := .int (1)) (ty := .int) (C := RX4) (T := TX4) (N := 19) (Ts := wsX40) hx hb hin (fun _ h9 => h9) tyX4 tyX4_ok nmX4 hown hK hP hD hS 0 rfl rfl 0 (by decide) (hts (.fieldLink RX4 62 "GroupbooksModel" "thrown" "I") (by decide +kernel)) (fun _ h9 => h9) rfl (by decide +kernel) rfl rfl (Nat.le_of_ble_eq_true rfl) dX4_setRates_59 (fun H locs hP hD hS => ?_)
        have hP : va_P D vwCl (MW a cI cJ he cm ad gw as de eq re co av hi ke sq ab be nw tn 1 cd) H := hP
        have hD : va_D A (MW a cI cJ he cm ad gw as de eq re co av hi ke sq ab be nw tn 1 cd) := hD
        refine lv_iload hx hb dX4_setRates_62 (lv_at hl 0 rfl) ?_
        refine lv_if_eq (tgt := 89) hx hb dX4_setRates_64 (by decide) (fun c_6 => ?_) (fun c_6 => ?_)
        · have n_6 := c_6
          exact W.vret hx hb hr (fun t ht hW => ⟨⟨(), rfl, trivial, (by rw [ht]; exact hP), va_K.moved hW.alike hK, hD⟩, hS.F ht⟩) hS.2.2 dX4_setRates_89
        · have n_6 := c_6
          exact absurd c_6 (by decide)
      · have n_5 := c_5
        exact absurd c_5 (by decide)
    · have n_4 : (inB x1 1 1000) = true := bI1 c_4
      refine lv_iload_n hx hb dX4_setRates_18 rfl (lv_at hl 3 rfl) ?_
      refine lv_iconst (v := 1) hx hb dX4_setRates_19 (by decide) ?_
      refine lv_sipush (v := 1000) hx hb dX4_setRates_20 (by decide) ?_
      refine b_csi (v := bI (inB x2 1 1000)) (W.runS (As := [.int (x2), .int (1), .int (1000)]) (rest := []) ⟨hx, hb, hml, hown, hts⟩ (c_X4_in ll x2 1 1000 ) (va_cwS 3 hts gX4_setRates_X4_in rfl rfl rfl (by decide +kernel) ⟨Nat.le_of_ble_eq_true rfl, Nat.le_of_ble_eq_true rfl⟩) ⟨PT.blind, PT.to⟩ rfl rfl hl.1 rfl (lv_room (Nat.le_of_ble_eq_true rfl)) dX4_setRates_23 ⟨Nat.le_of_ble_eq_true rfl, Nat.le_of_ble_eq_true rfl⟩) ?_
      refine lv_if_eq (tgt := 45) hx hb dX4_setRates_26 (by decide) (fun c_7 => ?_) (fun c_7 => ?_)
      · have n_7 : ¬ (inB x2 1 1000) = true := bI0 c_7
        refine lv_iconst (v := 0) hx hb dX4_setRates_45 (by decide) ?_
        refine lv_istore (lv' := [(5, .int (0)), (0, .ref (a 0)), (1, .int (x0)), (2, .int (x1)), (3, .int (x2)), (4, .int (x3))]) hx hb dX4_setRates_46 hl (by decide) rfl (fun ls hl => ?_)
        refine lv_aload_n hx hb dX4_setRates_48 rfl (lv_at hl 1 rfl) ?_
        refine lv_iload hx hb dX4_setRates_49 (lv_at hl 0 rfl) ?_
        refine lv_if_eq (tgt := 58) hx hb dX4_setRates_51 (by decide) (fun c_8 => ?_) (fun c_8 => ?_)
        · have n_8 := c_8
          refine lv_iconst (v := 1) hx hb dX4_setRates_58 (by decide) ?_
          refine va_put (D := D) (ci := 4) (v := .int (1)) (ty := .int) (C := RX4) (T := TX4) (N := 19) (Ts := wsX40) hx hb hin (fun _ h9 => h9) tyX4 tyX4_ok nmX4 hown hK hP hD hS 0 rfl rfl 0 (by decide) (hts (.fieldLink RX4 62 "GroupbooksModel" "thrown" "I") (by decide +kernel)) (fun _ h9 => h9) rfl (by decide +kernel) rfl rfl (Nat.le_of_ble_eq_true rfl) dX4_setRates_59 (fun H locs hP hD hS => ?_)
          have hP : va_P D vwCl (MW a cI cJ he cm ad gw as de eq re co av hi ke sq ab be nw tn 1 cd) H := hP
          have hD : va_D A (MW a cI cJ he cm ad gw as de eq re co av hi ke sq ab be nw tn 1 cd) := hD
          refine lv_iload hx hb dX4_setRates_62 (lv_at hl 0 rfl) ?_
          refine lv_if_eq (tgt := 89) hx hb dX4_setRates_64 (by decide) (fun c_9 => ?_) (fun c_9 => ?_)
          · have n_9 := c_9
            exact W.vret hx hb hr (fun t ht hW => ⟨⟨(), rfl, trivial, (by rw [ht]; exact hP), va_K.moved hW.alike hK, hD⟩, hS.F ht⟩) hS.2.2 dX4_setRates_89
          · have n_9 := c_9
            exact absurd c_9 (by decide)
        · have n_8 := c_8
          exact absurd c_8 (by decide)
      · have n_7 : (inB x2 1 1000) = true := bI1 c_7
        refine lv_iload hx hb dX4_setRates_29 (lv_at hl 4 rfl) ?_
        refine lv_iconst (v := 1) hx hb dX4_setRates_31 (by decide) ?_
        refine lv_sipush (v := 1000) hx hb dX4_setRates_32 (by decide) ?_
        refine b_csi (v := bI (inB x3 1 1000)) (W.runS (As := [.int (x3), .int (1), .int (1000)]) (rest := []) ⟨hx, hb, hml, hown, hts⟩ (c_X4_in ll x3 1 1000 ) (va_cwS 3 hts gX4_setRates_X4_in rfl rfl rfl (by decide +kernel) ⟨Nat.le_of_ble_eq_true rfl, Nat.le_of_ble_eq_true rfl⟩) ⟨PT.blind, PT.to⟩ rfl rfl hl.1 rfl (lv_room (Nat.le_of_ble_eq_true rfl)) dX4_setRates_35 ⟨Nat.le_of_ble_eq_true rfl, Nat.le_of_ble_eq_true rfl⟩) ?_
        refine lv_if_eq (tgt := 45) hx hb dX4_setRates_38 (by decide) (fun c_10 => ?_) (fun c_10 => ?_)
        · have n_10 : ¬ (inB x3 1 1000) = true := bI0 c_10
          refine lv_iconst (v := 0) hx hb dX4_setRates_45 (by decide) ?_
          refine lv_istore (lv' := [(5, .int (0)), (0, .ref (a 0)), (1, .int (x0)), (2, .int (x1)), (3, .int (x2)), (4, .int (x3))]) hx hb dX4_setRates_46 hl (by decide) rfl (fun ls hl => ?_)
          refine lv_aload_n hx hb dX4_setRates_48 rfl (lv_at hl 1 rfl) ?_
          refine lv_iload hx hb dX4_setRates_49 (lv_at hl 0 rfl) ?_
          refine lv_if_eq (tgt := 58) hx hb dX4_setRates_51 (by decide) (fun c_11 => ?_) (fun c_11 => ?_)
          · have n_11 := c_11
            refine lv_iconst (v := 1) hx hb dX4_setRates_58 (by decide) ?_
            refine va_put (D := D) (ci := 4) (v := .int (1)) (ty := .int) (C := RX4) (T := TX4) (N := 19) (Ts := wsX40) hx hb hin (fun _ h9 => h9) tyX4 tyX4_ok nmX4 hown hK hP hD hS 0 rfl rfl 0 (by decide) (hts (.fieldLink RX4 62 "GroupbooksModel" "thrown" "I") (by decide +kernel)) (fun _ h9 => h9) rfl (by decide +kernel) rfl rfl (Nat.le_of_ble_eq_true rfl) dX4_setRates_59 (fun H locs hP hD hS => ?_)
            have hP : va_P D vwCl (MW a cI cJ he cm ad gw as de eq re co av hi ke sq ab be nw tn 1 cd) H := hP
            have hD : va_D A (MW a cI cJ he cm ad gw as de eq re co av hi ke sq ab be nw tn 1 cd) := hD
            refine lv_iload hx hb dX4_setRates_62 (lv_at hl 0 rfl) ?_
            refine lv_if_eq (tgt := 89) hx hb dX4_setRates_64 (by decide) (fun c_12 => ?_) (fun c_12 => ?_)
            · have n_12 := c_12
              exact W.vret hx hb hr (fun t ht hW => ⟨⟨(), rfl, trivial, (by rw [ht]; exact hP), va_K.moved hW.alike hK, hD⟩, hS.F ht⟩) hS.2.2 dX4_setRates_89
            · have n_12 := c_12
              exact absurd c_12 (by decide)
          · have n_11 := c_11
            exact absurd c_11 (by decide)
        · have n_10 : (inB x3 1 1000) = true := bI1 c_10
          exact absurd ⟨n_1, n_4, n_7, n_10⟩ hbad

abbrev rmX4_shareByRounds : Room := ({ frames := 2, cells := 0, slots := 0, locals := 42 } : Room)
set_option maxHeartbeats 4000000 in
set_option maxRecDepth 100000 in
theorem c_X4_shareByRounds (ll : Launch) (D : va_G) (a : Nat → Nat) (cI cJ : ClassId) (sz : Nat) (he cm ad gw as de eq re co av hi ke : Nat → Int32) (sq ab be : Nat → Int64) (nw tn : Nat → Int32) (th cd : Int32) (c nr : Nat) (hc : c < 6) (hn : nr ≤ 200) (hqn : inB (nI nr) 0 200 = true) : Met ll yX4_shareByRounds wsX4_shareByRounds rmX4_shareByRounds (va_Pc [.ref (a 0), .int (nI (c)), .int (nI (nr))] (PW D (tyG cI cJ) (MW a cI cJ he cm ad gw as de eq re co av hi ke sq ab be nw tn th cd) sz)) (va_Qi (fun (rr : Int32) (u : Unit) => rr = (mr he nw tn nr).1 c) (fun (u : Unit) t => AW D (tyG cI cJ) (va_A (MW a cI cJ he cm ad gw as de eq re co av hi ke sq ab be nw tn th cd) sz) (MW a cI cJ he cm ad gw as de eq re co av hi ke sq ab be ((mr he nw tn nr).1) ((mr he nw tn nr).2) 0 cd) t) (va_A (MW a cI cJ he cm ad gw as de eq re co av hi ke sq ab be nw tn th cd) sz)) 0 0 (va_A (MW a cI cJ he cm ad gw as de eq re co av hi ke sq ab be nw tn th cd) sz) := by
  refine Met.ofW (cc := cX4_shareByRounds) (maxL := 7) (ret := (some .int)) (by decide) rfl ?_
  intro pp ee ss mm ar bel mth cde s₁ B hml hv
  obtain ⟨rfl, hsz, hP, hK, hD0, hE⟩ := hv
  have hx := B.exec
  have hb := B.bytes
  have hr := B.returns
  have hts := atoms_spec (ws := wsX4_shareByRounds) B.pre
  have hown : ss.vm.findClass RX4 = some mm.cls := findClass_of_methodNamed B.named
  have hlocks := B.notSynchronized
  subst hsz
  have hD := hD0.self (sz := ss.heap.size)
  generalize hAe : va_A (MW a cI cJ he cm ad gw as de eq re co av hi ke sq ab be nw tn th cd) ss.heap.size = A at hD ⊢
  have hA : ∀ q : Nat, ss.heap.size ≤ q → A q := fun q h => by rw [← hAe]; exact Or.inr h
  have hS : va_S A ss.heap ss.heap [] := va_S.rf
  have hin : ∀ w ∈ wsX40, w.before ([.ref (a 0), .int (nI (c)), .int (nI (nr))] : List Value).toArray ss = true := fun w h => hts w ((by decide +kernel : ∀ w ∈ wsX40, w ∈ wsX4_shareByRounds) w h)
  have hl := lv_entry [.ref (a 0), .int (nI (c)), .int (nI (nr))] (n := 7) (Nat.le_of_ble_eq_true rfl)
  rw [lg_entry_eq]
  generalize (lg_sl [.ref (a 0), .int (nI (c)), .int (nI (nr))] ++ List.replicate (7 - (lg_sl [.ref (a 0), .int (nI (c)), .int (nI (nr))]).length) Slot.unset).toArray = ls at hl ⊢
  have hl : lv_has ls 7 [(0, .ref (a 0)), (1, .int (nI (c))), (2, .int (nI (nr)))] := hl
  generalize hZ : MQ bel _ _ ss _ _ _ = Z
  refine lv_aload_n hx hb dX4_shareByRounds_0 rfl (lv_at hl 0 rfl) ?_
  refine lv_iconst (v := 0) hx hb dX4_shareByRounds_1 (by decide) ?_
  refine va_put (D := D) (ci := 4) (v := .int (0)) (ty := .int) (C := RX4) (T := TX4) (N := 19) (Ts := wsX40) hx hb hin (fun _ h9 => h9) tyX4 tyX4_ok nmX4 hown hK hP hD hS 0 rfl rfl 0 (by decide) (hts (.fieldLink RX4 62 "GroupbooksModel" "thrown" "I") (by decide +kernel)) (fun _ h9 => h9) rfl (by decide +kernel) rfl rfl (Nat.le_of_ble_eq_true rfl) dX4_shareByRounds_2 (fun H locs hP hD hS => ?_)
  have hP : va_P D vwCl (MW a cI cJ he cm ad gw as de eq re co av hi ke sq ab be nw tn 0 cd) H := hP
  have hD : va_D A (MW a cI cJ he cm ad gw as de eq re co av hi ke sq ab be nw tn 0 cd) := hD
  refine lv_iload_n hx hb dX4_shareByRounds_5 rfl (lv_at hl 1 rfl) ?_
  refine b_csi (v := bI (inB (nI (c)) 0 5)) (W.runS (As := [.int (nI (c))]) (rest := []) ⟨hx, hb, hml, hown, hts⟩ (c_X4_isCompany ll (nI (c)) ) (va_cwS 1 hts gX4_shareByRounds_X4_isCompany rfl rfl rfl (by decide +kernel) ⟨Nat.le_of_ble_eq_true rfl, Nat.le_of_ble_eq_true rfl⟩) ⟨PT.blind, PT.to⟩ rfl rfl hl.1 rfl (lv_room (Nat.le_of_ble_eq_true rfl)) dX4_shareByRounds_6 ⟨Nat.le_of_ble_eq_true rfl, Nat.le_of_ble_eq_true rfl⟩) ?_
  refine lv_if_eq (tgt := 23) hx hb dX4_shareByRounds_9 (by decide) (fun c_1 => ?_) (fun c_1 => ?_)
  · have n_1 : ¬ (inB (nI (c)) 0 5) = true := bI0 c_1
    exact absurd (inB_c c hc) n_1
  · have n_1 : (inB (nI (c)) 0 5) = true := bI1 c_1
    refine lv_iload_n hx hb dX4_shareByRounds_12 rfl (lv_at hl 2 rfl) ?_
    refine lv_iconst (v := 0) hx hb dX4_shareByRounds_13 (by decide) ?_
    refine lv_sipush (v := 200) hx hb dX4_shareByRounds_14 (by decide) ?_
    refine b_csi (v := bI (inB (nI (nr)) 0 200)) (W.runS (As := [.int (nI (nr)), .int (0), .int (200)]) (rest := []) ⟨hx, hb, hml, hown, hts⟩ (c_X4_in ll (nI (nr)) 0 200 ) (va_cwS 3 hts gX4_shareByRounds_X4_in rfl rfl rfl (by decide +kernel) ⟨Nat.le_of_ble_eq_true rfl, Nat.le_of_ble_eq_true rfl⟩) ⟨PT.blind, PT.to⟩ rfl rfl hl.1 rfl (lv_room (Nat.le_of_ble_eq_true rfl)) dX4_shareByRounds_17 ⟨Nat.le_of_ble_eq_true rfl, Nat.le_of_ble_eq_true rfl⟩) ?_
    refine lv_if_ne (tgt := 29) hx hb dX4_shareByRounds_20 (by decide) (fun c_2 => ?_) (fun c_2 => ?_)
    · have n_2 : (inB (nI (nr)) 0 200) = true := bI1 c_2
      refine lv_iconst (v := 0) hx hb dX4_shareByRounds_29 (by decide) ?_
      refine lv_istore_n (lv' := [(3, .int (0)), (0, .ref (a 0)), (1, .int (nI (c))), (2, .int (nI (nr)))]) hx hb dX4_shareByRounds_30 rfl hl (by decide) rfl (fun ls hl => ?_)
      have L1 : ∀ (n1 k1 : Nat), k1 + n1 = 6 → ∀ (H : Heap) (locs : List Loc) (ls : Array Slot), va_P D vwCl (MW a cI cJ he cm ad gw as de eq re co av hi ke sq ab be (miA nw (k1)) tn 0 cd) H → va_D A (MW a cI cJ he cm ad gw as de eq re co av hi ke sq ab be (miA nw (k1)) tn 0 cd) → va_S A ss.heap H locs → lv_has ls 7 [(3, .int (nI (k1))), (0, .ref (a 0)), (1, .int (nI (c))), (2, .int (nI (nr)))] → W pp ll ee rmX4_shareByRounds ss mm (([.ref (a 0), .int (nI (c)), .int (nI (nr))] : List Value).toArray) bel mth cde H locs 0 0 Z (F0 mm 31 ls []) := by
        intro n1
        induction n1 with
        | zero =>
          intro k1 hk1  H locs ls hP hD hS hl
          have hk1b : 6 = k1 := by omega
          subst hk1b
          refine lv_iload_n hx hb dX4_shareByRounds_31 rfl (lv_at hl 0 rfl) ?_
          refine lv_bipush (v := 6) hx hb dX4_shareByRounds_32 (by decide) ?_
          refine lv_icmp_ge (tgt := 59) hx hb dX4_shareByRounds_34 (by decide) (fun c_3 => ?_) (fun c_3 => ?_)
          · have n_3 : (6) ≤ (6) := (nI_leI (a := 6) (b := 6) (by omega) (by omega)).mp c_3
            refine lv_iconst (v := 0) hx hb dX4_shareByRounds_59 (by decide) ?_
            refine lv_istore_n (lv' := [(3, .int (0)), (0, .ref (a 0)), (1, .int (nI (c))), (2, .int (nI (nr)))]) hx hb dX4_shareByRounds_60 rfl hl (by decide) rfl (fun ls hl => ?_)
            have L2 : ∀ (n2 j2 : Nat), j2 + n2 = nr → ∀ (H : Heap) (locs : List Loc) (ls : Array Slot), va_P D vwCl (MW a cI cJ he cm ad gw as de eq re co av hi ke sq ab be ((mr he nw tn (j2)).1) ((mr he nw tn (j2)).2) 0 cd) H → va_D A (MW a cI cJ he cm ad gw as de eq re co av hi ke sq ab be ((mr he nw tn (j2)).1) ((mr he nw tn (j2)).2) 0 cd) → va_S A ss.heap H locs → lv_has ls 7 [(3, .int (nI (j2))), (0, .ref (a 0)), (1, .int (nI (c))), (2, .int (nI (nr)))] → W pp ll ee rmX4_shareByRounds ss mm (([.ref (a 0), .int (nI (c)), .int (nI (nr))] : List Value).toArray) bel mth cde H locs 0 0 Z (F0 mm 61 ls []) := by
              intro n2
              induction n2 with
              | zero =>
                intro j2 hk2  H locs ls hP hD hS hl
                have hk2b : nr = j2 := by omega
                subst hk2b
                refine lv_iload_n hx hb dX4_shareByRounds_61 rfl (lv_at hl 0 rfl) ?_
                refine lv_iload_n hx hb dX4_shareByRounds_62 rfl (lv_at hl 3 rfl) ?_
                refine lv_icmp_ge (tgt := 175) hx hb dX4_shareByRounds_63 (by decide) (fun c_4 => ?_) (fun c_4 => ?_)
                · have n_4 : (nr) ≤ (nr) := (nI_leI (a := nr) (b := nr) (by omega) (by omega)).mp c_4
                  refine lv_aload_n hx hb dX4_shareByRounds_175 rfl (lv_at hl 1 rfl) ?_
                  refine va_get (D := D) (ci := 4) (v := .ref (a 16)) (C := RX4) (T := TX4) (N := 19) (Ts := wsX40) hx hb hin (fun _ h9 => h9) hown hK hP 0 rfl rfl 17 (by decide) (hts (.fieldLink RX4 56 "GroupbooksModel" "now" "[I") (by decide +kernel)) (fun _ h9 => h9) rfl dX4_shareByRounds_176 ?_
                  refine lv_iload_n hx hb dX4_shareByRounds_179 rfl (lv_at hl 2 rfl) ?_
                  refine b_iald hx hb hK hP 16 0 (f := ((mr he nw tn (nr)).1)) rfl rfl (j := c) (by omega) (by decide) dX4_shareByRounds_180 ?_
                  have e_5 : ((mr he nw tn nr).1) = ((mr he nw tn (nr)).1) := by first | rfl | exact if_pos (by assumption) | exact if_neg (by assumption) | (simp only [n_1, n_2, n_3, n_4, Bool.false_eq_true, ↓reduceIte])
                  have hP := (congrArg (fun z9 => va_P D vwCl (MW a cI cJ he cm ad gw as de eq re co av hi ke sq ab be z9 ((mr he nw tn (nr)).2) 0 cd) _) e_5).mpr hP
                  have hD := (congrArg (fun z9 => va_D A (MW a cI cJ he cm ad gw as de eq re co av hi ke sq ab be z9 ((mr he nw tn (nr)).2) 0 cd)) e_5).mpr hD
                  have e_6 : ((mr he nw tn nr).2) = ((mr he nw tn (nr)).2) := by first | rfl | exact if_pos (by assumption) | exact if_neg (by assumption) | (simp only [n_1, n_2, n_3, n_4, Bool.false_eq_true, ↓reduceIte])
                  have hP := (congrArg (fun z9 => va_P D vwCl (MW a cI cJ he cm ad gw as de eq re co av hi ke sq ab be ((mr he nw tn nr).1) z9 0 cd) _) e_6).mpr hP
                  have hD := (congrArg (fun z9 => va_D A (MW a cI cJ he cm ad gw as de eq re co av hi ke sq ab be ((mr he nw tn nr).1) z9 0 cd)) e_6).mpr hD
                  subst hZ; exact W.iret hx hb hr (fun t ht hW => ⟨⟨_, (), rfl, rfl, (by rw [ht]; exact hP), va_K.moved hW.alike hK, hD⟩, hS.F ht⟩) hS.2.2 dX4_shareByRounds_181
                · have n_4 : ¬ ((nr) ≤ (nr)) := fun h => c_4 ((nI_leI (a := nr) (b := nr) (by omega) (by omega)).mpr h)
                  exfalso; omega
              | succ n2 ih2 =>
                intro j2 hk2  H locs ls hP hD hS hl
                have hk2b : j2 < nr := by omega
                refine lv_iload_n hx hb dX4_shareByRounds_61 rfl (lv_at hl 0 rfl) ?_
                refine lv_iload_n hx hb dX4_shareByRounds_62 rfl (lv_at hl 3 rfl) ?_
                refine lv_icmp_ge (tgt := 175) hx hb dX4_shareByRounds_63 (by decide) (fun c_7 => ?_) (fun c_7 => ?_)
                · have n_7 : (nr) ≤ (j2) := (nI_leI (a := nr) (b := j2) (by omega) (by omega)).mp c_7
                  exfalso; omega
                · have n_7 : ¬ ((nr) ≤ (j2)) := fun h => c_7 ((nI_leI (a := nr) (b := j2) (by omega) (by omega)).mpr h)
                  refine lv_iconst (v := 1) hx hb dX4_shareByRounds_66 (by decide) ?_
                  refine lv_istore (lv' := [(4, .int (1)), (3, .int (nI (j2))), (0, .ref (a 0)), (1, .int (nI (c))), (2, .int (nI (nr)))]) hx hb dX4_shareByRounds_67 hl (by decide) rfl (fun ls hl => ?_)
                  have L3 : ∀ (n3 k3 : Nat), k3 + n3 = 5 → ∀ (H : Heap) (locs : List Loc) (ls : Array Slot), va_P D vwCl (MW a cI cJ he cm ad gw as de eq re co av hi ke sq ab be ((mr he nw tn (j2)).1) (plN he (mr he nw tn j2).1 (mr he nw tn j2).2 (k3)) 0 cd) H → va_D A (MW a cI cJ he cm ad gw as de eq re co av hi ke sq ab be ((mr he nw tn (j2)).1) (plN he (mr he nw tn j2).1 (mr he nw tn j2).2 (k3)) 0 cd) → va_S A ss.heap H locs → lv_has ls 7 [(4, .int (nI (k3 + 1))), (3, .int (nI (j2))), (0, .ref (a 0)), (1, .int (nI (c))), (2, .int (nI (nr)))] → W pp ll ee rmX4_shareByRounds ss mm (([.ref (a 0), .int (nI (c)), .int (nI (nr))] : List Value).toArray) bel mth cde H locs 0 0 Z (F0 mm 69 ls []) := by
                    intro n3
                    induction n3 with
                    | zero =>
                      intro k3 hk3  H locs ls hP hD hS hl
                      have hk3b : 5 = k3 := by omega
                      subst hk3b
                      refine lv_iload hx hb dX4_shareByRounds_69 (lv_at hl 0 rfl) ?_
                      refine lv_bipush (v := 6) hx hb dX4_shareByRounds_71 (by decide) ?_
                      refine lv_icmp_ge (tgt := 139) hx hb dX4_shareByRounds_73 (by decide) (fun c_8 => ?_) (fun c_8 => ?_)
                      · have n_8 : (6) ≤ (5 + 1) := (nI_leI (a := 6) (b := 5 + 1) (by omega) (by omega)).mp c_8
                        refine lv_iconst (v := 1) hx hb dX4_shareByRounds_139 (by decide) ?_
                        refine lv_istore (lv' := [(4, .int (1)), (3, .int (nI (j2))), (0, .ref (a 0)), (1, .int (nI (c))), (2, .int (nI (nr)))]) hx hb dX4_shareByRounds_140 hl (by decide) rfl (fun ls hl => ?_)
                        have L4 : ∀ (n4 w4 : Nat), w4 + n4 = 5 → ∀ (H : Heap) (locs : List Loc) (ls : Array Slot), va_P D vwCl (MW a cI cJ he cm ad gw as de eq re co av hi ke sq ab be (plA (mr he nw tn j2).1 (plN he (mr he nw tn j2).1 (mr he nw tn j2).2 5) (w4)) (plN he (mr he nw tn j2).1 (mr he nw tn j2).2 (5)) 0 cd) H → va_D A (MW a cI cJ he cm ad gw as de eq re co av hi ke sq ab be (plA (mr he nw tn j2).1 (plN he (mr he nw tn j2).1 (mr he nw tn j2).2 5) (w4)) (plN he (mr he nw tn j2).1 (mr he nw tn j2).2 (5)) 0 cd) → va_S A ss.heap H locs → lv_has ls 7 [(4, .int (nI (w4 + 1))), (3, .int (nI (j2))), (0, .ref (a 0)), (1, .int (nI (c))), (2, .int (nI (nr)))] → W pp ll ee rmX4_shareByRounds ss mm (([.ref (a 0), .int (nI (c)), .int (nI (nr))] : List Value).toArray) bel mth cde H locs 0 0 Z (F0 mm 142 ls []) := by
                          intro n4
                          induction n4 with
                          | zero =>
                            intro w4 hk4  H locs ls hP hD hS hl
                            have hk4b : 5 = w4 := by omega
                            subst hk4b
                            refine lv_iload hx hb dX4_shareByRounds_142 (lv_at hl 0 rfl) ?_
                            refine lv_bipush (v := 6) hx hb dX4_shareByRounds_144 (by decide) ?_
                            refine lv_icmp_ge (tgt := 169) hx hb dX4_shareByRounds_146 (by decide) (fun c_9 => ?_) (fun c_9 => ?_)
                            · have n_9 : (6) ≤ (5 + 1) := (nI_leI (a := 6) (b := 5 + 1) (by omega) (by omega)).mp c_9
                              refine lv_iinc (v := nI (j2 + 1)) (lv' := [(3, .int (nI (j2 + 1))), (4, .int (nI (5 + 1))), (0, .ref (a 0)), (1, .int (nI (c))), (2, .int (nI (nr)))]) hx hb dX4_shareByRounds_169 hl (k := 1) rfl (nI_1 (j2)) (by decide) rfl (fun ls hl => ?_)
                              refine lv_goto (tgt := 61) hx hb dX4_shareByRounds_172 (by decide) ?_
                              have e_10 : ((mr he nw tn (j2 + 1)).1) = (plA (mr he nw tn j2).1 (plN he (mr he nw tn j2).1 (mr he nw tn j2).2 5) (5)) := by first | rfl | exact if_pos (by assumption) | exact if_neg (by assumption) | (simp only [n_1, n_2, n_3, n_7, n_8, n_9, Bool.false_eq_true, ↓reduceIte])
                              have e_11 : ((mr he nw tn (j2 + 1)).2) = (plN he (mr he nw tn j2).1 (mr he nw tn j2).2 (5)) := by first | rfl | exact if_pos (by assumption) | exact if_neg (by assumption) | (simp only [n_1, n_2, n_3, n_7, n_8, n_9, Bool.false_eq_true, ↓reduceIte])
                              exact ih2 (j2 + 1) (by omega) _ _ ls (by rw [e_10, e_11]; exact hP) (by rw [e_10, e_11]; exact hD) hS (lv_sub hl [0, 2, 3, 4] rfl)
                            · have n_9 : ¬ ((6) ≤ (5 + 1)) := fun h => c_9 ((nI_leI (a := 6) (b := 5 + 1) (by omega) (by omega)).mpr h)
                              exfalso; omega
                          | succ n4 ih4 =>
                            intro w4 hk4  H locs ls hP hD hS hl
                            have hk4b : w4 < 5 := by omega
                            refine lv_iload hx hb dX4_shareByRounds_142 (lv_at hl 0 rfl) ?_
                            refine lv_bipush (v := 6) hx hb dX4_shareByRounds_144 (by decide) ?_
                            refine lv_icmp_ge (tgt := 169) hx hb dX4_shareByRounds_146 (by decide) (fun c_12 => ?_) (fun c_12 => ?_)
                            · have n_12 : (6) ≤ (w4 + 1) := (nI_leI (a := 6) (b := w4 + 1) (by omega) (by omega)).mp c_12
                              exfalso; omega
                            · have n_12 : ¬ ((6) ≤ (w4 + 1)) := fun h => c_12 ((nI_leI (a := 6) (b := w4 + 1) (by omega) (by omega)).mpr h)
                              refine lv_aload_n hx hb dX4_shareByRounds_149 rfl (lv_at hl 2 rfl) ?_
                              refine va_get (D := D) (ci := 4) (v := .ref (a 16)) (C := RX4) (T := TX4) (N := 19) (Ts := wsX40) hx hb hin (fun _ h9 => h9) hown hK hP 0 rfl rfl 17 (by decide) (hts (.fieldLink RX4 56 "GroupbooksModel" "now" "[I") (by decide +kernel)) (fun _ h9 => h9) rfl dX4_shareByRounds_150 ?_
                              refine lv_iload hx hb dX4_shareByRounds_153 (lv_at hl 0 rfl) ?_
                              refine lv_aload_n hx hb dX4_shareByRounds_155 rfl (lv_at hl 2 rfl) ?_
                              refine va_get (D := D) (ci := 4) (v := .ref (a 17)) (C := RX4) (T := TX4) (N := 19) (Ts := wsX40) hx hb hin (fun _ h9 => h9) hown hK hP 0 rfl rfl 18 (by decide) (hts (.fieldLink RX4 59 "GroupbooksModel" "then" "[I") (by decide +kernel)) (fun _ h9 => h9) rfl dX4_shareByRounds_156 ?_
                              refine lv_iload hx hb dX4_shareByRounds_159 (lv_at hl 0 rfl) ?_
                              refine b_iald hx hb hK hP 17 0 (f := (plN he (mr he nw tn j2).1 (mr he nw tn j2).2 (5))) rfl rfl (j := w4 + 1) (by omega) (by decide) dX4_shareByRounds_161 ?_
                              refine b_iast (w' := MW a cI cJ he cm ad gw as de eq re co av hi ke sq ab be (upd (plA (mr he nw tn j2).1 (plN he (mr he nw tn j2).1 (mr he nw tn j2).2 5) (w4)) (w4 + 1) ((plN he (mr he nw tn j2).1 (mr he nw tn j2).2 (5)) (w4 + 1))) (plN he (mr he nw tn j2).1 (mr he nw tn j2).2 (5)) 0 cd) hx hb hK hP hD hS 16 0 (f := (plA (mr he nw tn j2).1 (plN he (mr he nw tn j2).1 (mr he nw tn j2).2 5) (w4))) rfl rfl (j := w4 + 1) (by omega) (by decide) rfl dX4_shareByRounds_162 (fun H locs hP hD hS => ?_)
                              refine lv_iinc (v := nI (w4 + 1 + 1)) (lv' := [(4, .int (nI (w4 + 1 + 1))), (3, .int (nI (j2))), (0, .ref (a 0)), (1, .int (nI (c))), (2, .int (nI (nr)))]) hx hb dX4_shareByRounds_163 hl (k := 0) rfl (nI_1 (w4 + 1)) (by decide) rfl (fun ls hl => ?_)
                              refine lv_goto (tgt := 142) hx hb dX4_shareByRounds_166 (by decide) ?_
                              have e_13 : (plA (mr he nw tn j2).1 (plN he (mr he nw tn j2).1 (mr he nw tn j2).2 5) (w4 + 1)) = (upd (plA (mr he nw tn j2).1 (plN he (mr he nw tn j2).1 (mr he nw tn j2).2 5) (w4)) (w4 + 1) ((plN he (mr he nw tn j2).1 (mr he nw tn j2).2 (5)) (w4 + 1))) := by first | rfl | exact if_pos (by assumption) | exact if_neg (by assumption) | (simp only [n_1, n_2, n_3, n_7, n_8, n_12, Bool.false_eq_true, ↓reduceIte])
                              exact ih4 (w4 + 1) (by omega) _ _ ls (by rw [e_13]; exact hP) (by rw [e_13]; exact hD) hS (lv_sub hl [0, 1, 2, 3, 4] rfl)
                        exact L4 (5) 0 (by omega) _ _ ls hP hD hS (lv_sub hl [0, 1, 2, 3, 4] rfl)
                      · have n_8 : ¬ ((6) ≤ (5 + 1)) := fun h => c_8 ((nI_leI (a := 6) (b := 5 + 1) (by omega) (by omega)).mpr h)
                        exfalso; omega
                    | succ n3 ih3 =>
                      intro k3 hk3  H locs ls hP hD hS hl
                      have hk3b : k3 < 5 := by omega
                      refine lv_iload hx hb dX4_shareByRounds_69 (lv_at hl 0 rfl) ?_
                      refine lv_bipush (v := 6) hx hb dX4_shareByRounds_71 (by decide) ?_
                      refine lv_icmp_ge (tgt := 139) hx hb dX4_shareByRounds_73 (by decide) (fun c_14 => ?_) (fun c_14 => ?_)
                      · have n_14 : (6) ≤ (k3 + 1) := (nI_leI (a := 6) (b := k3 + 1) (by omega) (by omega)).mp c_14
                        exfalso; omega
                      · have n_14 : ¬ ((6) ≤ (k3 + 1)) := fun h => c_14 ((nI_leI (a := 6) (b := k3 + 1) (by omega) (by omega)).mpr h)
                        refine lv_iconst (v := 0) hx hb dX4_shareByRounds_76 (by decide) ?_
                        refine lv_istore (lv' := [(5, .int (0)), (4, .int (nI (k3 + 1))), (3, .int (nI (j2))), (0, .ref (a 0)), (1, .int (nI (c))), (2, .int (nI (nr)))]) hx hb dX4_shareByRounds_77 hl (by decide) rfl (fun ls hl => ?_)
                        refine lv_iconst (v := 0) hx hb dX4_shareByRounds_79 (by decide) ?_
                        refine lv_istore (lv' := [(6, .int (0)), (5, .int (0)), (4, .int (nI (k3 + 1))), (3, .int (nI (j2))), (0, .ref (a 0)), (1, .int (nI (c))), (2, .int (nI (nr)))]) hx hb dX4_shareByRounds_80 hl (by decide) rfl (fun ls hl => ?_)
                        have L5 : ∀ (n5 v5 : Nat), v5 + n5 = 6 → ∀ (H : Heap) (locs : List Loc) (ls : Array Slot), va_P D vwCl (MW a cI cJ he cm ad gw as de eq re co av hi ke sq ab be ((mr he nw tn (j2)).1) (plN he (mr he nw tn j2).1 (mr he nw tn j2).2 (k3)) 0 cd) H → va_D A (MW a cI cJ he cm ad gw as de eq re co av hi ke sq ab be ((mr he nw tn (j2)).1) (plN he (mr he nw tn j2).1 (mr he nw tn j2).2 (k3)) 0 cd) → va_S A ss.heap H locs → lv_has ls 7 [(6, .int (nI (v5))), (5, .int (sI (fun o => he (6 * o + (k3 + 1)) * (mr he nw tn j2).1 o) (v5))), (4, .int (nI (k3 + 1))), (3, .int (nI (j2))), (0, .ref (a 0)), (1, .int (nI (c))), (2, .int (nI (nr)))] → W pp ll ee rmX4_shareByRounds ss mm (([.ref (a 0), .int (nI (c)), .int (nI (nr))] : List Value).toArray) bel mth cde H locs 0 0 Z (F0 mm 82 ls []) := by
                          intro n5
                          induction n5 with
                          | zero =>
                            intro v5 hk5  H locs ls hP hD hS hl
                            have hk5b : 6 = v5 := by omega
                            subst hk5b
                            refine lv_iload hx hb dX4_shareByRounds_82 (lv_at hl 0 rfl) ?_
                            refine lv_bipush (v := 6) hx hb dX4_shareByRounds_84 (by decide) ?_
                            refine lv_icmp_ge (tgt := 121) hx hb dX4_shareByRounds_86 (by decide) (fun c_15 => ?_) (fun c_15 => ?_)
                            · have n_15 : (6) ≤ (6) := (nI_leI (a := 6) (b := 6) (by omega) (by omega)).mp c_15
                              refine lv_aload_n hx hb dX4_shareByRounds_121 rfl (lv_at hl 4 rfl) ?_
                              refine va_get (D := D) (ci := 4) (v := .ref (a 17)) (C := RX4) (T := TX4) (N := 19) (Ts := wsX40) hx hb hin (fun _ h9 => h9) hown hK hP 0 rfl rfl 18 (by decide) (hts (.fieldLink RX4 59 "GroupbooksModel" "then" "[I") (by decide +kernel)) (fun _ h9 => h9) rfl dX4_shareByRounds_122 ?_
                              refine lv_iload hx hb dX4_shareByRounds_125 (lv_at hl 2 rfl) ?_
                              refine lv_iload hx hb dX4_shareByRounds_127 (lv_at hl 1 rfl) ?_
                              refine lv_bipush (v := 100) hx hb dX4_shareByRounds_129 (by decide) ?_
                              refine lv_idiv hx hb dX4_shareByRounds_131 (by decide) ?_
                              refine b_iast (w' := MW a cI cJ he cm ad gw as de eq re co av hi ke sq ab be ((mr he nw tn (j2)).1) (upd (plN he (mr he nw tn j2).1 (mr he nw tn j2).2 (k3)) (k3 + 1) ((sI (fun o => he (6 * o + (k3 + 1)) * (mr he nw tn j2).1 o) (6)) / (100))) 0 cd) hx hb hK hP hD hS 17 0 (f := (plN he (mr he nw tn j2).1 (mr he nw tn j2).2 (k3))) rfl rfl (j := k3 + 1) (by omega) (by decide) rfl dX4_shareByRounds_132 (fun H locs hP hD hS => ?_)
                              refine lv_iinc (v := nI (k3 + 1 + 1)) (lv' := [(4, .int (nI (k3 + 1 + 1))), (6, .int (nI (6))), (5, .int (sI (fun o => he (6 * o + (k3 + 1)) * (mr he nw tn j2).1 o) (6))), (3, .int (nI (j2))), (0, .ref (a 0)), (1, .int (nI (c))), (2, .int (nI (nr)))]) hx hb dX4_shareByRounds_133 hl (k := 2) rfl (nI_1 (k3 + 1)) (by decide) rfl (fun ls hl => ?_)
                              refine lv_goto (tgt := 69) hx hb dX4_shareByRounds_136 (by decide) ?_
                              have e_16 : (plN he (mr he nw tn j2).1 (mr he nw tn j2).2 (k3 + 1)) = (upd (plN he (mr he nw tn j2).1 (mr he nw tn j2).2 (k3)) (k3 + 1) ((sI (fun o => he (6 * o + (k3 + 1)) * (mr he nw tn j2).1 o) (6)) / (100))) := by first | rfl | exact if_pos (by assumption) | exact if_neg (by assumption) | (simp only [n_1, n_2, n_3, n_7, n_14, n_15, Bool.false_eq_true, ↓reduceIte])
                              exact ih3 (k3 + 1) (by omega) _ _ ls (by rw [e_16]; exact hP) (by rw [e_16]; exact hD) hS (lv_sub hl [0, 3, 4, 5, 6] rfl)
                            · have n_15 : ¬ ((6) ≤ (6)) := fun h => c_15 ((nI_leI (a := 6) (b := 6) (by omega) (by omega)).mpr h)
                              exfalso; omega
                          | succ n5 ih5 =>
                            intro v5 hk5  H locs ls hP hD hS hl
                            have hk5b : v5 < 6 := by omega
                            refine lv_iload hx hb dX4_shareByRounds_82 (lv_at hl 0 rfl) ?_
                            refine lv_bipush (v := 6) hx hb dX4_shareByRounds_84 (by decide) ?_
                            refine lv_icmp_ge (tgt := 121) hx hb dX4_shareByRounds_86 (by decide) (fun c_17 => ?_) (fun c_17 => ?_)
                            · have n_17 : (6) ≤ (v5) := (nI_leI (a := 6) (b := v5) (by omega) (by omega)).mp c_17
                              exfalso; omega
                            · have n_17 : ¬ ((6) ≤ (v5)) := fun h => c_17 ((nI_leI (a := 6) (b := v5) (by omega) (by omega)).mpr h)
                              refine lv_iload hx hb dX4_shareByRounds_89 (lv_at hl 1 rfl) ?_
                              refine lv_aload_n hx hb dX4_shareByRounds_91 rfl (lv_at hl 4 rfl) ?_
                              refine va_get (D := D) (ci := 4) (v := .ref (a 1)) (C := RX4) (T := TX4) (N := 19) (Ts := wsX40) hx hb hin (fun _ h9 => h9) hown hK hP 0 rfl rfl 1 (by decide) (hts (.fieldLink RX4 7 "GroupbooksModel" "held" "[I") (by decide +kernel)) (fun _ h9 => h9) rfl dX4_shareByRounds_92 ?_
                              refine lv_bipush (v := 6) hx hb dX4_shareByRounds_95 (by decide) ?_
                              refine lv_iload hx hb dX4_shareByRounds_97 (lv_at hl 0 rfl) ?_
                              refine lv_imul hx hb dX4_shareByRounds_99 ?_
                              refine b_ti (pk_mul (6) (v5)) ?_
                              refine lv_iload hx hb dX4_shareByRounds_100 (lv_at hl 2 rfl) ?_
                              refine lv_iadd hx hb dX4_shareByRounds_102 ?_
                              refine b_ti (nI_add ((6) * (v5)) (k3 + 1)) ?_
                              refine b_iald hx hb hK hP 1 0 (f := he) rfl rfl (j := ((6) * (v5)) + (k3 + 1)) (by omega) (by decide) dX4_shareByRounds_103 ?_
                              refine lv_aload_n hx hb dX4_shareByRounds_104 rfl (lv_at hl 4 rfl) ?_
                              refine va_get (D := D) (ci := 4) (v := .ref (a 16)) (C := RX4) (T := TX4) (N := 19) (Ts := wsX40) hx hb hin (fun _ h9 => h9) hown hK hP 0 rfl rfl 17 (by decide) (hts (.fieldLink RX4 56 "GroupbooksModel" "now" "[I") (by decide +kernel)) (fun _ h9 => h9) rfl dX4_shareByRounds_105 ?_
                              refine lv_iload hx hb dX4_shareByRounds_108 (lv_at hl 0 rfl) ?_
                              refine b_iald hx hb hK hP 16 0 (f := ((mr he nw tn (j2)).1)) rfl rfl (j := v5) (by omega) (by decide) dX4_shareByRounds_110 ?_
                              refine lv_imul hx hb dX4_shareByRounds_111 ?_
                              refine lv_iadd hx hb dX4_shareByRounds_112 ?_
                              refine lv_istore (lv' := [(5, .int ((sI (fun o => he (6 * o + (k3 + 1)) * (mr he nw tn j2).1 o) (v5)) + ((he (((6) * (v5)) + (k3 + 1))) * (((mr he nw tn (j2)).1) (v5))))), (6, .int (nI (v5))), (4, .int (nI (k3 + 1))), (3, .int (nI (j2))), (0, .ref (a 0)), (1, .int (nI (c))), (2, .int (nI (nr)))]) hx hb dX4_shareByRounds_113 hl (by decide) rfl (fun ls hl => ?_)
                              refine lv_iinc (v := nI (v5 + 1)) (lv' := [(6, .int (nI (v5 + 1))), (5, .int ((sI (fun o => he (6 * o + (k3 + 1)) * (mr he nw tn j2).1 o) (v5)) + ((he (((6) * (v5)) + (k3 + 1))) * (((mr he nw tn (j2)).1) (v5))))), (4, .int (nI (k3 + 1))), (3, .int (nI (j2))), (0, .ref (a 0)), (1, .int (nI (c))), (2, .int (nI (nr)))]) hx hb dX4_shareByRounds_115 hl (k := 1) rfl (nI_1 (v5)) (by decide) rfl (fun ls hl => ?_)
                              refine lv_goto (tgt := 82) hx hb dX4_shareByRounds_118 (by decide) ?_
                              have e_18 : (sI (fun o => he (6 * o + (k3 + 1)) * (mr he nw tn j2).1 o) (v5 + 1)) = ((sI (fun o => he (6 * o + (k3 + 1)) * (mr he nw tn j2).1 o) (v5)) + ((he (((6) * (v5)) + (k3 + 1))) * (((mr he nw tn (j2)).1) (v5)))) := by first | rfl | exact if_pos (by assumption) | exact if_neg (by assumption) | (simp only [n_1, n_2, n_3, n_7, n_14, n_17, Bool.false_eq_true, ↓reduceIte])
                              exact ih5 (v5 + 1) (by omega) _ _ ls hP hD hS (by rw [e_18]; exact lv_sub hl [0, 1, 2, 3, 4, 5, 6] rfl)
                        exact L5 (6) 0 (by omega) _ _ ls hP hD hS (lv_sub hl [0, 1, 2, 3, 4, 5, 6] rfl)
                  exact L3 (5) 0 (by omega) _ _ ls hP hD hS (lv_sub hl [0, 1, 2, 3, 4] rfl)
            exact L2 (nr) 0 (by omega) _ _ ls hP hD hS (lv_sub hl [0, 1, 2, 3] rfl)
          · have n_3 : ¬ ((6) ≤ (6)) := fun h => c_3 ((nI_leI (a := 6) (b := 6) (by omega) (by omega)).mpr h)
            exfalso; omega
        | succ n1 ih1 =>
          intro k1 hk1  H locs ls hP hD hS hl
          have hk1b : k1 < 6 := by omega
          refine lv_iload_n hx hb dX4_shareByRounds_31 rfl (lv_at hl 0 rfl) ?_
          refine lv_bipush (v := 6) hx hb dX4_shareByRounds_32 (by decide) ?_
          refine lv_icmp_ge (tgt := 59) hx hb dX4_shareByRounds_34 (by decide) (fun c_19 => ?_) (fun c_19 => ?_)
          · have n_19 : (6) ≤ (k1) := (nI_leI (a := 6) (b := k1) (by omega) (by omega)).mp c_19
            exfalso; omega
          · have n_19 : ¬ ((6) ≤ (k1)) := fun h => c_19 ((nI_leI (a := 6) (b := k1) (by omega) (by omega)).mpr h)
            refine lv_aload_n hx hb dX4_shareByRounds_37 rfl (lv_at hl 1 rfl) ?_
            refine va_get (D := D) (ci := 4) (v := .ref (a 16)) (C := RX4) (T := TX4) (N := 19) (Ts := wsX40) hx hb hin (fun _ h9 => h9) hown hK hP 0 rfl rfl 17 (by decide) (hts (.fieldLink RX4 56 "GroupbooksModel" "now" "[I") (by decide +kernel)) (fun _ h9 => h9) rfl dX4_shareByRounds_38 ?_
            refine lv_iload_n hx hb dX4_shareByRounds_41 rfl (lv_at hl 0 rfl) ?_
            refine lv_iload_n hx hb dX4_shareByRounds_42 rfl (lv_at hl 0 rfl) ?_
            refine lv_if_ne (tgt := 51) hx hb dX4_shareByRounds_43 (by decide) (fun c_20 => ?_) (fun c_20 => ?_)
            · have n_20 : ¬ ((k1) = (0)) := fun h => c_20 ((nI_eq (a := k1) (b := 0) (by omega) (by omega)).mpr h)
              refine lv_iconst (v := 0) hx hb dX4_shareByRounds_51 (by decide) ?_
              refine b_iast (w' := MW a cI cJ he cm ad gw as de eq re co av hi ke sq ab be (upd (miA nw (k1)) (k1) (0)) tn 0 cd) hx hb hK hP hD hS 16 0 (f := (miA nw (k1))) rfl rfl (j := k1) (by omega) (by decide) rfl dX4_shareByRounds_52 (fun H locs hP hD hS => ?_)
              refine lv_iinc (v := nI (k1 + 1)) (lv' := [(3, .int (nI (k1 + 1))), (0, .ref (a 0)), (1, .int (nI (c))), (2, .int (nI (nr)))]) hx hb dX4_shareByRounds_53 hl (k := 0) rfl (nI_1 (k1)) (by decide) rfl (fun ls hl => ?_)
              refine lv_goto (tgt := 31) hx hb dX4_shareByRounds_56 (by decide) ?_
              have e_21 : (miA nw (k1 + 1)) = (upd (miA nw (k1)) (k1) (0)) := by first | rfl | exact if_pos (by assumption) | exact if_neg (by assumption) | (simp only [miA, n_1, n_2, n_19, n_20, Bool.false_eq_true, ↓reduceIte])
              exact ih1 (k1 + 1) (by omega) _ _ ls (by rw [e_21]; exact hP) (by rw [e_21]; exact hD) hS (lv_sub hl [0, 1, 2, 3] rfl)
            · have n_20 : (k1) = (0) := (nI_eq (a := k1) (b := 0) (by omega) (by omega)).mp c_20
              refine lv_ldc (v := 1000000) hx hb hown (hts (.constant RX4 105 (1000000)) (by decide +kernel)) dX4_shareByRounds_46 ?_
              refine lv_goto (tgt := 52) hx hb dX4_shareByRounds_48 (by decide) ?_
              refine b_iast (w' := MW a cI cJ he cm ad gw as de eq re co av hi ke sq ab be (upd (miA nw (k1)) (k1) ((1000000))) tn 0 cd) hx hb hK hP hD hS 16 0 (f := (miA nw (k1))) rfl rfl (j := k1) (by omega) (by decide) rfl dX4_shareByRounds_52 (fun H locs hP hD hS => ?_)
              refine lv_iinc (v := nI (k1 + 1)) (lv' := [(3, .int (nI (k1 + 1))), (0, .ref (a 0)), (1, .int (nI (c))), (2, .int (nI (nr)))]) hx hb dX4_shareByRounds_53 hl (k := 0) rfl (nI_1 (k1)) (by decide) rfl (fun ls hl => ?_)
              refine lv_goto (tgt := 31) hx hb dX4_shareByRounds_56 (by decide) ?_
              have e_22 : (miA nw (k1 + 1)) = (upd (miA nw (k1)) (k1) ((1000000))) := by first | rfl | exact if_pos (by assumption) | exact if_neg (by assumption) | (simp only [miA, n_1, n_2, n_19, n_20, Bool.false_eq_true, ↓reduceIte])
              exact ih1 (k1 + 1) (by omega) _ _ ls (by rw [e_22]; exact hP) (by rw [e_22]; exact hD) hS (lv_sub hl [0, 1, 2, 3] rfl)
      exact L1 (6) 0 (by omega) _ _ ls hP hD hS (lv_sub hl [0, 1, 2, 3] rfl)
    · have n_2 : ¬ (inB (nI (nr)) 0 200) = true := bI0 c_2
      exact absurd hqn n_2

abbrev rmX4_shareByRounds_bad : Room := ({ frames := 2, cells := 0, slots := 0, locals := 42 } : Room)
set_option maxHeartbeats 4000000 in
set_option maxRecDepth 100000 in
theorem c_X4_shareByRounds_bad (ll : Launch) (D : va_G) (a : Nat → Nat) (cI cJ : ClassId) (sz : Nat) (he cm ad gw as de eq re co av hi ke : Nat → Int32) (sq ab be : Nat → Int64) (nw tn : Nat → Int32) (th cd : Int32) (x0 x1 : Int32) (hbad : ¬ (inB x0 0 5 = true ∧ inB x1 0 200 = true)) : Met ll yX4_shareByRounds wsX4_shareByRounds rmX4_shareByRounds_bad (va_Pc [.ref (a 0), .int (x0), .int (x1)] (PW D (tyG cI cJ) (MW a cI cJ he cm ad gw as de eq re co av hi ke sq ab be nw tn th cd) sz)) (va_Qi (fun (rr : Int32) (u : Unit) => rr = 0) (fun (u : Unit) t => AW D (tyG cI cJ) (va_A (MW a cI cJ he cm ad gw as de eq re co av hi ke sq ab be nw tn th cd) sz) (MW a cI cJ he cm ad gw as de eq re co av hi ke sq ab be nw tn 1 cd) t) (va_A (MW a cI cJ he cm ad gw as de eq re co av hi ke sq ab be nw tn th cd) sz)) 0 0 (va_A (MW a cI cJ he cm ad gw as de eq re co av hi ke sq ab be nw tn th cd) sz) := by
  refine Met.ofW (cc := cX4_shareByRounds) (maxL := 7) (ret := (some .int)) (by decide) rfl ?_
  intro pp ee ss mm ar bel mth cde s₁ B hml hv
  obtain ⟨rfl, hsz, hP, hK, hD0, hE⟩ := hv
  have hx := B.exec
  have hb := B.bytes
  have hr := B.returns
  have hts := atoms_spec (ws := wsX4_shareByRounds) B.pre
  have hown : ss.vm.findClass RX4 = some mm.cls := findClass_of_methodNamed B.named
  have hlocks := B.notSynchronized
  subst hsz
  have hD := hD0.self (sz := ss.heap.size)
  generalize hAe : va_A (MW a cI cJ he cm ad gw as de eq re co av hi ke sq ab be nw tn th cd) ss.heap.size = A at hD ⊢
  have hA : ∀ q : Nat, ss.heap.size ≤ q → A q := fun q h => by rw [← hAe]; exact Or.inr h
  have hS : va_S A ss.heap ss.heap [] := va_S.rf
  have hin : ∀ w ∈ wsX40, w.before ([.ref (a 0), .int (x0), .int (x1)] : List Value).toArray ss = true := fun w h => hts w ((by decide +kernel : ∀ w ∈ wsX40, w ∈ wsX4_shareByRounds) w h)
  have hl := lv_entry [.ref (a 0), .int (x0), .int (x1)] (n := 7) (Nat.le_of_ble_eq_true rfl)
  rw [lg_entry_eq]
  generalize (lg_sl [.ref (a 0), .int (x0), .int (x1)] ++ List.replicate (7 - (lg_sl [.ref (a 0), .int (x0), .int (x1)]).length) Slot.unset).toArray = ls at hl ⊢
  have hl : lv_has ls 7 [(0, .ref (a 0)), (1, .int (x0)), (2, .int (x1))] := hl
  refine lv_aload_n hx hb dX4_shareByRounds_0 rfl (lv_at hl 0 rfl) ?_
  refine lv_iconst (v := 0) hx hb dX4_shareByRounds_1 (by decide) ?_
  refine va_put (D := D) (ci := 4) (v := .int (0)) (ty := .int) (C := RX4) (T := TX4) (N := 19) (Ts := wsX40) hx hb hin (fun _ h9 => h9) tyX4 tyX4_ok nmX4 hown hK hP hD hS 0 rfl rfl 0 (by decide) (hts (.fieldLink RX4 62 "GroupbooksModel" "thrown" "I") (by decide +kernel)) (fun _ h9 => h9) rfl (by decide +kernel) rfl rfl (Nat.le_of_ble_eq_true rfl) dX4_shareByRounds_2 (fun H locs hP hD hS => ?_)
  have hP : va_P D vwCl (MW a cI cJ he cm ad gw as de eq re co av hi ke sq ab be nw tn 0 cd) H := hP
  have hD : va_D A (MW a cI cJ he cm ad gw as de eq re co av hi ke sq ab be nw tn 0 cd) := hD
  refine lv_iload_n hx hb dX4_shareByRounds_5 rfl (lv_at hl 1 rfl) ?_
  refine b_csi (v := bI (inB x0 0 5)) (W.runS (As := [.int (x0)]) (rest := []) ⟨hx, hb, hml, hown, hts⟩ (c_X4_isCompany ll x0 ) (va_cwS 1 hts gX4_shareByRounds_X4_isCompany rfl rfl rfl (by decide +kernel) ⟨Nat.le_of_ble_eq_true rfl, Nat.le_of_ble_eq_true rfl⟩) ⟨PT.blind, PT.to⟩ rfl rfl hl.1 rfl (lv_room (Nat.le_of_ble_eq_true rfl)) dX4_shareByRounds_6 ⟨Nat.le_of_ble_eq_true rfl, Nat.le_of_ble_eq_true rfl⟩) ?_
  refine lv_if_eq (tgt := 23) hx hb dX4_shareByRounds_9 (by decide) (fun c_1 => ?_) (fun c_1 => ?_)
  · have n_1 : ¬ (inB x0 0 5) = true := bI0 c_1
    refine lv_aload_n hx hb dX4_shareByRounds_23 rfl (lv_at hl 0 rfl) ?_
    refine lv_iconst (v := 1) hx hb dX4_shareByRounds_24 (by decide) ?_
    refine b_calli0 (S := Unit) (w' := fun u => MW a cI cJ he cm ad gw as de eq re co av hi ke sq ab be nw tn 1 cd) hP hD hS hA (va_runV (As := [.int (1)]) (rest := []) ⟨hx, hb, hml, hown, hts⟩ (c_X4_fails ll D a cI cJ _ he cm ad gw as de eq re co av hi ke sq ab be nw tn 0 cd 1 ) (cwV 1 hts gX4_shareByRounds_X4_fails rfl rfl rfl (by decide +kernel) ⟨Nat.le_of_ble_eq_true rfl, Nat.le_of_ble_eq_true rfl⟩) ⟨PW.blind, va_recv hK hP (ci := 4) (q0 := 0) rfl rfl, PW.go hP hK hD hE⟩ rfl rfl hl.1 rfl (lv_room (Nat.le_of_ble_eq_true rfl)) dX4_shareByRounds_25 ⟨Nat.le_of_ble_eq_true rfl, Nat.le_of_ble_eq_true rfl⟩) (fun r_3 u H locs h_2 hP hD hS => ?_)
    have h_2 : r_3 = 0 := h_2
    subst h_2
    exact W.iret hx hb hr (fun t ht hW => ⟨⟨_, (), rfl, rfl, (by rw [ht]; exact hP), va_K.moved hW.alike hK, hD⟩, hS.F ht⟩) hS.2.2 dX4_shareByRounds_28
  · have n_1 : (inB x0 0 5) = true := bI1 c_1
    refine lv_iload_n hx hb dX4_shareByRounds_12 rfl (lv_at hl 2 rfl) ?_
    refine lv_iconst (v := 0) hx hb dX4_shareByRounds_13 (by decide) ?_
    refine lv_sipush (v := 200) hx hb dX4_shareByRounds_14 (by decide) ?_
    refine b_csi (v := bI (inB x1 0 200)) (W.runS (As := [.int (x1), .int (0), .int (200)]) (rest := []) ⟨hx, hb, hml, hown, hts⟩ (c_X4_in ll x1 0 200 ) (va_cwS 3 hts gX4_shareByRounds_X4_in rfl rfl rfl (by decide +kernel) ⟨Nat.le_of_ble_eq_true rfl, Nat.le_of_ble_eq_true rfl⟩) ⟨PT.blind, PT.to⟩ rfl rfl hl.1 rfl (lv_room (Nat.le_of_ble_eq_true rfl)) dX4_shareByRounds_17 ⟨Nat.le_of_ble_eq_true rfl, Nat.le_of_ble_eq_true rfl⟩) ?_
    refine lv_if_ne (tgt := 29) hx hb dX4_shareByRounds_20 (by decide) (fun c_4 => ?_) (fun c_4 => ?_)
    · have n_4 : (inB x1 0 200) = true := bI1 c_4
      exact absurd (And.intro n_1 n_4) hbad
    · have n_4 : ¬ (inB x1 0 200) = true := bI0 c_4
      refine lv_aload_n hx hb dX4_shareByRounds_23 rfl (lv_at hl 0 rfl) ?_
      refine lv_iconst (v := 1) hx hb dX4_shareByRounds_24 (by decide) ?_
      refine b_calli0 (S := Unit) (w' := fun u => MW a cI cJ he cm ad gw as de eq re co av hi ke sq ab be nw tn 1 cd) hP hD hS hA (va_runV (As := [.int (1)]) (rest := []) ⟨hx, hb, hml, hown, hts⟩ (c_X4_fails ll D a cI cJ _ he cm ad gw as de eq re co av hi ke sq ab be nw tn 0 cd 1 ) (cwV 1 hts gX4_shareByRounds_X4_fails rfl rfl rfl (by decide +kernel) ⟨Nat.le_of_ble_eq_true rfl, Nat.le_of_ble_eq_true rfl⟩) ⟨PW.blind, va_recv hK hP (ci := 4) (q0 := 0) rfl rfl, PW.go hP hK hD hE⟩ rfl rfl hl.1 rfl (lv_room (Nat.le_of_ble_eq_true rfl)) dX4_shareByRounds_25 ⟨Nat.le_of_ble_eq_true rfl, Nat.le_of_ble_eq_true rfl⟩) (fun r_6 u H locs h_5 hP hD hS => ?_)
      have h_5 : r_6 = 0 := h_5
      subst h_5
      exact W.iret hx hb hr (fun t ht hW => ⟨⟨_, (), rfl, rfl, (by rw [ht]; exact hP), va_K.moved hW.alike hK, hD⟩, hS.F ht⟩) hS.2.2 dX4_shareByRounds_28

abbrev rmX4_resultNow : Room := ({ frames := 3, cells := 0, slots := 0, locals := 80 } : Room)
set_option maxHeartbeats 4000000 in
set_option maxRecDepth 100000 in
theorem c_X4_resultNow (ll : Launch) (D : va_G) (a : Nat → Nat) (cI cJ : ClassId) (sz : Nat) (he cm ad gw as de eq re co av hi ke : Nat → Int32) (sq ab be : Nat → Int64) (nw tn : Nat → Int32) (th cd : Int32)  (hB : okB he) (hW : ¬ dW he 0 = 0) : Met ll yX4_resultNow wsX4_resultNow rmX4_resultNow (va_Pc [.ref (a 0)] (PW D (tyG cI cJ) (MW a cI cJ he cm ad gw as de eq re co av hi ke sq ab be nw tn th cd) sz)) (va_Qi (fun (rr : Int32) (u : (Nat → Int64) × (Nat → Int64) × (Nat → Int64)) => rr = reS re av (aF he) (bF he) (grp he) 6) (fun (u : (Nat → Int64) × (Nat → Int64) × (Nat → Int64)) t => AW D (tyG cI cJ) (va_A (MW a cI cJ he cm ad gw as de eq re co av hi ke sq ab be nw tn th cd) sz) (MW a cI cJ he cm ad gw as de eq re co av hi ke (u.1) (u.2.1) (u.2.2) nw tn th cd) t) (va_A (MW a cI cJ he cm ad gw as de eq re co av hi ke sq ab be nw tn th cd) sz)) 0 0 (va_A (MW a cI cJ he cm ad gw as de eq re co av hi ke sq ab be nw tn th cd) sz) := by
  refine Met.ofW (cc := cX4_resultNow) (maxL := 5) (ret := (some .int)) (by decide) rfl ?_
  intro pp ee ss mm ar bel mth cde s₁ B hml hv
  obtain ⟨rfl, hsz, hP, hK, hD0, hE⟩ := hv
  have hx := B.exec
  have hb := B.bytes
  have hr := B.returns
  have hts := atoms_spec (ws := wsX4_resultNow) B.pre
  have hown : ss.vm.findClass RX4 = some mm.cls := findClass_of_methodNamed B.named
  have hlocks := B.notSynchronized
  subst hsz
  have hD := hD0.self (sz := ss.heap.size)
  generalize hAe : va_A (MW a cI cJ he cm ad gw as de eq re co av hi ke sq ab be nw tn th cd) ss.heap.size = A at hD ⊢
  have hA : ∀ q : Nat, ss.heap.size ≤ q → A q := fun q h => by rw [← hAe]; exact Or.inr h
  have hS : va_S A ss.heap ss.heap [] := va_S.rf
  have hin : ∀ w ∈ wsX40, w.before ([.ref (a 0)] : List Value).toArray ss = true := fun w h => hts w ((by decide +kernel : ∀ w ∈ wsX40, w ∈ wsX4_resultNow) w h)
  have hl := lv_entry [.ref (a 0)] (n := 5) (Nat.le_of_ble_eq_true rfl)
  rw [lg_entry_eq]
  generalize (lg_sl [.ref (a 0)] ++ List.replicate (5 - (lg_sl [.ref (a 0)]).length) Slot.unset).toArray = ls at hl ⊢
  have hl : lv_has ls 5 [(0, .ref (a 0))] := hl
  generalize hZ : MQ bel _ _ ss _ _ _ = Z
  refine lv_aload_n hx hb dX4_resultNow_0 rfl (lv_at hl 0 rfl) ?_
  refine b_calli0 (S := Nat → Int64) (w' := fun u_1 => MW a cI cJ he cm ad gw as de eq re co av hi ke u_1 (abK he ab 5) (beK he be 5) nw tn th cd) hP hD hS hA (va_runV (As := []) (rest := []) ⟨hx, hb, hml, hown, hts⟩ (c_X4_layShares ll D a cI cJ _ he cm ad gw as de eq re co av hi ke sq ab be nw tn th cd  hB hW) (cwV 0 hts gX4_resultNow_X4_layShares rfl rfl rfl (by decide +kernel) ⟨Nat.le_of_ble_eq_true rfl, Nat.le_of_ble_eq_true rfl⟩) ⟨PW.blind, va_recv hK hP (ci := 4) (q0 := 0) rfl rfl, PW.go hP hK hD hE⟩ rfl rfl hl.1 rfl (lv_room (Nat.le_of_ble_eq_true rfl)) dX4_resultNow_1 ⟨Nat.le_of_ble_eq_true rfl, Nat.le_of_ble_eq_true rfl⟩) (fun r_3 u_1 H locs h_2 hP hD hS => ?_)
  have hz1 := h_2
  refine lv_istore_n (lv' := [(1, .int (r_3)), (0, .ref (a 0))]) hx hb dX4_resultNow_4 rfl hl (by decide) rfl (fun ls hl => ?_)
  refine lv_aload_n hx hb dX4_resultNow_5 rfl (lv_at hl 1 rfl) ?_
  refine b_csi (v := nI (grp he)) (W.runV (As := []) (rest := []) ⟨hx, hb, hml, hown, hts⟩ (c_X4_groupSet ll D a cI cJ he cm ad gw as de eq re co av hi ke u_1 (abK he ab 5) (beK he be 5) nw tn th cd  ) (cwV 0 hts gX4_resultNow_X4_groupSet rfl rfl rfl (by decide +kernel) ⟨Nat.le_of_ble_eq_true rfl, Nat.le_of_ble_eq_true rfl⟩) ⟨PR.blind, va_recv hK hP (ci := 4) (q0 := 0) rfl rfl, PR.go hP hK hE⟩ rfl rfl hl.1 rfl (lv_room (Nat.le_of_ble_eq_true rfl)) dX4_resultNow_6 ⟨Nat.le_of_ble_eq_true rfl, Nat.le_of_ble_eq_true rfl⟩) ?_
  have hg6 := grp_lt he
  refine lv_istore_n (lv' := [(2, .int (nI (grp he))), (1, .int (r_3)), (0, .ref (a 0))]) hx hb dX4_resultNow_9 rfl hl (by decide) rfl (fun ls hl => ?_)
  refine lv_iconst (v := 0) hx hb dX4_resultNow_10 (by decide) ?_
  refine lv_istore_n (lv' := [(3, .int (0)), (2, .int (nI (grp he))), (1, .int (r_3)), (0, .ref (a 0))]) hx hb dX4_resultNow_11 rfl hl (by decide) rfl (fun ls hl => ?_)
  refine lv_iconst (v := 0) hx hb dX4_resultNow_12 (by decide) ?_
  refine lv_istore (lv' := [(4, .int (0)), (3, .int (0)), (2, .int (nI (grp he))), (1, .int (r_3)), (0, .ref (a 0))]) hx hb dX4_resultNow_13 hl (by decide) rfl (fun ls hl => ?_)
  have L1 : ∀ (n1 k1 : Nat), k1 + n1 = 6 → ∀ (H : Heap) (locs : List Loc) (ls : Array Slot), va_P D vwCl (MW a cI cJ he cm ad gw as de eq re co av hi ke u_1 (abK he ab 5) (beK he be 5) nw tn th cd) H → va_D A (MW a cI cJ he cm ad gw as de eq re co av hi ke u_1 (abK he ab 5) (beK he be 5) nw tn th cd) → va_S A ss.heap H locs → lv_has ls 5 [(4, .int (nI (k1))), (3, .int (reS re av (aF he) (bF he) (grp he) (k1))), (2, .int (nI (grp he))), (1, .int (r_3)), (0, .ref (a 0))] → W pp ll ee rmX4_resultNow ss mm (([.ref (a 0)] : List Value).toArray) bel mth cde H locs 0 0 Z (F0 mm 15 ls []) := by
    intro n1
    induction n1 with
    | zero =>
      intro k1 hk1  H locs ls hP hD hS hl
      have hk1b : 6 = k1 := by omega
      subst hk1b
      refine lv_iload hx hb dX4_resultNow_15 (lv_at hl 0 rfl) ?_
      refine lv_bipush (v := 6) hx hb dX4_resultNow_17 (by decide) ?_
      refine lv_icmp_ge (tgt := 82) hx hb dX4_resultNow_19 (by decide) (fun c_4 => ?_) (fun c_4 => ?_)
      · have n_4 : (6) ≤ (6) := (nI_leI (a := 6) (b := 6) (by omega) (by omega)).mp c_4
        refine lv_iload_n hx hb dX4_resultNow_82 rfl (lv_at hl 1 rfl) ?_
        subst hZ
        refine W.iret hx hb hr (fun t ht hW => ?_) hS.2.2 dX4_resultNow_83
        refine ⟨⟨_, (u_1, abK he ab 5, beK he be 5), rfl, ?_, ?_, va_K.moved hW.alike hK, ?_⟩, hS.F ht⟩
        · try dsimp only
          all_goals exact rfl
        · rw [ht]
          try dsimp only
          exact hP
        · try dsimp only
          exact hD
      · have n_4 : ¬ ((6) ≤ (6)) := fun h => c_4 ((nI_leI (a := 6) (b := 6) (by omega) (by omega)).mpr h)
        exfalso; omega
    | succ n1 ih1 =>
      intro k1 hk1  H locs ls hP hD hS hl
      have hk1b : k1 < 6 := by omega
      refine lv_iload hx hb dX4_resultNow_15 (lv_at hl 0 rfl) ?_
      refine lv_bipush (v := 6) hx hb dX4_resultNow_17 (by decide) ?_
      refine lv_icmp_ge (tgt := 82) hx hb dX4_resultNow_19 (by decide) (fun c_5 => ?_) (fun c_5 => ?_)
      · have n_5 : (6) ≤ (k1) := (nI_leI (a := 6) (b := k1) (by omega) (by omega)).mp c_5
        exfalso; omega
      · have n_5 : ¬ ((6) ≤ (k1)) := fun h => c_5 ((nI_leI (a := 6) (b := k1) (by omega) (by omega)).mpr h)
        refine lv_iload_n hx hb dX4_resultNow_22 rfl (lv_at hl 1 rfl) ?_
        refine lv_iload_n hx hb dX4_resultNow_23 rfl (lv_at hl 2 rfl) ?_
        refine lv_iload hx hb dX4_resultNow_24 (lv_at hl 0 rfl) ?_
        refine lv_ishr hx hb dX4_resultNow_26 ?_
        refine b_ti (sh_and (grp he) (k1) (by omega) (by omega)) ?_
        refine lv_iconst (v := 1) hx hb dX4_resultNow_27 (by decide) ?_
        refine lv_iand hx hb dX4_resultNow_28 ?_
        refine b_ti (an_1 _ (dv_lt (by omega))) ?_
        refine lv_iconst (v := 1) hx hb dX4_resultNow_29 (by decide) ?_
        refine lv_icmp_ne (tgt := 73) hx hb dX4_resultNow_30 (by decide) (fun c_6 => ?_) (fun c_6 => ?_)
        · have n_6 : ¬ (((grp he) / 2 ^ k1 % 2) = (1)) := fun h => c_6 ((nI_eq (a := (grp he) / 2 ^ k1 % 2) (b := 1) (by omega) (by omega)).mpr h)
          refine lv_iconst (v := 0) hx hb dX4_resultNow_73 (by decide) ?_
          refine lv_iadd hx hb dX4_resultNow_74 ?_
          refine lv_istore_n (lv' := [(3, .int ((reS re av (aF he) (bF he) (grp he) (k1)) + (0))), (4, .int (nI (k1))), (2, .int (nI (grp he))), (1, .int (r_3)), (0, .ref (a 0))]) hx hb dX4_resultNow_75 rfl hl (by decide) rfl (fun ls hl => ?_)
          refine lv_iinc (v := nI (k1 + 1)) (lv' := [(4, .int (nI (k1 + 1))), (3, .int ((reS re av (aF he) (bF he) (grp he) (k1)) + (0))), (2, .int (nI (grp he))), (1, .int (r_3)), (0, .ref (a 0))]) hx hb dX4_resultNow_76 hl (k := 1) rfl (nI_1 (k1)) (by decide) rfl (fun ls hl => ?_)
          refine lv_goto (tgt := 15) hx hb dX4_resultNow_79 (by decide) ?_
          have e_7 : (reS re av (aF he) (bF he) (grp he) (k1 + 1)) = ((reS re av (aF he) (bF he) (grp he) (k1)) + (0)) := by first | rfl | exact if_pos (by assumption) | exact if_neg (by assumption) | (simp only [reS, n_5, n_6, Bool.false_eq_true, ↓reduceIte])
          exact ih1 (k1 + 1) (by omega) _ _ ls hP hD hS (by rw [e_7]; exact lv_sub hl [0, 1, 2, 3, 4] rfl)
        · have n_6 : ((grp he) / 2 ^ k1 % 2) = (1) := (nI_eq (a := (grp he) / 2 ^ k1 % 2) (b := 1) (by omega) (by omega)).mp c_6
          refine lv_aload_n hx hb dX4_resultNow_33 rfl (lv_at hl 4 rfl) ?_
          refine va_get (D := D) (ci := 4) (v := .ref (a 8)) (C := RX4) (T := TX4) (N := 19) (Ts := wsX40) hx hb hin (fun _ h9 => h9) hown hK hP 0 rfl rfl 8 (by decide) (hts (.fieldLink RX4 31 "GroupbooksModel" "result" "[I") (by decide +kernel)) (fun _ h9 => h9) rfl dX4_resultNow_34 ?_
          refine lv_iload hx hb dX4_resultNow_37 (lv_at hl 0 rfl) ?_
          refine b_iald hx hb hK hP 8 0 (f := re) rfl rfl (j := k1) (by omega) (by decide) dX4_resultNow_39 ?_
          refine lv_aload_n hx hb dX4_resultNow_40 rfl (lv_at hl 4 rfl) ?_
          refine va_get (D := D) (ci := 4) (v := .ref (a 10)) (C := RX4) (T := TX4) (N := 19) (Ts := wsX40) hx hb hin (fun _ h9 => h9) hown hK hP 0 rfl rfl 10 (by decide) (hts (.fieldLink RX4 37 "GroupbooksModel" "average" "[I") (by decide +kernel)) (fun _ h9 => h9) rfl dX4_resultNow_41 ?_
          refine lv_iload hx hb dX4_resultNow_44 (lv_at hl 0 rfl) ?_
          refine b_iald hx hb hK hP 10 0 (f := av) rfl rfl (j := k1) (by omega) (by decide) dX4_resultNow_46 ?_
          refine b_csi (v := trM (re (k1)) (av (k1))) (W.runS (As := [.int (re (k1)), .int (av (k1))]) (rest := [.int (reS re av (aF he) (bF he) (grp he) (k1))]) ⟨hx, hb, hml, hown, hts⟩ (c_X4_translated ll (re (k1)) (av (k1)) ) (va_cwS 2 hts gX4_resultNow_X4_translated rfl rfl rfl (by decide +kernel) ⟨Nat.le_of_ble_eq_true rfl, Nat.le_of_ble_eq_true rfl⟩) ⟨PT.blind, PT.to⟩ rfl rfl hl.1 rfl (lv_room (Nat.le_of_ble_eq_true rfl)) dX4_resultNow_47 ⟨Nat.le_of_ble_eq_true rfl, Nat.le_of_ble_eq_true rfl⟩) ?_
          refine lv_i2l (v := (trM (re (k1)) (av (k1))).toInt64) hx hb dX4_resultNow_50 rfl ?_
          refine lv_aload_n hx hb dX4_resultNow_51 rfl (lv_at hl 4 rfl) ?_
          refine va_get (D := D) (ci := 4) (v := .ref (a 14)) (C := RX4) (T := TX4) (N := 19) (Ts := wsX40) hx hb hin (fun _ h9 => h9) hown hK hP 0 rfl rfl 15 (by decide) (hts (.fieldLink RX4 50 "GroupbooksModel" "above" "[J") (by decide +kernel)) (fun _ h9 => h9) rfl dX4_resultNow_52 ?_
          refine lv_iload hx hb dX4_resultNow_55 (lv_at hl 0 rfl) ?_
          refine b_lald hx hb hK hP 14 1 (f := (abK he ab 5)) rfl rfl (j := k1) (by omega) (by decide) dX4_resultNow_57 ?_
          refine b_tl (y := aF he k1) (abK_at _ _ 5 k1 (by omega)) ?_
          refine lv_lmul hx hb dX4_resultNow_58 ?_
          refine lv_aload_n hx hb dX4_resultNow_59 rfl (lv_at hl 4 rfl) ?_
          refine va_get (D := D) (ci := 4) (v := .ref (a 15)) (C := RX4) (T := TX4) (N := 19) (Ts := wsX40) hx hb hin (fun _ h9 => h9) hown hK hP 0 rfl rfl 16 (by decide) (hts (.fieldLink RX4 53 "GroupbooksModel" "below" "[J") (by decide +kernel)) (fun _ h9 => h9) rfl dX4_resultNow_60 ?_
          refine lv_iload hx hb dX4_resultNow_63 (lv_at hl 0 rfl) ?_
          refine b_lald hx hb hK hP 15 1 (f := (beK he be 5)) rfl rfl (j := k1) (by omega) (by decide) dX4_resultNow_65 ?_
          refine b_tl (y := bF he k1) (beK_at _ _ 5 k1 (by omega)) ?_
          refine b_csl (v := flM (((trM (re (k1)) (av (k1))).toInt64) * (aF he k1)) (bF he k1)) (W.runS (As := [.long (((trM (re (k1)) (av (k1))).toInt64) * (aF he k1)), .long (bF he k1)]) (rest := [.int (reS re av (aF he) (bF he) (grp he) (k1))]) ⟨hx, hb, hml, hown, hts⟩ (c_X4_floor ll (((trM (re (k1)) (av (k1))).toInt64) * (aF he k1)) (bF he k1) (bF_ne hB hW (by omega))) (va_cwS 2 hts gX4_resultNow_X4_floor rfl rfl rfl (by decide +kernel) ⟨Nat.le_of_ble_eq_true rfl, Nat.le_of_ble_eq_true rfl⟩) ⟨PT.blind, PT.to⟩ rfl rfl hl.1 rfl (lv_room (Nat.le_of_ble_eq_true rfl)) dX4_resultNow_66 ⟨Nat.le_of_ble_eq_true rfl, Nat.le_of_ble_eq_true rfl⟩) ?_
          refine lv_l2i (v := (flM (((trM (re (k1)) (av (k1))).toInt64) * (aF he k1)) (bF he k1)).toInt32) hx hb dX4_resultNow_69 rfl ?_
          refine lv_goto (tgt := 74) hx hb dX4_resultNow_70 (by decide) ?_
          refine lv_iadd hx hb dX4_resultNow_74 ?_
          refine lv_istore_n (lv' := [(3, .int ((reS re av (aF he) (bF he) (grp he) (k1)) + ((flM (((trM (re (k1)) (av (k1))).toInt64) * (aF he k1)) (bF he k1)).toInt32))), (4, .int (nI (k1))), (2, .int (nI (grp he))), (1, .int (r_3)), (0, .ref (a 0))]) hx hb dX4_resultNow_75 rfl hl (by decide) rfl (fun ls hl => ?_)
          refine lv_iinc (v := nI (k1 + 1)) (lv' := [(4, .int (nI (k1 + 1))), (3, .int ((reS re av (aF he) (bF he) (grp he) (k1)) + ((flM (((trM (re (k1)) (av (k1))).toInt64) * (aF he k1)) (bF he k1)).toInt32))), (2, .int (nI (grp he))), (1, .int (r_3)), (0, .ref (a 0))]) hx hb dX4_resultNow_76 hl (k := 1) rfl (nI_1 (k1)) (by decide) rfl (fun ls hl => ?_)
          refine lv_goto (tgt := 15) hx hb dX4_resultNow_79 (by decide) ?_
          have e_8 : (reS re av (aF he) (bF he) (grp he) (k1 + 1)) = ((reS re av (aF he) (bF he) (grp he) (k1)) + ((flM (((trM (re (k1)) (av (k1))).toInt64) * (aF he k1)) (bF he k1)).toInt32)) := by first | rfl | exact if_pos (by assumption) | exact if_neg (by assumption) | (simp only [reS, n_5, n_6, Bool.false_eq_true, ↓reduceIte])
          exact ih1 (k1 + 1) (by omega) _ _ ls hP hD hS (by rw [e_8]; exact lv_sub hl [0, 1, 2, 3, 4] rfl)
  exact L1 (6) 0 (by omega) _ _ ls hP hD hS (lv_sub hl [0, 1, 2, 3, 4] rfl)

abbrev rmX4_minority : Room := ({ frames := 4, cells := 0, slots := 0, locals := 88 } : Room)
set_option maxHeartbeats 4000000 in
set_option maxRecDepth 100000 in
theorem c_X4_minority (ll : Launch) (D : va_G) (a : Nat → Nat) (cI cJ : ClassId) (sz : Nat) (he cm ad gw as de eq re co av hi ke : Nat → Int32) (sq ab be : Nat → Int64) (nw tn : Nat → Int32) (th cd : Int32) (c : Nat) (hc : c < 6) (hB : okB he) (hW : ¬ dW he 0 = 0) : Met ll yX4_minority wsX4_minority rmX4_minority (va_Pc [.ref (a 0), .int (nI (c))] (PW D (tyG cI cJ) (MW a cI cJ he cm ad gw as de eq re co av hi ke sq ab be nw tn th cd) sz)) (va_Qi (fun (rr : Int32) (u : (Nat → Int64) × (Nat → Int64) × (Nat → Int64)) => rr = miV as de co (aF he) (bF he) (grp he) c) (fun (u : (Nat → Int64) × (Nat → Int64) × (Nat → Int64)) t => AW D (tyG cI cJ) (va_A (MW a cI cJ he cm ad gw as de eq re co av hi ke sq ab be nw tn th cd) sz) (MW a cI cJ he cm ad gw as de eq re co av hi ke (u.1) (u.2.1) (u.2.2) nw tn 0 cd) t) (va_A (MW a cI cJ he cm ad gw as de eq re co av hi ke sq ab be nw tn th cd) sz)) 0 0 (va_A (MW a cI cJ he cm ad gw as de eq re co av hi ke sq ab be nw tn th cd) sz) := by
  refine Met.ofW (cc := cX4_minority) (maxL := 3) (ret := (some .int)) (by decide) rfl ?_
  intro pp ee ss mm ar bel mth cde s₁ B hml hv
  obtain ⟨rfl, hsz, hP, hK, hD0, hE⟩ := hv
  have hx := B.exec
  have hb := B.bytes
  have hr := B.returns
  have hts := atoms_spec (ws := wsX4_minority) B.pre
  have hown : ss.vm.findClass RX4 = some mm.cls := findClass_of_methodNamed B.named
  have hlocks := B.notSynchronized
  subst hsz
  have hD := hD0.self (sz := ss.heap.size)
  generalize hAe : va_A (MW a cI cJ he cm ad gw as de eq re co av hi ke sq ab be nw tn th cd) ss.heap.size = A at hD ⊢
  have hA : ∀ q : Nat, ss.heap.size ≤ q → A q := fun q h => by rw [← hAe]; exact Or.inr h
  have hS : va_S A ss.heap ss.heap [] := va_S.rf
  have hin : ∀ w ∈ wsX40, w.before ([.ref (a 0), .int (nI (c))] : List Value).toArray ss = true := fun w h => hts w ((by decide +kernel : ∀ w ∈ wsX40, w ∈ wsX4_minority) w h)
  have hl := lv_entry [.ref (a 0), .int (nI (c))] (n := 3) (Nat.le_of_ble_eq_true rfl)
  rw [lg_entry_eq]
  generalize (lg_sl [.ref (a 0), .int (nI (c))] ++ List.replicate (3 - (lg_sl [.ref (a 0), .int (nI (c))]).length) Slot.unset).toArray = ls at hl ⊢
  have hl : lv_has ls 3 [(0, .ref (a 0)), (1, .int (nI (c)))] := hl
  refine lv_aload_n hx hb dX4_minority_0 rfl (lv_at hl 0 rfl) ?_
  refine lv_iconst (v := 0) hx hb dX4_minority_1 (by decide) ?_
  refine va_put (D := D) (ci := 4) (v := .int (0)) (ty := .int) (C := RX4) (T := TX4) (N := 19) (Ts := wsX40) hx hb hin (fun _ h9 => h9) tyX4 tyX4_ok nmX4 hown hK hP hD hS 0 rfl rfl 0 (by decide) (hts (.fieldLink RX4 62 "GroupbooksModel" "thrown" "I") (by decide +kernel)) (fun _ h9 => h9) rfl (by decide +kernel) rfl rfl (Nat.le_of_ble_eq_true rfl) dX4_minority_2 (fun H locs hP hD hS => ?_)
  have hP : va_P D vwCl (MW a cI cJ he cm ad gw as de eq re co av hi ke sq ab be nw tn 0 cd) H := hP
  have hD : va_D A (MW a cI cJ he cm ad gw as de eq re co av hi ke sq ab be nw tn 0 cd) := hD
  refine lv_iload_n hx hb dX4_minority_5 rfl (lv_at hl 1 rfl) ?_
  refine b_csi (v := bI (inB (nI (c)) 0 5)) (W.runS (As := [.int (nI (c))]) (rest := []) ⟨hx, hb, hml, hown, hts⟩ (c_X4_isCompany ll (nI (c)) ) (va_cwS 1 hts gX4_minority_X4_isCompany rfl rfl rfl (by decide +kernel) ⟨Nat.le_of_ble_eq_true rfl, Nat.le_of_ble_eq_true rfl⟩) ⟨PT.blind, PT.to⟩ rfl rfl hl.1 rfl (lv_room (Nat.le_of_ble_eq_true rfl)) dX4_minority_6 ⟨Nat.le_of_ble_eq_true rfl, Nat.le_of_ble_eq_true rfl⟩) ?_
  refine lv_if_ne (tgt := 18) hx hb dX4_minority_9 (by decide) (fun c_1 => ?_) (fun c_1 => ?_)
  · have n_1 : (inB (nI (c)) 0 5) = true := bI1 c_1
    refine lv_aload_n hx hb dX4_minority_18 rfl (lv_at hl 0 rfl) ?_
    refine b_calli0 (S := Nat → Int64) (w' := fun u_2 => MW a cI cJ he cm ad gw as de eq re co av hi ke u_2 (abK he ab 5) (beK he be 5) nw tn 0 cd) hP hD hS hA (va_runV (As := []) (rest := []) ⟨hx, hb, hml, hown, hts⟩ (c_X4_layShares ll D a cI cJ _ he cm ad gw as de eq re co av hi ke sq ab be nw tn 0 cd  hB hW) (cwV 0 hts gX4_minority_X4_layShares rfl rfl rfl (by decide +kernel) ⟨Nat.le_of_ble_eq_true rfl, Nat.le_of_ble_eq_true rfl⟩) ⟨PW.blind, va_recv hK hP (ci := 4) (q0 := 0) rfl rfl, PW.go hP hK hD hE⟩ rfl rfl hl.1 rfl (lv_room (Nat.le_of_ble_eq_true rfl)) dX4_minority_19 ⟨Nat.le_of_ble_eq_true rfl, Nat.le_of_ble_eq_true rfl⟩) (fun r_4 u_2 H locs h_3 hP hD hS => ?_)
    have hz1 := h_3
    refine lv_istore_n (lv' := [(2, .int (r_4)), (0, .ref (a 0)), (1, .int (nI (c)))]) hx hb dX4_minority_22 rfl hl (by decide) rfl (fun ls hl => ?_)
    refine lv_aload_n hx hb dX4_minority_23 rfl (lv_at hl 1 rfl) ?_
    refine lv_iload_n hx hb dX4_minority_24 rfl (lv_at hl 2 rfl) ?_
    refine b_csi (v := miV as de co (abK he ab 5) (beK he be 5) (grp he) c) (W.runV (As := [.int (nI (c))]) (rest := []) ⟨hx, hb, hml, hown, hts⟩ (c_X4_minorityNow ll D a cI cJ he cm ad gw as de eq re co av hi ke u_2 (abK he ab 5) (beK he be 5) nw tn 0 cd c hc (be_ne _ hB hW hc)) (cwV 1 hts gX4_minority_X4_minorityNow rfl rfl rfl (by decide +kernel) ⟨Nat.le_of_ble_eq_true rfl, Nat.le_of_ble_eq_true rfl⟩) ⟨PR.blind, va_recv hK hP (ci := 4) (q0 := 0) rfl rfl, PR.go hP hK hE⟩ rfl rfl hl.1 rfl (lv_room (Nat.le_of_ble_eq_true rfl)) dX4_minority_25 ⟨Nat.le_of_ble_eq_true rfl, Nat.le_of_ble_eq_true rfl⟩) ?_
    refine b_ti (y := miV as de co (aF he) (bF he) (grp he) c) (miV_at _ _ _ _ _ _ _ (by omega)) ?_
    refine W.iret hx hb hr (fun t ht hW => ?_) hS.2.2 dX4_minority_28
    refine ⟨⟨_, (u_2, abK he ab 5, beK he be 5), rfl, ?_, ?_, va_K.moved hW.alike hK, ?_⟩, hS.F ht⟩
    · try dsimp only
      all_goals exact rfl
    · rw [ht]
      try dsimp only
      exact hP
    · try dsimp only
      exact hD
  · have n_1 : ¬ (inB (nI (c)) 0 5) = true := bI0 c_1
    exact absurd (inB_c c hc) n_1

abbrev rmX4_minority_bad : Room := ({ frames := 2, cells := 0, slots := 0, locals := 42 } : Room)
set_option maxHeartbeats 4000000 in
set_option maxRecDepth 100000 in
theorem c_X4_minority_bad (ll : Launch) (D : va_G) (a : Nat → Nat) (cI cJ : ClassId) (sz : Nat) (he cm ad gw as de eq re co av hi ke : Nat → Int32) (sq ab be : Nat → Int64) (nw tn : Nat → Int32) (th cd : Int32) (x0 : Int32) (hbad : ¬ inB x0 0 5 = true) : Met ll yX4_minority wsX4_minority rmX4_minority_bad (va_Pc [.ref (a 0), .int (x0)] (PW D (tyG cI cJ) (MW a cI cJ he cm ad gw as de eq re co av hi ke sq ab be nw tn th cd) sz)) (va_Qi (fun (rr : Int32) (u : Unit) => rr = 0) (fun (u : Unit) t => AW D (tyG cI cJ) (va_A (MW a cI cJ he cm ad gw as de eq re co av hi ke sq ab be nw tn th cd) sz) (MW a cI cJ he cm ad gw as de eq re co av hi ke sq ab be nw tn 1 cd) t) (va_A (MW a cI cJ he cm ad gw as de eq re co av hi ke sq ab be nw tn th cd) sz)) 0 0 (va_A (MW a cI cJ he cm ad gw as de eq re co av hi ke sq ab be nw tn th cd) sz) := by
  refine Met.ofW (cc := cX4_minority) (maxL := 3) (ret := (some .int)) (by decide) rfl ?_
  intro pp ee ss mm ar bel mth cde s₁ B hml hv
  obtain ⟨rfl, hsz, hP, hK, hD0, hE⟩ := hv
  have hx := B.exec
  have hb := B.bytes
  have hr := B.returns
  have hts := atoms_spec (ws := wsX4_minority) B.pre
  have hown : ss.vm.findClass RX4 = some mm.cls := findClass_of_methodNamed B.named
  have hlocks := B.notSynchronized
  subst hsz
  have hD := hD0.self (sz := ss.heap.size)
  generalize hAe : va_A (MW a cI cJ he cm ad gw as de eq re co av hi ke sq ab be nw tn th cd) ss.heap.size = A at hD ⊢
  have hA : ∀ q : Nat, ss.heap.size ≤ q → A q := fun q h => by rw [← hAe]; exact Or.inr h
  have hS : va_S A ss.heap ss.heap [] := va_S.rf
  have hin : ∀ w ∈ wsX40, w.before ([.ref (a 0), .int (x0)] : List Value).toArray ss = true := fun w h => hts w ((by decide +kernel : ∀ w ∈ wsX40, w ∈ wsX4_minority) w h)
  have hl := lv_entry [.ref (a 0), .int (x0)] (n := 3) (Nat.le_of_ble_eq_true rfl)
  rw [lg_entry_eq]
  generalize (lg_sl [.ref (a 0), .int (x0)] ++ List.replicate (3 - (lg_sl [.ref (a 0), .int (x0)]).length) Slot.unset).toArray = ls at hl ⊢
  have hl : lv_has ls 3 [(0, .ref (a 0)), (1, .int (x0))] := hl
  refine lv_aload_n hx hb dX4_minority_0 rfl (lv_at hl 0 rfl) ?_
  refine lv_iconst (v := 0) hx hb dX4_minority_1 (by decide) ?_
  refine va_put (D := D) (ci := 4) (v := .int (0)) (ty := .int) (C := RX4) (T := TX4) (N := 19) (Ts := wsX40) hx hb hin (fun _ h9 => h9) tyX4 tyX4_ok nmX4 hown hK hP hD hS 0 rfl rfl 0 (by decide) (hts (.fieldLink RX4 62 "GroupbooksModel" "thrown" "I") (by decide +kernel)) (fun _ h9 => h9) rfl (by decide +kernel) rfl rfl (Nat.le_of_ble_eq_true rfl) dX4_minority_2 (fun H locs hP hD hS => ?_)
  have hP : va_P D vwCl (MW a cI cJ he cm ad gw as de eq re co av hi ke sq ab be nw tn 0 cd) H := hP
  have hD : va_D A (MW a cI cJ he cm ad gw as de eq re co av hi ke sq ab be nw tn 0 cd) := hD
  refine lv_iload_n hx hb dX4_minority_5 rfl (lv_at hl 1 rfl) ?_
  refine b_csi (v := bI (inB x0 0 5)) (W.runS (As := [.int (x0)]) (rest := []) ⟨hx, hb, hml, hown, hts⟩ (c_X4_isCompany ll x0 ) (va_cwS 1 hts gX4_minority_X4_isCompany rfl rfl rfl (by decide +kernel) ⟨Nat.le_of_ble_eq_true rfl, Nat.le_of_ble_eq_true rfl⟩) ⟨PT.blind, PT.to⟩ rfl rfl hl.1 rfl (lv_room (Nat.le_of_ble_eq_true rfl)) dX4_minority_6 ⟨Nat.le_of_ble_eq_true rfl, Nat.le_of_ble_eq_true rfl⟩) ?_
  refine lv_if_ne (tgt := 18) hx hb dX4_minority_9 (by decide) (fun c_1 => ?_) (fun c_1 => ?_)
  · have n_1 : (inB x0 0 5) = true := bI1 c_1
    exact absurd n_1 hbad
  · have n_1 : ¬ (inB x0 0 5) = true := bI0 c_1
    refine lv_aload_n hx hb dX4_minority_12 rfl (lv_at hl 0 rfl) ?_
    refine lv_iconst (v := 1) hx hb dX4_minority_13 (by decide) ?_
    refine b_calli0 (S := Unit) (w' := fun u => MW a cI cJ he cm ad gw as de eq re co av hi ke sq ab be nw tn 1 cd) hP hD hS hA (va_runV (As := [.int (1)]) (rest := []) ⟨hx, hb, hml, hown, hts⟩ (c_X4_fails ll D a cI cJ _ he cm ad gw as de eq re co av hi ke sq ab be nw tn 0 cd 1 ) (cwV 1 hts gX4_minority_X4_fails rfl rfl rfl (by decide +kernel) ⟨Nat.le_of_ble_eq_true rfl, Nat.le_of_ble_eq_true rfl⟩) ⟨PW.blind, va_recv hK hP (ci := 4) (q0 := 0) rfl rfl, PW.go hP hK hD hE⟩ rfl rfl hl.1 rfl (lv_room (Nat.le_of_ble_eq_true rfl)) dX4_minority_14 ⟨Nat.le_of_ble_eq_true rfl, Nat.le_of_ble_eq_true rfl⟩) (fun r_3 u H locs h_2 hP hD hS => ?_)
    have h_2 : r_3 = 0 := h_2
    subst h_2
    exact W.iret hx hb hr (fun t ht hW => ⟨⟨_, (), rfl, rfl, (by rw [ht]; exact hP), va_K.moved hW.alike hK, hD⟩, hS.F ht⟩) hS.2.2 dX4_minority_17

abbrev rmX4_result : Room := ({ frames := 4, cells := 0, slots := 0, locals := 104 } : Room)
set_option maxHeartbeats 4000000 in
set_option maxRecDepth 100000 in
theorem c_X4_result (ll : Launch) (D : va_G) (a : Nat → Nat) (cI cJ : ClassId) (sz : Nat) (he cm ad gw as de eq re co av hi ke : Nat → Int32) (sq ab be : Nat → Int64) (nw tn : Nat → Int32) (th cd : Int32)  (hB : okB he) (hW : ¬ dW he 0 = 0) : Met ll yX4_result wsX4_result rmX4_result (va_Pc [.ref (a 0)] (PW D (tyG cI cJ) (MW a cI cJ he cm ad gw as de eq re co av hi ke sq ab be nw tn th cd) sz)) (va_Qi (fun (rr : Int32) (u : (Nat → Int64) × (Nat → Int64) × (Nat → Int64)) => rr = reS re av (aF he) (bF he) (grp he) 6) (fun (u : (Nat → Int64) × (Nat → Int64) × (Nat → Int64)) t => AW D (tyG cI cJ) (va_A (MW a cI cJ he cm ad gw as de eq re co av hi ke sq ab be nw tn th cd) sz) (MW a cI cJ he cm ad gw as de eq re co av hi ke (u.1) (u.2.1) (u.2.2) nw tn 0 cd) t) (va_A (MW a cI cJ he cm ad gw as de eq re co av hi ke sq ab be nw tn th cd) sz)) 0 0 (va_A (MW a cI cJ he cm ad gw as de eq re co av hi ke sq ab be nw tn th cd) sz) := by
  refine Met.ofW (cc := cX4_result) (maxL := 1) (ret := (some .int)) (by decide) rfl ?_
  intro pp ee ss mm ar bel mth cde s₁ B hml hv
  obtain ⟨rfl, hsz, hP, hK, hD0, hE⟩ := hv
  have hx := B.exec
  have hb := B.bytes
  have hr := B.returns
  have hts := atoms_spec (ws := wsX4_result) B.pre
  have hown : ss.vm.findClass RX4 = some mm.cls := findClass_of_methodNamed B.named
  have hlocks := B.notSynchronized
  subst hsz
  have hD := hD0.self (sz := ss.heap.size)
  generalize hAe : va_A (MW a cI cJ he cm ad gw as de eq re co av hi ke sq ab be nw tn th cd) ss.heap.size = A at hD ⊢
  have hA : ∀ q : Nat, ss.heap.size ≤ q → A q := fun q h => by rw [← hAe]; exact Or.inr h
  have hS : va_S A ss.heap ss.heap [] := va_S.rf
  have hin : ∀ w ∈ wsX40, w.before ([.ref (a 0)] : List Value).toArray ss = true := fun w h => hts w ((by decide +kernel : ∀ w ∈ wsX40, w ∈ wsX4_result) w h)
  have hl := lv_entry [.ref (a 0)] (n := 1) (Nat.le_of_ble_eq_true rfl)
  rw [lg_entry_eq]
  generalize (lg_sl [.ref (a 0)] ++ List.replicate (1 - (lg_sl [.ref (a 0)]).length) Slot.unset).toArray = ls at hl ⊢
  have hl : lv_has ls 1 [(0, .ref (a 0))] := hl
  refine lv_aload_n hx hb dX4_result_0 rfl (lv_at hl 0 rfl) ?_
  refine lv_iconst (v := 0) hx hb dX4_result_1 (by decide) ?_
  refine va_put (D := D) (ci := 4) (v := .int (0)) (ty := .int) (C := RX4) (T := TX4) (N := 19) (Ts := wsX40) hx hb hin (fun _ h9 => h9) tyX4 tyX4_ok nmX4 hown hK hP hD hS 0 rfl rfl 0 (by decide) (hts (.fieldLink RX4 62 "GroupbooksModel" "thrown" "I") (by decide +kernel)) (fun _ h9 => h9) rfl (by decide +kernel) rfl rfl (Nat.le_of_ble_eq_true rfl) dX4_result_2 (fun H locs hP hD hS => ?_)
  have hP : va_P D vwCl (MW a cI cJ he cm ad gw as de eq re co av hi ke sq ab be nw tn 0 cd) H := hP
  have hD : va_D A (MW a cI cJ he cm ad gw as de eq re co av hi ke sq ab be nw tn 0 cd) := hD
  refine lv_aload_n hx hb dX4_result_5 rfl (lv_at hl 0 rfl) ?_
  refine b_calli0 (S := (Nat → Int64) × (Nat → Int64) × (Nat → Int64)) (w' := fun u_1 => MW a cI cJ he cm ad gw as de eq re co av hi ke (u_1.1) (u_1.2.1) (u_1.2.2) nw tn 0 cd) hP hD hS hA (va_runV (As := []) (rest := []) ⟨hx, hb, hml, hown, hts⟩ (c_X4_resultNow ll D a cI cJ _ he cm ad gw as de eq re co av hi ke sq ab be nw tn 0 cd  hB hW) (cwV 0 hts gX4_result_X4_resultNow rfl rfl rfl (by decide +kernel) ⟨Nat.le_of_ble_eq_true rfl, Nat.le_of_ble_eq_true rfl⟩) ⟨PW.blind, va_recv hK hP (ci := 4) (q0 := 0) rfl rfl, PW.go hP hK hD hE⟩ rfl rfl hl.1 rfl (lv_room (Nat.le_of_ble_eq_true rfl)) dX4_result_6 ⟨Nat.le_of_ble_eq_true rfl, Nat.le_of_ble_eq_true rfl⟩) (fun r_3 u_1 H locs h_2 hP hD hS => ?_)
  refine W.iret hx hb hr (fun t ht hW => ?_) hS.2.2 dX4_result_9
  refine ⟨⟨_, (u_1.1, u_1.2.1, u_1.2.2), rfl, ?_, ?_, va_K.moved hW.alike hK, ?_⟩, hS.F ht⟩
  · try dsimp only
    all_goals exact h_2
  · rw [ht]
    try dsimp only
    exact hP
  · try dsimp only
    exact hD

abbrev rmX4_equity : Room := ({ frames := 4, cells := 0, slots := 0, locals := 88 } : Room)
set_option maxHeartbeats 4000000 in
set_option maxRecDepth 100000 in
theorem c_X4_equity (ll : Launch) (D : va_G) (a : Nat → Nat) (cI cJ : ClassId) (sz : Nat) (he cm ad gw as de eq re co av hi ke : Nat → Int32) (sq ab be : Nat → Int64) (nw tn : Nat → Int32) (th cd : Int32)  (hB : okB he) (hW : ¬ dW he 0 = 0) : Met ll yX4_equity wsX4_equity rmX4_equity (va_Pc [.ref (a 0)] (PW D (tyG cI cJ) (MW a cI cJ he cm ad gw as de eq re co av hi ke sq ab be nw tn th cd) sz)) (va_Qi (fun (rr : Int32) (u : (Nat → Int64) × (Nat → Int64) × (Nat → Int64)) => rr = emS as de co (aF he) (bF he) (grp he) (asS as co (grp he) 6 - elS cm ad (grp he) 36 - (asS de co (grp he) 6 - elS cm ad (grp he) 36)) 6) (fun (u : (Nat → Int64) × (Nat → Int64) × (Nat → Int64)) t => AW D (tyG cI cJ) (va_A (MW a cI cJ he cm ad gw as de eq re co av hi ke sq ab be nw tn th cd) sz) (MW a cI cJ he cm ad gw as de eq re co av hi ke (u.1) (u.2.1) (u.2.2) nw tn 0 cd) t) (va_A (MW a cI cJ he cm ad gw as de eq re co av hi ke sq ab be nw tn th cd) sz)) 0 0 (va_A (MW a cI cJ he cm ad gw as de eq re co av hi ke sq ab be nw tn th cd) sz) := by
  refine Met.ofW (cc := cX4_equity) (maxL := 4) (ret := (some .int)) (by decide) rfl ?_
  intro pp ee ss mm ar bel mth cde s₁ B hml hv
  obtain ⟨rfl, hsz, hP, hK, hD0, hE⟩ := hv
  have hx := B.exec
  have hb := B.bytes
  have hr := B.returns
  have hts := atoms_spec (ws := wsX4_equity) B.pre
  have hown : ss.vm.findClass RX4 = some mm.cls := findClass_of_methodNamed B.named
  have hlocks := B.notSynchronized
  subst hsz
  have hD := hD0.self (sz := ss.heap.size)
  generalize hAe : va_A (MW a cI cJ he cm ad gw as de eq re co av hi ke sq ab be nw tn th cd) ss.heap.size = A at hD ⊢
  have hA : ∀ q : Nat, ss.heap.size ≤ q → A q := fun q h => by rw [← hAe]; exact Or.inr h
  have hS : va_S A ss.heap ss.heap [] := va_S.rf
  have hin : ∀ w ∈ wsX40, w.before ([.ref (a 0)] : List Value).toArray ss = true := fun w h => hts w ((by decide +kernel : ∀ w ∈ wsX40, w ∈ wsX4_equity) w h)
  have hl := lv_entry [.ref (a 0)] (n := 4) (Nat.le_of_ble_eq_true rfl)
  rw [lg_entry_eq]
  generalize (lg_sl [.ref (a 0)] ++ List.replicate (4 - (lg_sl [.ref (a 0)]).length) Slot.unset).toArray = ls at hl ⊢
  have hl : lv_has ls 4 [(0, .ref (a 0))] := hl
  generalize hZ : MQ bel _ _ ss _ _ _ = Z
  refine lv_aload_n hx hb dX4_equity_0 rfl (lv_at hl 0 rfl) ?_
  refine lv_iconst (v := 0) hx hb dX4_equity_1 (by decide) ?_
  refine va_put (D := D) (ci := 4) (v := .int (0)) (ty := .int) (C := RX4) (T := TX4) (N := 19) (Ts := wsX40) hx hb hin (fun _ h9 => h9) tyX4 tyX4_ok nmX4 hown hK hP hD hS 0 rfl rfl 0 (by decide) (hts (.fieldLink RX4 62 "GroupbooksModel" "thrown" "I") (by decide +kernel)) (fun _ h9 => h9) rfl (by decide +kernel) rfl rfl (Nat.le_of_ble_eq_true rfl) dX4_equity_2 (fun H locs hP hD hS => ?_)
  have hP : va_P D vwCl (MW a cI cJ he cm ad gw as de eq re co av hi ke sq ab be nw tn 0 cd) H := hP
  have hD : va_D A (MW a cI cJ he cm ad gw as de eq re co av hi ke sq ab be nw tn 0 cd) := hD
  refine lv_aload_n hx hb dX4_equity_5 rfl (lv_at hl 0 rfl) ?_
  refine b_calli0 (S := Nat → Int64) (w' := fun u_1 => MW a cI cJ he cm ad gw as de eq re co av hi ke u_1 (abK he ab 5) (beK he be 5) nw tn 0 cd) hP hD hS hA (va_runV (As := []) (rest := []) ⟨hx, hb, hml, hown, hts⟩ (c_X4_layShares ll D a cI cJ _ he cm ad gw as de eq re co av hi ke sq ab be nw tn 0 cd  hB hW) (cwV 0 hts gX4_equity_X4_layShares rfl rfl rfl (by decide +kernel) ⟨Nat.le_of_ble_eq_true rfl, Nat.le_of_ble_eq_true rfl⟩) ⟨PW.blind, va_recv hK hP (ci := 4) (q0 := 0) rfl rfl, PW.go hP hK hD hE⟩ rfl rfl hl.1 rfl (lv_room (Nat.le_of_ble_eq_true rfl)) dX4_equity_6 ⟨Nat.le_of_ble_eq_true rfl, Nat.le_of_ble_eq_true rfl⟩) (fun r_3 u_1 H locs h_2 hP hD hS => ?_)
  have hz1 := h_2
  refine lv_istore_n (lv' := [(1, .int (r_3)), (0, .ref (a 0))]) hx hb dX4_equity_9 rfl hl (by decide) rfl (fun ls hl => ?_)
  refine lv_aload_n hx hb dX4_equity_10 rfl (lv_at hl 1 rfl) ?_
  refine b_csi (v := asS as co (grp he) 6 - elS cm ad (grp he) 36) (W.runV (As := []) (rest := []) ⟨hx, hb, hml, hown, hts⟩ (c_X4_assetsNow ll D a cI cJ he cm ad gw as de eq re co av hi ke u_1 (abK he ab 5) (beK he be 5) nw tn 0 cd  ) (cwV 0 hts gX4_equity_X4_assetsNow rfl rfl rfl (by decide +kernel) ⟨Nat.le_of_ble_eq_true rfl, Nat.le_of_ble_eq_true rfl⟩) ⟨PR.blind, va_recv hK hP (ci := 4) (q0 := 0) rfl rfl, PR.go hP hK hE⟩ rfl rfl hl.1 rfl (lv_room (Nat.le_of_ble_eq_true rfl)) dX4_equity_11 ⟨Nat.le_of_ble_eq_true rfl, Nat.le_of_ble_eq_true rfl⟩) ?_
  refine lv_aload_n hx hb dX4_equity_14 rfl (lv_at hl 1 rfl) ?_
  refine b_csi (v := asS de co (grp he) 6 - elS cm ad (grp he) 36) (W.runV (As := []) (rest := [.int (asS as co (grp he) 6 - elS cm ad (grp he) 36)]) ⟨hx, hb, hml, hown, hts⟩ (c_X4_debtsNow ll D a cI cJ he cm ad gw as de eq re co av hi ke u_1 (abK he ab 5) (beK he be 5) nw tn 0 cd  ) (cwV 0 hts gX4_equity_X4_debtsNow rfl rfl rfl (by decide +kernel) ⟨Nat.le_of_ble_eq_true rfl, Nat.le_of_ble_eq_true rfl⟩) ⟨PR.blind, va_recv hK hP (ci := 4) (q0 := 0) rfl rfl, PR.go hP hK hE⟩ rfl rfl hl.1 rfl (lv_room (Nat.le_of_ble_eq_true rfl)) dX4_equity_15 ⟨Nat.le_of_ble_eq_true rfl, Nat.le_of_ble_eq_true rfl⟩) ?_
  refine lv_isub hx hb dX4_equity_18 ?_
  refine lv_istore_n (lv' := [(2, .int ((asS as co (grp he) 6 - elS cm ad (grp he) 36) - (asS de co (grp he) 6 - elS cm ad (grp he) 36))), (1, .int (r_3)), (0, .ref (a 0))]) hx hb dX4_equity_19 rfl hl (by decide) rfl (fun ls hl => ?_)
  refine lv_iconst (v := 0) hx hb dX4_equity_20 (by decide) ?_
  refine lv_istore_n (lv' := [(3, .int (0)), (2, .int ((asS as co (grp he) 6 - elS cm ad (grp he) 36) - (asS de co (grp he) 6 - elS cm ad (grp he) 36))), (1, .int (r_3)), (0, .ref (a 0))]) hx hb dX4_equity_21 rfl hl (by decide) rfl (fun ls hl => ?_)
  have L1 : ∀ (n1 k1 : Nat), k1 + n1 = 6 → ∀ (H : Heap) (locs : List Loc) (ls : Array Slot), va_P D vwCl (MW a cI cJ he cm ad gw as de eq re co av hi ke u_1 (abK he ab 5) (beK he be 5) nw tn 0 cd) H → va_D A (MW a cI cJ he cm ad gw as de eq re co av hi ke u_1 (abK he ab 5) (beK he be 5) nw tn 0 cd) → va_S A ss.heap H locs → lv_has ls 4 [(3, .int (nI (k1))), (2, .int (emS as de co (aF he) (bF he) (grp he) (asS as co (grp he) 6 - elS cm ad (grp he) 36 - (asS de co (grp he) 6 - elS cm ad (grp he) 36)) (k1))), (1, .int (r_3)), (0, .ref (a 0))] → W pp ll ee rmX4_equity ss mm (([.ref (a 0)] : List Value).toArray) bel mth cde H locs 0 0 Z (F0 mm 22 ls []) := by
    intro n1
    induction n1 with
    | zero =>
      intro k1 hk1  H locs ls hP hD hS hl
      have hk1b : 6 = k1 := by omega
      subst hk1b
      refine lv_iload_n hx hb dX4_equity_22 rfl (lv_at hl 0 rfl) ?_
      refine lv_bipush (v := 6) hx hb dX4_equity_23 (by decide) ?_
      refine lv_icmp_ge (tgt := 42) hx hb dX4_equity_25 (by decide) (fun c_4 => ?_) (fun c_4 => ?_)
      · have n_4 : (6) ≤ (6) := (nI_leI (a := 6) (b := 6) (by omega) (by omega)).mp c_4
        refine lv_iload_n hx hb dX4_equity_42 rfl (lv_at hl 1 rfl) ?_
        subst hZ
        refine W.iret hx hb hr (fun t ht hW => ?_) hS.2.2 dX4_equity_43
        refine ⟨⟨_, (u_1, abK he ab 5, beK he be 5), rfl, ?_, ?_, va_K.moved hW.alike hK, ?_⟩, hS.F ht⟩
        · try dsimp only
          all_goals exact rfl
        · rw [ht]
          try dsimp only
          exact hP
        · try dsimp only
          exact hD
      · have n_4 : ¬ ((6) ≤ (6)) := fun h => c_4 ((nI_leI (a := 6) (b := 6) (by omega) (by omega)).mpr h)
        exfalso; omega
    | succ n1 ih1 =>
      intro k1 hk1  H locs ls hP hD hS hl
      have hk1b : k1 < 6 := by omega
      refine lv_iload_n hx hb dX4_equity_22 rfl (lv_at hl 0 rfl) ?_
      refine lv_bipush (v := 6) hx hb dX4_equity_23 (by decide) ?_
      refine lv_icmp_ge (tgt := 42) hx hb dX4_equity_25 (by decide) (fun c_5 => ?_) (fun c_5 => ?_)
      · have n_5 : (6) ≤ (k1) := (nI_leI (a := 6) (b := k1) (by omega) (by omega)).mp c_5
        exfalso; omega
      · have n_5 : ¬ ((6) ≤ (k1)) := fun h => c_5 ((nI_leI (a := 6) (b := k1) (by omega) (by omega)).mpr h)
        refine lv_iload_n hx hb dX4_equity_28 rfl (lv_at hl 1 rfl) ?_
        refine lv_aload_n hx hb dX4_equity_29 rfl (lv_at hl 3 rfl) ?_
        refine lv_iload_n hx hb dX4_equity_30 rfl (lv_at hl 0 rfl) ?_
        refine b_csi (v := miV as de co (abK he ab 5) (beK he be 5) (grp he) k1) (W.runV (As := [.int (nI (k1))]) (rest := [.int (emS as de co (aF he) (bF he) (grp he) (asS as co (grp he) 6 - elS cm ad (grp he) 36 - (asS de co (grp he) 6 - elS cm ad (grp he) 36)) (k1))]) ⟨hx, hb, hml, hown, hts⟩ (c_X4_minorityNow ll D a cI cJ he cm ad gw as de eq re co av hi ke u_1 (abK he ab 5) (beK he be 5) nw tn 0 cd k1 (by omega) (be_ne _ hB hW (by omega))) (cwV 1 hts gX4_equity_X4_minorityNow rfl rfl rfl (by decide +kernel) ⟨Nat.le_of_ble_eq_true rfl, Nat.le_of_ble_eq_true rfl⟩) ⟨PR.blind, va_recv hK hP (ci := 4) (q0 := 0) rfl rfl, PR.go hP hK hE⟩ rfl rfl hl.1 rfl (lv_room (Nat.le_of_ble_eq_true rfl)) dX4_equity_31 ⟨Nat.le_of_ble_eq_true rfl, Nat.le_of_ble_eq_true rfl⟩) ?_
        refine b_ti (y := miV as de co (aF he) (bF he) (grp he) k1) (miV_at _ _ _ _ _ _ _ (by omega)) ?_
        refine lv_isub hx hb dX4_equity_34 ?_
        refine lv_istore_n (lv' := [(2, .int ((emS as de co (aF he) (bF he) (grp he) (asS as co (grp he) 6 - elS cm ad (grp he) 36 - (asS de co (grp he) 6 - elS cm ad (grp he) 36)) (k1)) - (miV as de co (aF he) (bF he) (grp he) k1))), (3, .int (nI (k1))), (1, .int (r_3)), (0, .ref (a 0))]) hx hb dX4_equity_35 rfl hl (by decide) rfl (fun ls hl => ?_)
        refine lv_iinc (v := nI (k1 + 1)) (lv' := [(3, .int (nI (k1 + 1))), (2, .int ((emS as de co (aF he) (bF he) (grp he) (asS as co (grp he) 6 - elS cm ad (grp he) 36 - (asS de co (grp he) 6 - elS cm ad (grp he) 36)) (k1)) - (miV as de co (aF he) (bF he) (grp he) k1))), (1, .int (r_3)), (0, .ref (a 0))]) hx hb dX4_equity_36 hl (k := 1) rfl (nI_1 (k1)) (by decide) rfl (fun ls hl => ?_)
        refine lv_goto (tgt := 22) hx hb dX4_equity_39 (by decide) ?_
        have e_6 : (emS as de co (aF he) (bF he) (grp he) (asS as co (grp he) 6 - elS cm ad (grp he) 36 - (asS de co (grp he) 6 - elS cm ad (grp he) 36)) (k1 + 1)) = ((emS as de co (aF he) (bF he) (grp he) (asS as co (grp he) 6 - elS cm ad (grp he) 36 - (asS de co (grp he) 6 - elS cm ad (grp he) 36)) (k1)) - (miV as de co (aF he) (bF he) (grp he) k1)) := by first | rfl | exact if_pos (by assumption) | exact if_neg (by assumption) | (simp only [n_5, Bool.false_eq_true, ↓reduceIte])
        exact ih1 (k1 + 1) (by omega) _ _ ls hP hD hS (by rw [e_6]; exact lv_sub hl [0, 1, 2, 3] rfl)
  exact L1 (6) 0 (by omega) _ _ ls hP hD hS (lv_sub hl [0, 1, 2, 3] rfl)

abbrev rmX4_close : Room := ({ frames := 4, cells := 0, slots := 0, locals := 104 } : Room)
set_option maxHeartbeats 4000000 in
set_option maxRecDepth 100000 in
theorem c_X4_close (ll : Launch) (D : va_G) (a : Nat → Nat) (cI cJ : ClassId) (sz : Nat) (he cm ad gw as de eq re co av hi ke : Nat → Int32) (sq ab be : Nat → Int64) (nw tn : Nat → Int32) (th cd : Int32) (z : Nat) (hz : z < 12) (hB : okB he) (hW : ¬ dW he 0 = 0) : Met ll yX4_close wsX4_close rmX4_close (va_Pc [.ref (a 0)] (PW D (tyG cI cJ) (MW a cI cJ he cm ad gw as de eq re co av hi ke sq ab be nw tn th (nI (z))) sz)) (va_Qi (fun (rr : Int32) (u : (Nat → Int64) × (Nat → Int64) × (Nat → Int64)) => rr = reS re av (aF he) (bF he) (grp he) 6) (fun (u : (Nat → Int64) × (Nat → Int64) × (Nat → Int64)) t => AW D (tyG cI cJ) (va_A (MW a cI cJ he cm ad gw as de eq re co av hi ke sq ab be nw tn th (nI (z))) sz) (MW a cI cJ he cm ad gw as de (cE eq re 6) (cP re 6) co av hi (upd ke z (reS re av (aF he) (bF he) (grp he) 6)) (u.1) (u.2.1) (u.2.2) nw tn 0 (nI (z + 1))) t) (va_A (MW a cI cJ he cm ad gw as de eq re co av hi ke sq ab be nw tn th (nI (z))) sz)) 0 0 (va_A (MW a cI cJ he cm ad gw as de eq re co av hi ke sq ab be nw tn th (nI (z))) sz) := by
  refine Met.ofW (cc := cX4_close) (maxL := 2) (ret := (some .int)) (by decide) rfl ?_
  intro pp ee ss mm ar bel mth cde s₁ B hml hv
  obtain ⟨rfl, hsz, hP, hK, hD0, hE⟩ := hv
  have hx := B.exec
  have hb := B.bytes
  have hr := B.returns
  have hts := atoms_spec (ws := wsX4_close) B.pre
  have hown : ss.vm.findClass RX4 = some mm.cls := findClass_of_methodNamed B.named
  have hlocks := B.notSynchronized
  subst hsz
  have hD := hD0.self (sz := ss.heap.size)
  generalize hAe : va_A (MW a cI cJ he cm ad gw as de eq re co av hi ke sq ab be nw tn th (nI (z))) ss.heap.size = A at hD ⊢
  have hA : ∀ q : Nat, ss.heap.size ≤ q → A q := fun q h => by rw [← hAe]; exact Or.inr h
  have hS : va_S A ss.heap ss.heap [] := va_S.rf
  have hin : ∀ w ∈ wsX40, w.before ([.ref (a 0)] : List Value).toArray ss = true := fun w h => hts w ((by decide +kernel : ∀ w ∈ wsX40, w ∈ wsX4_close) w h)
  have hl := lv_entry [.ref (a 0)] (n := 2) (Nat.le_of_ble_eq_true rfl)
  rw [lg_entry_eq]
  generalize (lg_sl [.ref (a 0)] ++ List.replicate (2 - (lg_sl [.ref (a 0)]).length) Slot.unset).toArray = ls at hl ⊢
  have hl : lv_has ls 2 [(0, .ref (a 0))] := hl
  generalize hZ : MQ bel _ _ ss _ _ _ = Z
  refine lv_aload_n hx hb dX4_close_0 rfl (lv_at hl 0 rfl) ?_
  refine lv_iconst (v := 0) hx hb dX4_close_1 (by decide) ?_
  refine va_put (D := D) (ci := 4) (v := .int (0)) (ty := .int) (C := RX4) (T := TX4) (N := 19) (Ts := wsX40) hx hb hin (fun _ h9 => h9) tyX4 tyX4_ok nmX4 hown hK hP hD hS 0 rfl rfl 0 (by decide) (hts (.fieldLink RX4 62 "GroupbooksModel" "thrown" "I") (by decide +kernel)) (fun _ h9 => h9) rfl (by decide +kernel) rfl rfl (Nat.le_of_ble_eq_true rfl) dX4_close_2 (fun H locs hP hD hS => ?_)
  have hP : va_P D vwCl (MW a cI cJ he cm ad gw as de eq re co av hi ke sq ab be nw tn 0 (nI (z))) H := hP
  have hD : va_D A (MW a cI cJ he cm ad gw as de eq re co av hi ke sq ab be nw tn 0 (nI (z))) := hD
  refine lv_aload_n hx hb dX4_close_5 rfl (lv_at hl 0 rfl) ?_
  refine va_get (D := D) (ci := 4) (v := .int (nI (z))) (C := RX4) (T := TX4) (N := 19) (Ts := wsX40) hx hb hin (fun _ h9 => h9) hown hK hP 0 rfl rfl 13 (by decide) (hts (.fieldLink RX4 138 "GroupbooksModel" "closed" "I") (by decide +kernel)) (fun _ h9 => h9) rfl dX4_close_6 ?_
  refine lv_bipush (v := 12) hx hb dX4_close_9 (by decide) ?_
  refine lv_icmp_ne (tgt := 20) hx hb dX4_close_11 (by decide) (fun c_1 => ?_) (fun c_1 => ?_)
  · have n_1 : ¬ ((z) = (12)) := fun h => c_1 ((nI_eq (a := z) (b := 12) (by omega) (by omega)).mpr h)
    refine lv_aload_n hx hb dX4_close_20 rfl (lv_at hl 0 rfl) ?_
    refine va_get (D := D) (ci := 4) (v := .ref (a 12)) (C := RX4) (T := TX4) (N := 19) (Ts := wsX40) hx hb hin (fun _ h9 => h9) hown hK hP 0 rfl rfl 12 (by decide) (hts (.fieldLink RX4 43 "GroupbooksModel" "kept" "[I") (by decide +kernel)) (fun _ h9 => h9) rfl dX4_close_21 ?_
    refine lv_aload_n hx hb dX4_close_24 rfl (lv_at hl 0 rfl) ?_
    refine va_get (D := D) (ci := 4) (v := .int (nI (z))) (C := RX4) (T := TX4) (N := 19) (Ts := wsX40) hx hb hin (fun _ h9 => h9) hown hK hP 0 rfl rfl 13 (by decide) (hts (.fieldLink RX4 138 "GroupbooksModel" "closed" "I") (by decide +kernel)) (fun _ h9 => h9) rfl dX4_close_25 ?_
    refine lv_aload_n hx hb dX4_close_28 rfl (lv_at hl 0 rfl) ?_
    refine b_calli0 (S := (Nat → Int64) × (Nat → Int64) × (Nat → Int64)) (w' := fun u_2 => MW a cI cJ he cm ad gw as de eq re co av hi ke (u_2.1) (u_2.2.1) (u_2.2.2) nw tn 0 (nI (z))) hP hD hS hA (va_runV (As := []) (rest := [.int (nI (z)), .ref (a 12)]) ⟨hx, hb, hml, hown, hts⟩ (c_X4_resultNow ll D a cI cJ _ he cm ad gw as de eq re co av hi ke sq ab be nw tn 0 (nI (z))  hB hW) (cwV 0 hts gX4_close_X4_resultNow rfl rfl rfl (by decide +kernel) ⟨Nat.le_of_ble_eq_true rfl, Nat.le_of_ble_eq_true rfl⟩) ⟨PW.blind, va_recv hK hP (ci := 4) (q0 := 0) rfl rfl, PW.go hP hK hD hE⟩ rfl rfl hl.1 rfl (lv_room (Nat.le_of_ble_eq_true rfl)) dX4_close_29 ⟨Nat.le_of_ble_eq_true rfl, Nat.le_of_ble_eq_true rfl⟩) (fun r_4 u_2 H locs h_3 hP hD hS => ?_)
    obtain rfl : r_4 = reS re av (aF he) (bF he) (grp he) 6 := h_3
    refine b_iast (w' := MW a cI cJ he cm ad gw as de eq re co av hi (upd ke (z) (reS re av (aF he) (bF he) (grp he) 6)) (u_2.1) (u_2.2.1) (u_2.2.2) nw tn 0 (nI (z))) hx hb hK hP hD hS 12 0 (f := ke) rfl rfl (j := z) (by omega) (by decide) rfl dX4_close_32 (fun H locs hP hD hS => ?_)
    refine lv_aload_n hx hb dX4_close_33 rfl (lv_at hl 0 rfl) ?_
    refine lv_dup hx hb dX4_close_34 rfl ?_
    refine va_get (D := D) (ci := 4) (v := .int (nI (z))) (C := RX4) (T := TX4) (N := 19) (Ts := wsX40) hx hb hin (fun _ h9 => h9) hown hK hP 0 rfl rfl 13 (by decide) (hts (.fieldLink RX4 138 "GroupbooksModel" "closed" "I") (by decide +kernel)) (fun _ h9 => h9) rfl dX4_close_35 ?_
    refine lv_iconst (v := 1) hx hb dX4_close_38 (by decide) ?_
    refine lv_iadd hx hb dX4_close_39 ?_
    refine b_ti (nI_add (z) (1)) ?_
    refine va_put (D := D) (ci := 4) (v := .int (nI ((z) + (1)))) (ty := .int) (C := RX4) (T := TX4) (N := 19) (Ts := wsX40) hx hb hin (fun _ h9 => h9) tyX4 tyX4_ok nmX4 hown hK hP hD hS 0 rfl rfl 13 (by decide) (hts (.fieldLink RX4 138 "GroupbooksModel" "closed" "I") (by decide +kernel)) (fun _ h9 => h9) rfl (by decide +kernel) rfl rfl (Nat.le_of_ble_eq_true rfl) dX4_close_40 (fun H locs hP hD hS => ?_)
    have hP : va_P D vwCl (MW a cI cJ he cm ad gw as de eq re co av hi (upd ke (z) (reS re av (aF he) (bF he) (grp he) 6)) (u_2.1) (u_2.2.1) (u_2.2.2) nw tn 0 (nI ((z) + (1)))) H := hP
    have hD : va_D A (MW a cI cJ he cm ad gw as de eq re co av hi (upd ke (z) (reS re av (aF he) (bF he) (grp he) 6)) (u_2.1) (u_2.2.1) (u_2.2.2) nw tn 0 (nI ((z) + (1)))) := hD
    refine lv_iconst (v := 0) hx hb dX4_close_43 (by decide) ?_
    refine lv_istore_n (lv' := [(1, .int (0)), (0, .ref (a 0))]) hx hb dX4_close_44 rfl hl (by decide) rfl (fun ls hl => ?_)
    have L1 : ∀ (n1 k1 : Nat), k1 + n1 = 6 → ∀ (H : Heap) (locs : List Loc) (ls : Array Slot), va_P D vwCl (MW a cI cJ he cm ad gw as de (cE eq re (k1)) (cP re (k1)) co av hi (upd ke (z) (reS re av (aF he) (bF he) (grp he) 6)) (u_2.1) (u_2.2.1) (u_2.2.2) nw tn 0 (nI ((z) + (1)))) H → va_D A (MW a cI cJ he cm ad gw as de (cE eq re (k1)) (cP re (k1)) co av hi (upd ke (z) (reS re av (aF he) (bF he) (grp he) 6)) (u_2.1) (u_2.2.1) (u_2.2.2) nw tn 0 (nI ((z) + (1)))) → va_S A ss.heap H locs → lv_has ls 2 [(1, .int (nI (k1))), (0, .ref (a 0))] → W pp ll ee rmX4_close ss mm (([.ref (a 0)] : List Value).toArray) bel mth cde H locs 0 0 Z (F0 mm 45 ls []) := by
      intro n1
      induction n1 with
      | zero =>
        intro k1 hk1  H locs ls hP hD hS hl
        have hk1b : 6 = k1 := by omega
        subst hk1b
        refine lv_iload_n hx hb dX4_close_45 rfl (lv_at hl 0 rfl) ?_
        refine lv_bipush (v := 6) hx hb dX4_close_46 (by decide) ?_
        refine lv_icmp_ge (tgt := 79) hx hb dX4_close_48 (by decide) (fun c_5 => ?_) (fun c_5 => ?_)
        · have n_5 : (6) ≤ (6) := (nI_leI (a := 6) (b := 6) (by omega) (by omega)).mp c_5
          refine lv_aload_n hx hb dX4_close_79 rfl (lv_at hl 1 rfl) ?_
          refine va_get (D := D) (ci := 4) (v := .ref (a 12)) (C := RX4) (T := TX4) (N := 19) (Ts := wsX40) hx hb hin (fun _ h9 => h9) hown hK hP 0 rfl rfl 12 (by decide) (hts (.fieldLink RX4 43 "GroupbooksModel" "kept" "[I") (by decide +kernel)) (fun _ h9 => h9) rfl dX4_close_80 ?_
          refine lv_aload_n hx hb dX4_close_83 rfl (lv_at hl 1 rfl) ?_
          refine va_get (D := D) (ci := 4) (v := .int (nI ((z) + (1)))) (C := RX4) (T := TX4) (N := 19) (Ts := wsX40) hx hb hin (fun _ h9 => h9) hown hK hP 0 rfl rfl 13 (by decide) (hts (.fieldLink RX4 138 "GroupbooksModel" "closed" "I") (by decide +kernel)) (fun _ h9 => h9) rfl dX4_close_84 ?_
          refine lv_iconst (v := 1) hx hb dX4_close_87 (by decide) ?_
          refine lv_isub hx hb dX4_close_88 ?_
          refine b_ti (y := nI (z + 1 - 1)) (pk_sub (a := z + 1) (b := 1) (by omega)) ?_
          refine b_iald hx hb hK hP 12 0 (f := (upd ke (z) (reS re av (aF he) (bF he) (grp he) 6))) rfl rfl (j := z + 1 - 1) (by omega) (by decide) dX4_close_89 ?_
          have e_6 : (cE eq re 6) = (cE eq re (6)) := by first | rfl | exact if_pos (by assumption) | exact if_neg (by assumption) | (simp only [n_1, n_5, Bool.false_eq_true, ↓reduceIte])
          have hP := (congrArg (fun z9 => va_P D vwCl (MW a cI cJ he cm ad gw as de z9 (cP re (6)) co av hi (upd ke (z) (reS re av (aF he) (bF he) (grp he) 6)) (u_2.1) (u_2.2.1) (u_2.2.2) nw tn 0 (nI ((z) + (1)))) _) e_6).mpr hP
          have hD := (congrArg (fun z9 => va_D A (MW a cI cJ he cm ad gw as de z9 (cP re (6)) co av hi (upd ke (z) (reS re av (aF he) (bF he) (grp he) 6)) (u_2.1) (u_2.2.1) (u_2.2.2) nw tn 0 (nI ((z) + (1))))) e_6).mpr hD
          have e_7 : (cP re 6) = (cP re (6)) := by first | rfl | exact if_pos (by assumption) | exact if_neg (by assumption) | (simp only [n_1, n_5, Bool.false_eq_true, ↓reduceIte])
          have hP := (congrArg (fun z9 => va_P D vwCl (MW a cI cJ he cm ad gw as de (cE eq re 6) z9 co av hi (upd ke (z) (reS re av (aF he) (bF he) (grp he) 6)) (u_2.1) (u_2.2.1) (u_2.2.2) nw tn 0 (nI ((z) + (1)))) _) e_7).mpr hP
          have hD := (congrArg (fun z9 => va_D A (MW a cI cJ he cm ad gw as de (cE eq re 6) z9 co av hi (upd ke (z) (reS re av (aF he) (bF he) (grp he) 6)) (u_2.1) (u_2.2.1) (u_2.2.2) nw tn 0 (nI ((z) + (1))))) e_7).mpr hD
          have e_8 : (upd ke z (reS re av (aF he) (bF he) (grp he) 6)) = (upd ke (z) (reS re av (aF he) (bF he) (grp he) 6)) := by first | rfl | exact if_pos (by assumption) | exact if_neg (by assumption) | (simp only [n_1, n_5, Bool.false_eq_true, ↓reduceIte])
          have hP := (congrArg (fun z9 => va_P D vwCl (MW a cI cJ he cm ad gw as de (cE eq re 6) (cP re 6) co av hi z9 (u_2.1) (u_2.2.1) (u_2.2.2) nw tn 0 (nI ((z) + (1)))) _) e_8).mpr hP
          have hD := (congrArg (fun z9 => va_D A (MW a cI cJ he cm ad gw as de (cE eq re 6) (cP re 6) co av hi z9 (u_2.1) (u_2.2.1) (u_2.2.2) nw tn 0 (nI ((z) + (1))))) e_8).mpr hD
          have e_9 : (nI (z + 1)) = (nI ((z) + (1))) := by first | rfl | exact if_pos (by assumption) | exact if_neg (by assumption) | (simp only [n_1, n_5, Bool.false_eq_true, ↓reduceIte])
          have hP := (congrArg (fun z9 => va_P D vwCl (MW a cI cJ he cm ad gw as de (cE eq re 6) (cP re 6) co av hi (upd ke z (reS re av (aF he) (bF he) (grp he) 6)) (u_2.1) (u_2.2.1) (u_2.2.2) nw tn 0 z9) _) e_9).mpr hP
          have hD := (congrArg (fun z9 => va_D A (MW a cI cJ he cm ad gw as de (cE eq re 6) (cP re 6) co av hi (upd ke z (reS re av (aF he) (bF he) (grp he) 6)) (u_2.1) (u_2.2.1) (u_2.2.2) nw tn 0 z9)) e_9).mpr hD
          subst hZ
          refine W.iret hx hb hr (fun t ht hW => ?_) hS.2.2 dX4_close_90
          refine ⟨⟨_, (u_2.1, u_2.2.1, u_2.2.2), rfl, ?_, ?_, va_K.moved hW.alike hK, ?_⟩, hS.F ht⟩
          · try dsimp only
            all_goals exact (by show upd ke z _ (z + 1 - 1) = _; rw [Nat.add_sub_cancel]; exact pk_us)
          · rw [ht]
            try dsimp only
            exact hP
          · try dsimp only
            exact hD
        · have n_5 : ¬ ((6) ≤ (6)) := fun h => c_5 ((nI_leI (a := 6) (b := 6) (by omega) (by omega)).mpr h)
          exfalso; omega
      | succ n1 ih1 =>
        intro k1 hk1  H locs ls hP hD hS hl
        have hk1b : k1 < 6 := by omega
        refine lv_iload_n hx hb dX4_close_45 rfl (lv_at hl 0 rfl) ?_
        refine lv_bipush (v := 6) hx hb dX4_close_46 (by decide) ?_
        refine lv_icmp_ge (tgt := 79) hx hb dX4_close_48 (by decide) (fun c_10 => ?_) (fun c_10 => ?_)
        · have n_10 : (6) ≤ (k1) := (nI_leI (a := 6) (b := k1) (by omega) (by omega)).mp c_10
          exfalso; omega
        · have n_10 : ¬ ((6) ≤ (k1)) := fun h => c_10 ((nI_leI (a := 6) (b := k1) (by omega) (by omega)).mpr h)
          refine lv_aload_n hx hb dX4_close_51 rfl (lv_at hl 1 rfl) ?_
          refine va_get (D := D) (ci := 4) (v := .ref (a 7)) (C := RX4) (T := TX4) (N := 19) (Ts := wsX40) hx hb hin (fun _ h9 => h9) hown hK hP 0 rfl rfl 7 (by decide) (hts (.fieldLink RX4 28 "GroupbooksModel" "equity" "[I") (by decide +kernel)) (fun _ h9 => h9) rfl dX4_close_52 ?_
          refine lv_iload_n hx hb dX4_close_55 rfl (lv_at hl 0 rfl) ?_
          refine lv_dup2_11 hx hb dX4_close_56 rfl rfl ?_
          refine b_iald hx hb hK hP 7 0 (f := (cE eq re (k1))) rfl rfl (j := k1) (by omega) (by decide) dX4_close_57 ?_
          refine lv_aload_n hx hb dX4_close_58 rfl (lv_at hl 1 rfl) ?_
          refine va_get (D := D) (ci := 4) (v := .ref (a 8)) (C := RX4) (T := TX4) (N := 19) (Ts := wsX40) hx hb hin (fun _ h9 => h9) hown hK hP 0 rfl rfl 8 (by decide) (hts (.fieldLink RX4 31 "GroupbooksModel" "result" "[I") (by decide +kernel)) (fun _ h9 => h9) rfl dX4_close_59 ?_
          refine lv_iload_n hx hb dX4_close_62 rfl (lv_at hl 0 rfl) ?_
          refine b_iald hx hb hK hP 8 0 (f := (cP re (k1))) rfl rfl (j := k1) (by omega) (by decide) dX4_close_63 ?_
          refine lv_iadd hx hb dX4_close_64 ?_
          refine b_iast (w' := MW a cI cJ he cm ad gw as de (upd (cE eq re (k1)) (k1) (((cE eq re (k1)) (k1)) + ((cP re (k1)) (k1)))) (cP re (k1)) co av hi (upd ke (z) (reS re av (aF he) (bF he) (grp he) 6)) (u_2.1) (u_2.2.1) (u_2.2.2) nw tn 0 (nI ((z) + (1)))) hx hb hK hP hD hS 7 0 (f := (cE eq re (k1))) rfl rfl (j := k1) (by omega) (by decide) rfl dX4_close_65 (fun H locs hP hD hS => ?_)
          refine lv_aload_n hx hb dX4_close_66 rfl (lv_at hl 1 rfl) ?_
          refine va_get (D := D) (ci := 4) (v := .ref (a 8)) (C := RX4) (T := TX4) (N := 19) (Ts := wsX40) hx hb hin (fun _ h9 => h9) hown hK hP 0 rfl rfl 8 (by decide) (hts (.fieldLink RX4 31 "GroupbooksModel" "result" "[I") (by decide +kernel)) (fun _ h9 => h9) rfl dX4_close_67 ?_
          refine lv_iload_n hx hb dX4_close_70 rfl (lv_at hl 0 rfl) ?_
          refine lv_iconst (v := 0) hx hb dX4_close_71 (by decide) ?_
          refine b_iast (w' := MW a cI cJ he cm ad gw as de (upd (cE eq re (k1)) (k1) (((cE eq re (k1)) (k1)) + ((cP re (k1)) (k1)))) (upd (cP re (k1)) (k1) (0)) co av hi (upd ke (z) (reS re av (aF he) (bF he) (grp he) 6)) (u_2.1) (u_2.2.1) (u_2.2.2) nw tn 0 (nI ((z) + (1)))) hx hb hK hP hD hS 8 0 (f := (cP re (k1))) rfl rfl (j := k1) (by omega) (by decide) rfl dX4_close_72 (fun H locs hP hD hS => ?_)
          refine lv_iinc (v := nI (k1 + 1)) (lv' := [(1, .int (nI (k1 + 1))), (0, .ref (a 0))]) hx hb dX4_close_73 hl (k := 0) rfl (nI_1 (k1)) (by decide) rfl (fun ls hl => ?_)
          refine lv_goto (tgt := 45) hx hb dX4_close_76 (by decide) ?_
          have e_11 : (cE eq re (k1 + 1)) = (upd (cE eq re (k1)) (k1) (((cE eq re (k1)) (k1)) + ((cP re (k1)) (k1)))) := by first | rfl | exact if_pos (by assumption) | exact if_neg (by assumption) | (simp only [n_1, n_10, Bool.false_eq_true, ↓reduceIte])
          have e_12 : (cP re (k1 + 1)) = (upd (cP re (k1)) (k1) (0)) := by first | rfl | exact if_pos (by assumption) | exact if_neg (by assumption) | (simp only [n_1, n_10, Bool.false_eq_true, ↓reduceIte])
          exact ih1 (k1 + 1) (by omega) _ _ ls (by rw [e_11, e_12]; exact hP) (by rw [e_11, e_12]; exact hD) hS (lv_sub hl [0, 1] rfl)
    exact L1 (6) 0 (by omega) _ _ ls hP hD hS (lv_sub hl [0, 1] rfl)
  · have n_1 : (z) = (12) := (nI_eq (a := z) (b := 12) (by omega) (by omega)).mp c_1
    exfalso; omega

abbrev rmX4_close_bad : Room := ({ frames := 1, cells := 0, slots := 0, locals := 21 } : Room)
set_option maxHeartbeats 4000000 in
set_option maxRecDepth 100000 in
theorem c_X4_close_bad (ll : Launch) (D : va_G) (a : Nat → Nat) (cI cJ : ClassId) (sz : Nat) (he cm ad gw as de eq re co av hi ke : Nat → Int32) (sq ab be : Nat → Int64) (nw tn : Nat → Int32) (th cd : Int32)   : Met ll yX4_close wsX4_close rmX4_close_bad (va_Pc [.ref (a 0)] (PW D (tyG cI cJ) (MW a cI cJ he cm ad gw as de eq re co av hi ke sq ab be nw tn th (nI (12))) sz)) (va_Qi (fun (rr : Int32) (u : Unit) => rr = 0) (fun (u : Unit) t => AW D (tyG cI cJ) (va_A (MW a cI cJ he cm ad gw as de eq re co av hi ke sq ab be nw tn th (nI (12))) sz) (MW a cI cJ he cm ad gw as de eq re co av hi ke sq ab be nw tn 1 (nI (12))) t) (va_A (MW a cI cJ he cm ad gw as de eq re co av hi ke sq ab be nw tn th (nI (12))) sz)) 0 0 (va_A (MW a cI cJ he cm ad gw as de eq re co av hi ke sq ab be nw tn th (nI (12))) sz) := by
  refine Met.ofW (cc := cX4_close) (maxL := 2) (ret := (some .int)) (by decide) rfl ?_
  intro pp ee ss mm ar bel mth cde s₁ B hml hv
  obtain ⟨rfl, hsz, hP, hK, hD0, hE⟩ := hv
  have hx := B.exec
  have hb := B.bytes
  have hr := B.returns
  have hts := atoms_spec (ws := wsX4_close) B.pre
  have hown : ss.vm.findClass RX4 = some mm.cls := findClass_of_methodNamed B.named
  have hlocks := B.notSynchronized
  subst hsz
  have hD := hD0.self (sz := ss.heap.size)
  generalize hAe : va_A (MW a cI cJ he cm ad gw as de eq re co av hi ke sq ab be nw tn th (nI (12))) ss.heap.size = A at hD ⊢
  have hA : ∀ q : Nat, ss.heap.size ≤ q → A q := fun q h => by rw [← hAe]; exact Or.inr h
  have hS : va_S A ss.heap ss.heap [] := va_S.rf
  have hin : ∀ w ∈ wsX40, w.before ([.ref (a 0)] : List Value).toArray ss = true := fun w h => hts w ((by decide +kernel : ∀ w ∈ wsX40, w ∈ wsX4_close) w h)
  have hl := lv_entry [.ref (a 0)] (n := 2) (Nat.le_of_ble_eq_true rfl)
  rw [lg_entry_eq]
  generalize (lg_sl [.ref (a 0)] ++ List.replicate (2 - (lg_sl [.ref (a 0)]).length) Slot.unset).toArray = ls at hl ⊢
  have hl : lv_has ls 2 [(0, .ref (a 0))] := hl
  refine lv_aload_n hx hb dX4_close_0 rfl (lv_at hl 0 rfl) ?_
  refine lv_iconst (v := 0) hx hb dX4_close_1 (by decide) ?_
  refine va_put (D := D) (ci := 4) (v := .int (0)) (ty := .int) (C := RX4) (T := TX4) (N := 19) (Ts := wsX40) hx hb hin (fun _ h9 => h9) tyX4 tyX4_ok nmX4 hown hK hP hD hS 0 rfl rfl 0 (by decide) (hts (.fieldLink RX4 62 "GroupbooksModel" "thrown" "I") (by decide +kernel)) (fun _ h9 => h9) rfl (by decide +kernel) rfl rfl (Nat.le_of_ble_eq_true rfl) dX4_close_2 (fun H locs hP hD hS => ?_)
  have hP : va_P D vwCl (MW a cI cJ he cm ad gw as de eq re co av hi ke sq ab be nw tn 0 (nI (12))) H := hP
  have hD : va_D A (MW a cI cJ he cm ad gw as de eq re co av hi ke sq ab be nw tn 0 (nI (12))) := hD
  refine lv_aload_n hx hb dX4_close_5 rfl (lv_at hl 0 rfl) ?_
  refine va_get (D := D) (ci := 4) (v := .int (nI (12))) (C := RX4) (T := TX4) (N := 19) (Ts := wsX40) hx hb hin (fun _ h9 => h9) hown hK hP 0 rfl rfl 13 (by decide) (hts (.fieldLink RX4 138 "GroupbooksModel" "closed" "I") (by decide +kernel)) (fun _ h9 => h9) rfl dX4_close_6 ?_
  refine lv_bipush (v := 12) hx hb dX4_close_9 (by decide) ?_
  refine lv_icmp_ne (tgt := 20) hx hb dX4_close_11 (by decide) (fun c_1 => ?_) (fun c_1 => ?_)
  · have n_1 : ¬ ((12) = (12)) := fun h => c_1 ((nI_eq (a := 12) (b := 12) (by omega) (by omega)).mpr h)
    exact absurd rfl n_1
  · have n_1 : (12) = (12) := (nI_eq (a := 12) (b := 12) (by omega) (by omega)).mp c_1
    refine lv_aload_n hx hb dX4_close_14 rfl (lv_at hl 0 rfl) ?_
    refine lv_iconst (v := 1) hx hb dX4_close_15 (by decide) ?_
    refine b_calli0 (S := Unit) (w' := fun u => MW a cI cJ he cm ad gw as de eq re co av hi ke sq ab be nw tn 1 (nI (12))) hP hD hS hA (va_runV (As := [.int (1)]) (rest := []) ⟨hx, hb, hml, hown, hts⟩ (c_X4_fails ll D a cI cJ _ he cm ad gw as de eq re co av hi ke sq ab be nw tn 0 (nI (12)) 1 ) (cwV 1 hts gX4_close_X4_fails rfl rfl rfl (by decide +kernel) ⟨Nat.le_of_ble_eq_true rfl, Nat.le_of_ble_eq_true rfl⟩) ⟨PW.blind, va_recv hK hP (ci := 4) (q0 := 0) rfl rfl, PW.go hP hK hD hE⟩ rfl rfl hl.1 rfl (lv_room (Nat.le_of_ble_eq_true rfl)) dX4_close_16 ⟨Nat.le_of_ble_eq_true rfl, Nat.le_of_ble_eq_true rfl⟩) (fun r_3 u H locs h_2 hP hD hS => ?_)
    have h_2 : r_3 = 0 := h_2
    subst h_2
    exact W.iret hx hb hr (fun t ht hW => ⟨⟨_, (), rfl, rfl, (by rw [ht]; exact hP), va_K.moved hW.alike hK, hD⟩, hS.F ht⟩) hS.2.2 dX4_close_19

abbrev rmX4_resultOf : Room := ({ frames := 1, cells := 0, slots := 0, locals := 22 } : Room)
set_option maxHeartbeats 4000000 in
set_option maxRecDepth 100000 in
theorem c_X4_resultOf (ll : Launch) (D : va_G) (a : Nat → Nat) (cI cJ : ClassId) (sz : Nat) (he cm ad gw as de eq re co av hi ke : Nat → Int32) (sq ab be : Nat → Int64) (nw tn : Nat → Int32) (th cd : Int32) (z j : Nat) (hz : z ≤ 12) (hj : j < z) (hq : inB (nI j) 0 (nI z - 1) = true) : Met ll yX4_resultOf wsX4_resultOf rmX4_resultOf (va_Pc [.ref (a 0), .int (nI (j))] (PW D (tyG cI cJ) (MW a cI cJ he cm ad gw as de eq re co av hi ke sq ab be nw tn th (nI (z))) sz)) (va_Qi (fun (rr : Int32) (u : Unit) => rr = ke j) (fun (u : Unit) t => AW D (tyG cI cJ) (va_A (MW a cI cJ he cm ad gw as de eq re co av hi ke sq ab be nw tn th (nI (z))) sz) (MW a cI cJ he cm ad gw as de eq re co av hi ke sq ab be nw tn 0 (nI (z))) t) (va_A (MW a cI cJ he cm ad gw as de eq re co av hi ke sq ab be nw tn th (nI (z))) sz)) 0 0 (va_A (MW a cI cJ he cm ad gw as de eq re co av hi ke sq ab be nw tn th (nI (z))) sz) := by
  refine Met.ofW (cc := cX4_resultOf) (maxL := 2) (ret := (some .int)) (by decide) rfl ?_
  intro pp ee ss mm ar bel mth cde s₁ B hml hv
  obtain ⟨rfl, hsz, hP, hK, hD0, hE⟩ := hv
  have hx := B.exec
  have hb := B.bytes
  have hr := B.returns
  have hts := atoms_spec (ws := wsX4_resultOf) B.pre
  have hown : ss.vm.findClass RX4 = some mm.cls := findClass_of_methodNamed B.named
  have hlocks := B.notSynchronized
  subst hsz
  have hD := hD0.self (sz := ss.heap.size)
  generalize hAe : va_A (MW a cI cJ he cm ad gw as de eq re co av hi ke sq ab be nw tn th (nI (z))) ss.heap.size = A at hD ⊢
  have hA : ∀ q : Nat, ss.heap.size ≤ q → A q := fun q h => by rw [← hAe]; exact Or.inr h
  have hS : va_S A ss.heap ss.heap [] := va_S.rf
  have hin : ∀ w ∈ wsX40, w.before ([.ref (a 0), .int (nI (j))] : List Value).toArray ss = true := fun w h => hts w ((by decide +kernel : ∀ w ∈ wsX40, w ∈ wsX4_resultOf) w h)
  have hl := lv_entry [.ref (a 0), .int (nI (j))] (n := 2) (Nat.le_of_ble_eq_true rfl)
  rw [lg_entry_eq]
  generalize (lg_sl [.ref (a 0), .int (nI (j))] ++ List.replicate (2 - (lg_sl [.ref (a 0), .int (nI (j))]).length) Slot.unset).toArray = ls at hl ⊢
  have hl : lv_has ls 2 [(0, .ref (a 0)), (1, .int (nI (j)))] := hl
  refine lv_aload_n hx hb dX4_resultOf_0 rfl (lv_at hl 0 rfl) ?_
  refine lv_iconst (v := 0) hx hb dX4_resultOf_1 (by decide) ?_
  refine va_put (D := D) (ci := 4) (v := .int (0)) (ty := .int) (C := RX4) (T := TX4) (N := 19) (Ts := wsX40) hx hb hin (fun _ h9 => h9) tyX4 tyX4_ok nmX4 hown hK hP hD hS 0 rfl rfl 0 (by decide) (hts (.fieldLink RX4 62 "GroupbooksModel" "thrown" "I") (by decide +kernel)) (fun _ h9 => h9) rfl (by decide +kernel) rfl rfl (Nat.le_of_ble_eq_true rfl) dX4_resultOf_2 (fun H locs hP hD hS => ?_)
  have hP : va_P D vwCl (MW a cI cJ he cm ad gw as de eq re co av hi ke sq ab be nw tn 0 (nI (z))) H := hP
  have hD : va_D A (MW a cI cJ he cm ad gw as de eq re co av hi ke sq ab be nw tn 0 (nI (z))) := hD
  refine lv_iload_n hx hb dX4_resultOf_5 rfl (lv_at hl 1 rfl) ?_
  refine lv_iconst (v := 0) hx hb dX4_resultOf_6 (by decide) ?_
  refine lv_aload_n hx hb dX4_resultOf_7 rfl (lv_at hl 0 rfl) ?_
  refine va_get (D := D) (ci := 4) (v := .int (nI (z))) (C := RX4) (T := TX4) (N := 19) (Ts := wsX40) hx hb hin (fun _ h9 => h9) hown hK hP 0 rfl rfl 13 (by decide) (hts (.fieldLink RX4 138 "GroupbooksModel" "closed" "I") (by decide +kernel)) (fun _ h9 => h9) rfl dX4_resultOf_8 ?_
  refine lv_iconst (v := 1) hx hb dX4_resultOf_11 (by decide) ?_
  refine lv_isub hx hb dX4_resultOf_12 ?_
  refine b_csi (v := bI (inB (nI (j)) 0 ((nI (z)) - (1)))) (W.runS (As := [.int (nI (j)), .int (0), .int ((nI (z)) - (1))]) (rest := []) ⟨hx, hb, hml, hown, hts⟩ (c_X4_in ll (nI (j)) 0 ((nI (z)) - (1)) ) (va_cwS 3 hts gX4_resultOf_X4_in rfl rfl rfl (by decide +kernel) ⟨Nat.le_of_ble_eq_true rfl, Nat.le_of_ble_eq_true rfl⟩) ⟨PT.blind, PT.to⟩ rfl rfl hl.1 rfl (lv_room (Nat.le_of_ble_eq_true rfl)) dX4_resultOf_13 ⟨Nat.le_of_ble_eq_true rfl, Nat.le_of_ble_eq_true rfl⟩) ?_
  refine lv_if_eq (tgt := 28) hx hb dX4_resultOf_16 (by decide) (fun c_1 => ?_) (fun c_1 => ?_)
  · have n_1 : ¬ (inB (nI (j)) 0 ((nI (z)) - (1))) = true := bI0 c_1
    exact absurd hq n_1
  · have n_1 : (inB (nI (j)) 0 ((nI (z)) - (1))) = true := bI1 c_1
    refine lv_aload_n hx hb dX4_resultOf_19 rfl (lv_at hl 0 rfl) ?_
    refine va_get (D := D) (ci := 4) (v := .ref (a 12)) (C := RX4) (T := TX4) (N := 19) (Ts := wsX40) hx hb hin (fun _ h9 => h9) hown hK hP 0 rfl rfl 12 (by decide) (hts (.fieldLink RX4 43 "GroupbooksModel" "kept" "[I") (by decide +kernel)) (fun _ h9 => h9) rfl dX4_resultOf_20 ?_
    refine lv_iload_n hx hb dX4_resultOf_23 rfl (lv_at hl 1 rfl) ?_
    refine b_iald hx hb hK hP 12 0 (f := ke) rfl rfl (j := j) (by omega) (by decide) dX4_resultOf_24 ?_
    refine lv_goto (tgt := 33) hx hb dX4_resultOf_25 (by decide) ?_
    exact W.iret hx hb hr (fun t ht hW => ⟨⟨_, (), rfl, rfl, (by rw [ht]; exact hP), va_K.moved hW.alike hK, hD⟩, hS.F ht⟩) hS.2.2 dX4_resultOf_33

abbrev rmX4_resultOf_bad : Room := ({ frames := 1, cells := 0, slots := 0, locals := 22 } : Room)
set_option maxHeartbeats 4000000 in
set_option maxRecDepth 100000 in
theorem c_X4_resultOf_bad (ll : Launch) (D : va_G) (a : Nat → Nat) (cI cJ : ClassId) (sz : Nat) (he cm ad gw as de eq re co av hi ke : Nat → Int32) (sq ab be : Nat → Int64) (nw tn : Nat → Int32) (th cd : Int32) (z : Nat) (x0 : Int32) (hbad : ¬ inB x0 0 (nI z - 1) = true) : Met ll yX4_resultOf wsX4_resultOf rmX4_resultOf_bad (va_Pc [.ref (a 0), .int (x0)] (PW D (tyG cI cJ) (MW a cI cJ he cm ad gw as de eq re co av hi ke sq ab be nw tn th (nI (z))) sz)) (va_Qi (fun (rr : Int32) (u : Unit) => rr = 0) (fun (u : Unit) t => AW D (tyG cI cJ) (va_A (MW a cI cJ he cm ad gw as de eq re co av hi ke sq ab be nw tn th (nI (z))) sz) (MW a cI cJ he cm ad gw as de eq re co av hi ke sq ab be nw tn 1 (nI (z))) t) (va_A (MW a cI cJ he cm ad gw as de eq re co av hi ke sq ab be nw tn th (nI (z))) sz)) 0 0 (va_A (MW a cI cJ he cm ad gw as de eq re co av hi ke sq ab be nw tn th (nI (z))) sz) := by
  refine Met.ofW (cc := cX4_resultOf) (maxL := 2) (ret := (some .int)) (by decide) rfl ?_
  intro pp ee ss mm ar bel mth cde s₁ B hml hv
  obtain ⟨rfl, hsz, hP, hK, hD0, hE⟩ := hv
  have hx := B.exec
  have hb := B.bytes
  have hr := B.returns
  have hts := atoms_spec (ws := wsX4_resultOf) B.pre
  have hown : ss.vm.findClass RX4 = some mm.cls := findClass_of_methodNamed B.named
  have hlocks := B.notSynchronized
  subst hsz
  have hD := hD0.self (sz := ss.heap.size)
  generalize hAe : va_A (MW a cI cJ he cm ad gw as de eq re co av hi ke sq ab be nw tn th (nI (z))) ss.heap.size = A at hD ⊢
  have hA : ∀ q : Nat, ss.heap.size ≤ q → A q := fun q h => by rw [← hAe]; exact Or.inr h
  have hS : va_S A ss.heap ss.heap [] := va_S.rf
  have hin : ∀ w ∈ wsX40, w.before ([.ref (a 0), .int (x0)] : List Value).toArray ss = true := fun w h => hts w ((by decide +kernel : ∀ w ∈ wsX40, w ∈ wsX4_resultOf) w h)
  have hl := lv_entry [.ref (a 0), .int (x0)] (n := 2) (Nat.le_of_ble_eq_true rfl)
  rw [lg_entry_eq]
  generalize (lg_sl [.ref (a 0), .int (x0)] ++ List.replicate (2 - (lg_sl [.ref (a 0), .int (x0)]).length) Slot.unset).toArray = ls at hl ⊢
  have hl : lv_has ls 2 [(0, .ref (a 0)), (1, .int (x0))] := hl
  refine lv_aload_n hx hb dX4_resultOf_0 rfl (lv_at hl 0 rfl) ?_
  refine lv_iconst (v := 0) hx hb dX4_resultOf_1 (by decide) ?_
  refine va_put (D := D) (ci := 4) (v := .int (0)) (ty := .int) (C := RX4) (T := TX4) (N := 19) (Ts := wsX40) hx hb hin (fun _ h9 => h9) tyX4 tyX4_ok nmX4 hown hK hP hD hS 0 rfl rfl 0 (by decide) (hts (.fieldLink RX4 62 "GroupbooksModel" "thrown" "I") (by decide +kernel)) (fun _ h9 => h9) rfl (by decide +kernel) rfl rfl (Nat.le_of_ble_eq_true rfl) dX4_resultOf_2 (fun H locs hP hD hS => ?_)
  have hP : va_P D vwCl (MW a cI cJ he cm ad gw as de eq re co av hi ke sq ab be nw tn 0 (nI (z))) H := hP
  have hD : va_D A (MW a cI cJ he cm ad gw as de eq re co av hi ke sq ab be nw tn 0 (nI (z))) := hD
  refine lv_iload_n hx hb dX4_resultOf_5 rfl (lv_at hl 1 rfl) ?_
  refine lv_iconst (v := 0) hx hb dX4_resultOf_6 (by decide) ?_
  refine lv_aload_n hx hb dX4_resultOf_7 rfl (lv_at hl 0 rfl) ?_
  refine va_get (D := D) (ci := 4) (v := .int (nI (z))) (C := RX4) (T := TX4) (N := 19) (Ts := wsX40) hx hb hin (fun _ h9 => h9) hown hK hP 0 rfl rfl 13 (by decide) (hts (.fieldLink RX4 138 "GroupbooksModel" "closed" "I") (by decide +kernel)) (fun _ h9 => h9) rfl dX4_resultOf_8 ?_
  refine lv_iconst (v := 1) hx hb dX4_resultOf_11 (by decide) ?_
  refine lv_isub hx hb dX4_resultOf_12 ?_
  refine b_csi (v := bI (inB x0 0 ((nI (z)) - (1)))) (W.runS (As := [.int (x0), .int (0), .int ((nI (z)) - (1))]) (rest := []) ⟨hx, hb, hml, hown, hts⟩ (c_X4_in ll x0 0 ((nI (z)) - (1)) ) (va_cwS 3 hts gX4_resultOf_X4_in rfl rfl rfl (by decide +kernel) ⟨Nat.le_of_ble_eq_true rfl, Nat.le_of_ble_eq_true rfl⟩) ⟨PT.blind, PT.to⟩ rfl rfl hl.1 rfl (lv_room (Nat.le_of_ble_eq_true rfl)) dX4_resultOf_13 ⟨Nat.le_of_ble_eq_true rfl, Nat.le_of_ble_eq_true rfl⟩) ?_
  refine lv_if_eq (tgt := 28) hx hb dX4_resultOf_16 (by decide) (fun c_1 => ?_) (fun c_1 => ?_)
  · have n_1 : ¬ (inB x0 0 ((nI (z)) - (1))) = true := bI0 c_1
    refine lv_aload_n hx hb dX4_resultOf_28 rfl (lv_at hl 0 rfl) ?_
    refine lv_iconst (v := 1) hx hb dX4_resultOf_29 (by decide) ?_
    refine b_calli0 (S := Unit) (w' := fun u => MW a cI cJ he cm ad gw as de eq re co av hi ke sq ab be nw tn 1 (nI (z))) hP hD hS hA (va_runV (As := [.int (1)]) (rest := []) ⟨hx, hb, hml, hown, hts⟩ (c_X4_fails ll D a cI cJ _ he cm ad gw as de eq re co av hi ke sq ab be nw tn 0 (nI (z)) 1 ) (cwV 1 hts gX4_resultOf_X4_fails rfl rfl rfl (by decide +kernel) ⟨Nat.le_of_ble_eq_true rfl, Nat.le_of_ble_eq_true rfl⟩) ⟨PW.blind, va_recv hK hP (ci := 4) (q0 := 0) rfl rfl, PW.go hP hK hD hE⟩ rfl rfl hl.1 rfl (lv_room (Nat.le_of_ble_eq_true rfl)) dX4_resultOf_30 ⟨Nat.le_of_ble_eq_true rfl, Nat.le_of_ble_eq_true rfl⟩) (fun r_3 u H locs h_2 hP hD hS => ?_)
    have h_2 : r_3 = 0 := h_2
    subst h_2
    exact W.iret hx hb hr (fun t ht hW => ⟨⟨_, (), rfl, rfl, (by rw [ht]; exact hP), va_K.moved hW.alike hK, hD⟩, hS.F ht⟩) hS.2.2 dX4_resultOf_33
  · have n_1 : (inB x0 0 ((nI (z)) - (1))) = true := bI1 c_1
    exact absurd n_1 hbad
