abbrev rmX4_sets : Room := ({ frames := 3, cells := 0, slots := 0, locals := 80 } : Room)
set_option maxHeartbeats 4000000 in
set_option maxRecDepth 100000 in
theorem c_X4_sets (ll : Launch) (D : va_G) (a : Nat → Nat) (cI cJ : ClassId) (sz : Nat) (he cm ad gw as de eq re co av hi ke : Nat → Int32) (sq ab be : Nat → Int64) (nw tn : Nat → Int32) (th cd : Int32) (o c : Nat) (x : Int32) (ho : o < 6) (hc : c < 6) (hs : smH he o c x ≤ 100) (hB : okB (upd he (6 * o + c) x)) (hW : ¬ dW (upd he (6 * o + c) x) 0 = 0) : Met ll yX4_sets wsX4_sets rmX4_sets (va_Pc [.ref (a 0), .int (nI (o)), .int (nI (c)), .int (x)] (PW D (tyG cI cJ) (MW a cI cJ he cm ad gw as de eq re co av hi ke sq ab be nw tn th cd) sz)) (va_Qi (fun (rr : Int32) (u : (Nat → Int64) × (Nat → Int64) × (Nat → Int64)) => rr = 1) (fun (u : (Nat → Int64) × (Nat → Int64) × (Nat → Int64)) t => AW D (tyG cI cJ) (va_A (MW a cI cJ he cm ad gw as de eq re co av hi ke sq ab be nw tn th cd) sz) (MW a cI cJ (upd he (6 * o + c) x) cm ad gw as de eq re co av hi ke (u.1) (u.2.1) (u.2.2) nw tn th cd) t) (va_A (MW a cI cJ he cm ad gw as de eq re co av hi ke sq ab be nw tn th cd) sz)) 0 0 (va_A (MW a cI cJ he cm ad gw as de eq re co av hi ke sq ab be nw tn th cd) sz) := by
  refine Met.ofW (cc := cX4_sets) (maxL := 7) (ret := (some .boolean)) (by decide) rfl ?_
  intro pp ee ss mm ar bel mth cde s₁ B hml hv
  obtain ⟨rfl, hsz, hP, hK, hD0, hE⟩ := hv
  have hx := B.exec
  have hb := B.bytes
  have hr := B.returns
  have hts := atoms_spec (ws := wsX4_sets) B.pre
  have hown : ss.vm.findClass RX4 = some mm.cls := findClass_of_methodNamed B.named
  have hlocks := B.notSynchronized
  subst hsz
  have hD := hD0.self (sz := ss.heap.size)
  generalize hAe : va_A (MW a cI cJ he cm ad gw as de eq re co av hi ke sq ab be nw tn th cd) ss.heap.size = A at hD ⊢
  have hA : ∀ q : Nat, ss.heap.size ≤ q → A q := fun q h => by rw [← hAe]; exact Or.inr h
  have hS : va_S A ss.heap ss.heap [] := va_S.rf
  have hin : ∀ w ∈ wsX40, w.before ([.ref (a 0), .int (nI (o)), .int (nI (c)), .int (x)] : List Value).toArray ss = true := fun w h => hts w ((by decide +kernel : ∀ w ∈ wsX40, w ∈ wsX4_sets) w h)
  have hl := lv_entry [.ref (a 0), .int (nI (o)), .int (nI (c)), .int (x)] (n := 7) (Nat.le_of_ble_eq_true rfl)
  rw [lg_entry_eq]
  generalize (lg_sl [.ref (a 0), .int (nI (o)), .int (nI (c)), .int (x)] ++ List.replicate (7 - (lg_sl [.ref (a 0), .int (nI (o)), .int (nI (c)), .int (x)]).length) Slot.unset).toArray = ls at hl ⊢
  have hl : lv_has ls 7 [(0, .ref (a 0)), (1, .int (nI (o))), (2, .int (nI (c))), (3, .int (x))] := hl
  generalize hZ : MQ bel _ _ ss _ _ _ = Z
  refine lv_aload_n hx hb dX4_sets_0 rfl (lv_at hl 0 rfl) ?_
  refine va_get (D := D) (ci := 4) (v := .ref (a 1)) (C := RX4) (T := TX4) (N := 19) (Ts := wsX40) hx hb hin (fun _ h9 => h9) hown hK hP 0 rfl rfl 1 (by decide) (hts (.fieldLink RX4 7 "GroupbooksModel" "held" "[I") (by decide +kernel)) (fun _ h9 => h9) rfl dX4_sets_1 ?_
  refine lv_bipush (v := 6) hx hb dX4_sets_4 (by decide) ?_
  refine lv_iload_n hx hb dX4_sets_6 rfl (lv_at hl 1 rfl) ?_
  refine lv_imul hx hb dX4_sets_7 ?_
  refine b_ti (pk_mul (6) (o)) ?_
  refine lv_iload_n hx hb dX4_sets_8 rfl (lv_at hl 2 rfl) ?_
  refine lv_iadd hx hb dX4_sets_9 ?_
  refine b_ti (nI_add ((6) * (o)) (c)) ?_
  refine b_iald hx hb hK hP 1 0 (f := he) rfl rfl (j := ((6) * (o)) + (c)) (by omega) (by decide) dX4_sets_10 ?_
  refine lv_istore (lv' := [(4, .int (he (((6) * (o)) + (c)))), (0, .ref (a 0)), (1, .int (nI (o))), (2, .int (nI (c))), (3, .int (x))]) hx hb dX4_sets_11 hl (by decide) rfl (fun ls hl => ?_)
  refine lv_aload_n hx hb dX4_sets_13 rfl (lv_at hl 1 rfl) ?_
  refine va_get (D := D) (ci := 4) (v := .ref (a 1)) (C := RX4) (T := TX4) (N := 19) (Ts := wsX40) hx hb hin (fun _ h9 => h9) hown hK hP 0 rfl rfl 1 (by decide) (hts (.fieldLink RX4 7 "GroupbooksModel" "held" "[I") (by decide +kernel)) (fun _ h9 => h9) rfl dX4_sets_14 ?_
  refine lv_bipush (v := 6) hx hb dX4_sets_17 (by decide) ?_
  refine lv_iload_n hx hb dX4_sets_19 rfl (lv_at hl 2 rfl) ?_
  refine lv_imul hx hb dX4_sets_20 ?_
  refine b_ti (pk_mul (6) (o)) ?_
  refine lv_iload_n hx hb dX4_sets_21 rfl (lv_at hl 3 rfl) ?_
  refine lv_iadd hx hb dX4_sets_22 ?_
  refine b_ti (nI_add ((6) * (o)) (c)) ?_
  refine lv_iload_n hx hb dX4_sets_23 rfl (lv_at hl 4 rfl) ?_
  refine b_iast (w' := MW a cI cJ (upd he (((6) * (o)) + (c)) (x)) cm ad gw as de eq re co av hi ke sq ab be nw tn th cd) hx hb hK hP hD hS 1 0 (f := he) rfl rfl (j := ((6) * (o)) + (c)) (by omega) (by decide) rfl dX4_sets_24 (fun H locs hP hD hS => ?_)
  refine lv_iconst (v := 0) hx hb dX4_sets_25 (by decide) ?_
  refine lv_istore (lv' := [(5, .int (0)), (4, .int (he (((6) * (o)) + (c)))), (0, .ref (a 0)), (1, .int (nI (o))), (2, .int (nI (c))), (3, .int (x))]) hx hb dX4_sets_26 hl (by decide) rfl (fun ls hl => ?_)
  refine lv_iconst (v := 0) hx hb dX4_sets_28 (by decide) ?_
  refine lv_istore (lv' := [(6, .int (0)), (5, .int (0)), (4, .int (he (((6) * (o)) + (c)))), (0, .ref (a 0)), (1, .int (nI (o))), (2, .int (nI (c))), (3, .int (x))]) hx hb dX4_sets_29 hl (by decide) rfl (fun ls hl => ?_)
  have L1 : ∀ (n1 k1 : Nat), k1 + n1 = 6 → ∀ (H : Heap) (locs : List Loc) (ls : Array Slot), va_P D vwCl (MW a cI cJ (upd he (((6) * (o)) + (c)) (x)) cm ad gw as de eq re co av hi ke sq ab be nw tn th cd) H → va_D A (MW a cI cJ (upd he (((6) * (o)) + (c)) (x)) cm ad gw as de eq re co av hi ke sq ab be nw tn th cd) → va_S A ss.heap H locs → lv_has ls 7 [(6, .int (nI (k1))), (5, .int (sI (fun o1 => upd he (6 * o + c) x (6 * o1 + c)) (k1))), (4, .int (he (((6) * (o)) + (c)))), (0, .ref (a 0)), (1, .int (nI (o))), (2, .int (nI (c))), (3, .int (x))] → W pp ll ee rmX4_sets ss mm (([.ref (a 0), .int (nI (o)), .int (nI (c)), .int (x)] : List Value).toArray) bel mth cde H locs 0 0 Z (F0 mm 31 ls []) := by
    intro n1
    induction n1 with
    | zero =>
      intro k1 hk1  H locs ls hP hD hS hl
      have hk1b : 6 = k1 := by omega
      subst hk1b
      refine lv_iload hx hb dX4_sets_31 (lv_at hl 0 rfl) ?_
      refine lv_bipush (v := 6) hx hb dX4_sets_33 (by decide) ?_
      refine lv_icmp_ge (tgt := 61) hx hb dX4_sets_35 (by decide) (fun c_1 => ?_) (fun c_1 => ?_)
      · have n_1 : (6) ≤ (6) := (nI_leI (a := 6) (b := 6) (by omega) (by omega)).mp c_1
        refine lv_iload hx hb dX4_sets_61 (lv_at hl 1 rfl) ?_
        refine lv_bipush (v := 100) hx hb dX4_sets_63 (by decide) ?_
        refine lv_icmp_gt (tgt := 79) hx hb dX4_sets_65 (by decide) (fun c_2 => ?_) (fun c_2 => ?_)
        · have n_2 := c_2
          exact absurd hs (Int32.not_le.mpr n_2)
        · have n_2 := c_2
          refine lv_aload_n hx hb dX4_sets_68 rfl (lv_at hl 3 rfl) ?_
          refine b_calli0 (S := Nat → Int64) (w' := fun u_3 => MW a cI cJ (upd he (((6) * (o)) + (c)) (x)) cm ad gw as de eq re co av hi ke u_3 (abK (upd he (((6) * (o)) + (c)) (x)) ab 5) (beK (upd he (((6) * (o)) + (c)) (x)) be 5) nw tn th cd) hP hD hS hA (va_runV (As := []) (rest := []) ⟨hx, hb, hml, hown, hts⟩ (c_X4_layShares ll D a cI cJ _ (upd he (((6) * (o)) + (c)) (x)) cm ad gw as de eq re co av hi ke sq ab be nw tn th cd  hB hW) (cwV 0 hts gX4_sets_X4_layShares rfl rfl rfl (by decide +kernel) ⟨Nat.le_of_ble_eq_true rfl, Nat.le_of_ble_eq_true rfl⟩) ⟨PW.blind, va_recv hK hP (ci := 4) (q0 := 0) rfl rfl, PW.go hP hK hD hE⟩ rfl rfl hl.1 rfl (lv_room (Nat.le_of_ble_eq_true rfl)) dX4_sets_69 ⟨Nat.le_of_ble_eq_true rfl, Nat.le_of_ble_eq_true rfl⟩) (fun r_5 u_3 H locs h_4 hP hD hS => ?_)
          obtain rfl : r_5 = 1 := h_4
          refine lv_if_eq (tgt := 79) hx hb dX4_sets_72 (by decide) (fun c_6 => ?_) (fun c_6 => ?_)
          · have n_6 := c_6
            exact absurd c_6 (by decide)
          · have n_6 := c_6
            refine lv_iconst (v := 1) hx hb dX4_sets_75 (by decide) ?_
            refine lv_goto (tgt := 80) hx hb dX4_sets_76 (by decide) ?_
            refine lv_istore (lv' := [(6, .int (1)), (5, .int (sI (fun o1 => upd he (6 * o + c) x (6 * o1 + c)) (6))), (4, .int (he (((6) * (o)) + (c)))), (0, .ref (a 0)), (1, .int (nI (o))), (2, .int (nI (c))), (3, .int (x))]) hx hb dX4_sets_80 hl (by decide) rfl (fun ls hl => ?_)
            refine lv_aload_n hx hb dX4_sets_82 rfl (lv_at hl 3 rfl) ?_
            refine va_get (D := D) (ci := 4) (v := .ref (a 1)) (C := RX4) (T := TX4) (N := 19) (Ts := wsX40) hx hb hin (fun _ h9 => h9) hown hK hP 0 rfl rfl 1 (by decide) (hts (.fieldLink RX4 7 "GroupbooksModel" "held" "[I") (by decide +kernel)) (fun _ h9 => h9) rfl dX4_sets_83 ?_
            refine lv_bipush (v := 6) hx hb dX4_sets_86 (by decide) ?_
            refine lv_iload_n hx hb dX4_sets_88 rfl (lv_at hl 4 rfl) ?_
            refine lv_imul hx hb dX4_sets_89 ?_
            refine b_ti (pk_mul (6) (o)) ?_
            refine lv_iload_n hx hb dX4_sets_90 rfl (lv_at hl 5 rfl) ?_
            refine lv_iadd hx hb dX4_sets_91 ?_
            refine b_ti (nI_add ((6) * (o)) (c)) ?_
            refine lv_iload hx hb dX4_sets_92 (lv_at hl 0 rfl) ?_
            refine lv_if_eq (tgt := 101) hx hb dX4_sets_94 (by decide) (fun c_7 => ?_) (fun c_7 => ?_)
            · have n_7 := c_7
              exact absurd c_7 (by decide)
            · have n_7 := c_7
              refine lv_iload_n hx hb dX4_sets_97 rfl (lv_at hl 6 rfl) ?_
              refine lv_goto (tgt := 103) hx hb dX4_sets_98 (by decide) ?_
              refine b_iast (w' := MW a cI cJ (upd (upd he (((6) * (o)) + (c)) (x)) (((6) * (o)) + (c)) (x)) cm ad gw as de eq re co av hi ke u_3 (abK (upd he (((6) * (o)) + (c)) (x)) ab 5) (beK (upd he (((6) * (o)) + (c)) (x)) be 5) nw tn th cd) hx hb hK hP hD hS 1 0 (f := (upd he (((6) * (o)) + (c)) (x))) rfl rfl (j := ((6) * (o)) + (c)) (by omega) (by decide) rfl dX4_sets_103 (fun H locs hP hD hS => ?_)
              refine lv_iload hx hb dX4_sets_104 (lv_at hl 0 rfl) ?_
              have e_8 : (upd he (6 * o + c) x) = (upd (upd he (((6) * (o)) + (c)) (x)) (((6) * (o)) + (c)) (x)) := by first | exact (upd_upd _ _ _ _).symm | rfl | exact if_pos (by assumption) | exact if_neg (by assumption) | (simp only [n_1, n_2, n_6, n_7, Bool.false_eq_true, ↓reduceIte])
              have hP := (congrArg (fun z9 => va_P D vwCl (MW a cI cJ z9 cm ad gw as de eq re co av hi ke u_3 (abK (upd he (((6) * (o)) + (c)) (x)) ab 5) (beK (upd he (((6) * (o)) + (c)) (x)) be 5) nw tn th cd) _) e_8).mpr hP
              have hD := (congrArg (fun z9 => va_D A (MW a cI cJ z9 cm ad gw as de eq re co av hi ke u_3 (abK (upd he (((6) * (o)) + (c)) (x)) ab 5) (beK (upd he (((6) * (o)) + (c)) (x)) be 5) nw tn th cd)) e_8).mpr hD
              subst hZ
              refine W.zret hx hb hr (by decide) (fun t ht hW => ?_) hS.2.2 dX4_sets_106
              refine ⟨⟨_, (u_3, abK (upd he (((6) * (o)) + (c)) (x)) ab 5, beK (upd he (((6) * (o)) + (c)) (x)) be 5), rfl, ?_, ?_, va_K.moved hW.alike hK, ?_⟩, hS.F ht⟩
              · try dsimp only
                all_goals exact rfl
              · rw [ht]
                try dsimp only
                exact hP
              · try dsimp only
                exact hD
      · have n_1 : ¬ ((6) ≤ (6)) := fun h => c_1 ((nI_leI (a := 6) (b := 6) (by omega) (by omega)).mpr h)
        exfalso; omega
    | succ n1 ih1 =>
      intro k1 hk1  H locs ls hP hD hS hl
      have hk1b : k1 < 6 := by omega
      refine lv_iload hx hb dX4_sets_31 (lv_at hl 0 rfl) ?_
      refine lv_bipush (v := 6) hx hb dX4_sets_33 (by decide) ?_
      refine lv_icmp_ge (tgt := 61) hx hb dX4_sets_35 (by decide) (fun c_9 => ?_) (fun c_9 => ?_)
      · have n_9 : (6) ≤ (k1) := (nI_leI (a := 6) (b := k1) (by omega) (by omega)).mp c_9
        exfalso; omega
      · have n_9 : ¬ ((6) ≤ (k1)) := fun h => c_9 ((nI_leI (a := 6) (b := k1) (by omega) (by omega)).mpr h)
        refine lv_iload hx hb dX4_sets_38 (lv_at hl 1 rfl) ?_
        refine lv_aload_n hx hb dX4_sets_40 rfl (lv_at hl 3 rfl) ?_
        refine va_get (D := D) (ci := 4) (v := .ref (a 1)) (C := RX4) (T := TX4) (N := 19) (Ts := wsX40) hx hb hin (fun _ h9 => h9) hown hK hP 0 rfl rfl 1 (by decide) (hts (.fieldLink RX4 7 "GroupbooksModel" "held" "[I") (by decide +kernel)) (fun _ h9 => h9) rfl dX4_sets_41 ?_
        refine lv_bipush (v := 6) hx hb dX4_sets_44 (by decide) ?_
        refine lv_iload hx hb dX4_sets_46 (lv_at hl 0 rfl) ?_
        refine lv_imul hx hb dX4_sets_48 ?_
        refine b_ti (pk_mul (6) (k1)) ?_
        refine lv_iload_n hx hb dX4_sets_49 rfl (lv_at hl 5 rfl) ?_
        refine lv_iadd hx hb dX4_sets_50 ?_
        refine b_ti (nI_add ((6) * (k1)) (c)) ?_
        refine b_iald hx hb hK hP 1 0 (f := (upd he (((6) * (o)) + (c)) (x))) rfl rfl (j := ((6) * (k1)) + (c)) (by omega) (by decide) dX4_sets_51 ?_
        refine lv_iadd hx hb dX4_sets_52 ?_
        refine lv_istore (lv' := [(5, .int ((sI (fun o1 => upd he (6 * o + c) x (6 * o1 + c)) (k1)) + ((upd he (((6) * (o)) + (c)) (x)) (((6) * (k1)) + (c))))), (6, .int (nI (k1))), (4, .int (he (((6) * (o)) + (c)))), (0, .ref (a 0)), (1, .int (nI (o))), (2, .int (nI (c))), (3, .int (x))]) hx hb dX4_sets_53 hl (by decide) rfl (fun ls hl => ?_)
        refine lv_iinc (v := nI (k1 + 1)) (lv' := [(6, .int (nI (k1 + 1))), (5, .int ((sI (fun o1 => upd he (6 * o + c) x (6 * o1 + c)) (k1)) + ((upd he (((6) * (o)) + (c)) (x)) (((6) * (k1)) + (c))))), (4, .int (he (((6) * (o)) + (c)))), (0, .ref (a 0)), (1, .int (nI (o))), (2, .int (nI (c))), (3, .int (x))]) hx hb dX4_sets_55 hl (k := 1) rfl (nI_1 (k1)) (by decide) rfl (fun ls hl => ?_)
        refine lv_goto (tgt := 31) hx hb dX4_sets_58 (by decide) ?_
        have e_10 : (sI (fun o1 => upd he (6 * o + c) x (6 * o1 + c)) (k1 + 1)) = ((sI (fun o1 => upd he (6 * o + c) x (6 * o1 + c)) (k1)) + ((upd he (((6) * (o)) + (c)) (x)) (((6) * (k1)) + (c)))) := by first | rfl | exact if_pos (by assumption) | exact if_neg (by assumption) | (simp only [n_9, Bool.false_eq_true, ↓reduceIte])
        exact ih1 (k1 + 1) (by omega) _ _ ls hP hD hS (by rw [e_10]; exact lv_sub hl [0, 1, 2, 3, 4, 5, 6] rfl)
  exact L1 (6) 0 (by omega) _ _ ls hP hD hS (lv_sub hl [0, 1, 2, 3, 4, 5, 6] rfl)

abbrev rmX4_sets_hi : Room := ({ frames := 0, cells := 0, slots := 0, locals := 0 } : Room)
set_option maxHeartbeats 4000000 in
set_option maxRecDepth 100000 in
theorem c_X4_sets_hi (ll : Launch) (D : va_G) (a : Nat → Nat) (cI cJ : ClassId) (sz : Nat) (he cm ad gw as de eq re co av hi ke : Nat → Int32) (sq ab be : Nat → Int64) (nw tn : Nat → Int32) (th cd : Int32) (o c : Nat) (x : Int32) (ho : o < 6) (hc : c < 6) (hs : ¬ smH he o c x ≤ 100) : Met ll yX4_sets wsX4_sets rmX4_sets_hi (va_Pc [.ref (a 0), .int (nI (o)), .int (nI (c)), .int (x)] (PW D (tyG cI cJ) (MW a cI cJ he cm ad gw as de eq re co av hi ke sq ab be nw tn th cd) sz)) (va_Qi (fun (rr : Int32) (u : Unit) => rr = 0) (fun (u : Unit) t => AW D (tyG cI cJ) (va_A (MW a cI cJ he cm ad gw as de eq re co av hi ke sq ab be nw tn th cd) sz) (MW a cI cJ he cm ad gw as de eq re co av hi ke sq ab be nw tn th cd) t) (va_A (MW a cI cJ he cm ad gw as de eq re co av hi ke sq ab be nw tn th cd) sz)) 0 0 (va_A (MW a cI cJ he cm ad gw as de eq re co av hi ke sq ab be nw tn th cd) sz) := by
  refine Met.ofW (cc := cX4_sets) (maxL := 7) (ret := (some .boolean)) (by decide) rfl ?_
  intro pp ee ss mm ar bel mth cde s₁ B hml hv
  obtain ⟨rfl, hsz, hP, hK, hD0, hE⟩ := hv
  have hx := B.exec
  have hb := B.bytes
  have hr := B.returns
  have hts := atoms_spec (ws := wsX4_sets) B.pre
  have hown : ss.vm.findClass RX4 = some mm.cls := findClass_of_methodNamed B.named
  have hlocks := B.notSynchronized
  subst hsz
  have hD := hD0.self (sz := ss.heap.size)
  generalize hAe : va_A (MW a cI cJ he cm ad gw as de eq re co av hi ke sq ab be nw tn th cd) ss.heap.size = A at hD ⊢
  have hA : ∀ q : Nat, ss.heap.size ≤ q → A q := fun q h => by rw [← hAe]; exact Or.inr h
  have hS : va_S A ss.heap ss.heap [] := va_S.rf
  have hin : ∀ w ∈ wsX40, w.before ([.ref (a 0), .int (nI (o)), .int (nI (c)), .int (x)] : List Value).toArray ss = true := fun w h => hts w ((by decide +kernel : ∀ w ∈ wsX40, w ∈ wsX4_sets) w h)
  have hl := lv_entry [.ref (a 0), .int (nI (o)), .int (nI (c)), .int (x)] (n := 7) (Nat.le_of_ble_eq_true rfl)
  rw [lg_entry_eq]
  generalize (lg_sl [.ref (a 0), .int (nI (o)), .int (nI (c)), .int (x)] ++ List.replicate (7 - (lg_sl [.ref (a 0), .int (nI (o)), .int (nI (c)), .int (x)]).length) Slot.unset).toArray = ls at hl ⊢
  have hl : lv_has ls 7 [(0, .ref (a 0)), (1, .int (nI (o))), (2, .int (nI (c))), (3, .int (x))] := hl
  generalize hZ : MQ bel _ _ ss _ _ _ = Z
  refine lv_aload_n hx hb dX4_sets_0 rfl (lv_at hl 0 rfl) ?_
  refine va_get (D := D) (ci := 4) (v := .ref (a 1)) (C := RX4) (T := TX4) (N := 19) (Ts := wsX40) hx hb hin (fun _ h9 => h9) hown hK hP 0 rfl rfl 1 (by decide) (hts (.fieldLink RX4 7 "GroupbooksModel" "held" "[I") (by decide +kernel)) (fun _ h9 => h9) rfl dX4_sets_1 ?_
  refine lv_bipush (v := 6) hx hb dX4_sets_4 (by decide) ?_
  refine lv_iload_n hx hb dX4_sets_6 rfl (lv_at hl 1 rfl) ?_
  refine lv_imul hx hb dX4_sets_7 ?_
  refine b_ti (pk_mul (6) (o)) ?_
  refine lv_iload_n hx hb dX4_sets_8 rfl (lv_at hl 2 rfl) ?_
  refine lv_iadd hx hb dX4_sets_9 ?_
  refine b_ti (nI_add ((6) * (o)) (c)) ?_
  refine b_iald hx hb hK hP 1 0 (f := he) rfl rfl (j := ((6) * (o)) + (c)) (by omega) (by decide) dX4_sets_10 ?_
  refine lv_istore (lv' := [(4, .int (he (((6) * (o)) + (c)))), (0, .ref (a 0)), (1, .int (nI (o))), (2, .int (nI (c))), (3, .int (x))]) hx hb dX4_sets_11 hl (by decide) rfl (fun ls hl => ?_)
  refine lv_aload_n hx hb dX4_sets_13 rfl (lv_at hl 1 rfl) ?_
  refine va_get (D := D) (ci := 4) (v := .ref (a 1)) (C := RX4) (T := TX4) (N := 19) (Ts := wsX40) hx hb hin (fun _ h9 => h9) hown hK hP 0 rfl rfl 1 (by decide) (hts (.fieldLink RX4 7 "GroupbooksModel" "held" "[I") (by decide +kernel)) (fun _ h9 => h9) rfl dX4_sets_14 ?_
  refine lv_bipush (v := 6) hx hb dX4_sets_17 (by decide) ?_
  refine lv_iload_n hx hb dX4_sets_19 rfl (lv_at hl 2 rfl) ?_
  refine lv_imul hx hb dX4_sets_20 ?_
  refine b_ti (pk_mul (6) (o)) ?_
  refine lv_iload_n hx hb dX4_sets_21 rfl (lv_at hl 3 rfl) ?_
  refine lv_iadd hx hb dX4_sets_22 ?_
  refine b_ti (nI_add ((6) * (o)) (c)) ?_
  refine lv_iload_n hx hb dX4_sets_23 rfl (lv_at hl 4 rfl) ?_
  refine b_iast (w' := MW a cI cJ (upd he (((6) * (o)) + (c)) (x)) cm ad gw as de eq re co av hi ke sq ab be nw tn th cd) hx hb hK hP hD hS 1 0 (f := he) rfl rfl (j := ((6) * (o)) + (c)) (by omega) (by decide) rfl dX4_sets_24 (fun H locs hP hD hS => ?_)
  refine lv_iconst (v := 0) hx hb dX4_sets_25 (by decide) ?_
  refine lv_istore (lv' := [(5, .int (0)), (4, .int (he (((6) * (o)) + (c)))), (0, .ref (a 0)), (1, .int (nI (o))), (2, .int (nI (c))), (3, .int (x))]) hx hb dX4_sets_26 hl (by decide) rfl (fun ls hl => ?_)
  refine lv_iconst (v := 0) hx hb dX4_sets_28 (by decide) ?_
  refine lv_istore (lv' := [(6, .int (0)), (5, .int (0)), (4, .int (he (((6) * (o)) + (c)))), (0, .ref (a 0)), (1, .int (nI (o))), (2, .int (nI (c))), (3, .int (x))]) hx hb dX4_sets_29 hl (by decide) rfl (fun ls hl => ?_)
  have L1 : ∀ (n1 k1 : Nat), k1 + n1 = 6 → ∀ (H : Heap) (locs : List Loc) (ls : Array Slot), va_P D vwCl (MW a cI cJ (upd he (((6) * (o)) + (c)) (x)) cm ad gw as de eq re co av hi ke sq ab be nw tn th cd) H → va_D A (MW a cI cJ (upd he (((6) * (o)) + (c)) (x)) cm ad gw as de eq re co av hi ke sq ab be nw tn th cd) → va_S A ss.heap H locs → lv_has ls 7 [(6, .int (nI (k1))), (5, .int (sI (fun o1 => upd he (6 * o + c) x (6 * o1 + c)) (k1))), (4, .int (he (((6) * (o)) + (c)))), (0, .ref (a 0)), (1, .int (nI (o))), (2, .int (nI (c))), (3, .int (x))] → W pp ll ee rmX4_sets_hi ss mm (([.ref (a 0), .int (nI (o)), .int (nI (c)), .int (x)] : List Value).toArray) bel mth cde H locs 0 0 Z (F0 mm 31 ls []) := by
    intro n1
    induction n1 with
    | zero =>
      intro k1 hk1  H locs ls hP hD hS hl
      have hk1b : 6 = k1 := by omega
      subst hk1b
      refine lv_iload hx hb dX4_sets_31 (lv_at hl 0 rfl) ?_
      refine lv_bipush (v := 6) hx hb dX4_sets_33 (by decide) ?_
      refine lv_icmp_ge (tgt := 61) hx hb dX4_sets_35 (by decide) (fun c_1 => ?_) (fun c_1 => ?_)
      · have n_1 : (6) ≤ (6) := (nI_leI (a := 6) (b := 6) (by omega) (by omega)).mp c_1
        refine lv_iload hx hb dX4_sets_61 (lv_at hl 1 rfl) ?_
        refine lv_bipush (v := 100) hx hb dX4_sets_63 (by decide) ?_
        refine lv_icmp_gt (tgt := 79) hx hb dX4_sets_65 (by decide) (fun c_2 => ?_) (fun c_2 => ?_)
        · have n_2 := c_2
          refine lv_iconst (v := 0) hx hb dX4_sets_79 (by decide) ?_
          refine lv_istore (lv' := [(6, .int (0)), (5, .int (sI (fun o1 => upd he (6 * o + c) x (6 * o1 + c)) (6))), (4, .int (he (((6) * (o)) + (c)))), (0, .ref (a 0)), (1, .int (nI (o))), (2, .int (nI (c))), (3, .int (x))]) hx hb dX4_sets_80 hl (by decide) rfl (fun ls hl => ?_)
          refine lv_aload_n hx hb dX4_sets_82 rfl (lv_at hl 3 rfl) ?_
          refine va_get (D := D) (ci := 4) (v := .ref (a 1)) (C := RX4) (T := TX4) (N := 19) (Ts := wsX40) hx hb hin (fun _ h9 => h9) hown hK hP 0 rfl rfl 1 (by decide) (hts (.fieldLink RX4 7 "GroupbooksModel" "held" "[I") (by decide +kernel)) (fun _ h9 => h9) rfl dX4_sets_83 ?_
          refine lv_bipush (v := 6) hx hb dX4_sets_86 (by decide) ?_
          refine lv_iload_n hx hb dX4_sets_88 rfl (lv_at hl 4 rfl) ?_
          refine lv_imul hx hb dX4_sets_89 ?_
          refine b_ti (pk_mul (6) (o)) ?_
          refine lv_iload_n hx hb dX4_sets_90 rfl (lv_at hl 5 rfl) ?_
          refine lv_iadd hx hb dX4_sets_91 ?_
          refine b_ti (nI_add ((6) * (o)) (c)) ?_
          refine lv_iload hx hb dX4_sets_92 (lv_at hl 0 rfl) ?_
          refine lv_if_eq (tgt := 101) hx hb dX4_sets_94 (by decide) (fun c_3 => ?_) (fun c_3 => ?_)
          · have n_3 := c_3
            refine lv_iload hx hb dX4_sets_101 (lv_at hl 2 rfl) ?_
            refine b_iast (w' := MW a cI cJ (upd (upd he (((6) * (o)) + (c)) (x)) (((6) * (o)) + (c)) (he (((6) * (o)) + (c)))) cm ad gw as de eq re co av hi ke sq ab be nw tn th cd) hx hb hK hP hD hS 1 0 (f := (upd he (((6) * (o)) + (c)) (x))) rfl rfl (j := ((6) * (o)) + (c)) (by omega) (by decide) rfl dX4_sets_103 (fun H locs hP hD hS => ?_)
            refine lv_iload hx hb dX4_sets_104 (lv_at hl 0 rfl) ?_
            have e_4 : (he) = (upd (upd he (((6) * (o)) + (c)) (x)) (((6) * (o)) + (c)) (he (((6) * (o)) + (c)))) := by first | exact (upd_back _ _ _).symm | rfl | exact if_pos (by assumption) | exact if_neg (by assumption) | (simp only [n_1, n_2, n_3, Bool.false_eq_true, ↓reduceIte])
            have hP := (congrArg (fun z9 => va_P D vwCl (MW a cI cJ z9 cm ad gw as de eq re co av hi ke sq ab be nw tn th cd) _) e_4).mpr hP
            have hD := (congrArg (fun z9 => va_D A (MW a cI cJ z9 cm ad gw as de eq re co av hi ke sq ab be nw tn th cd)) e_4).mpr hD
            subst hZ; exact W.zret hx hb hr ((by decide)) (fun t ht hW => ⟨⟨_, (), rfl, rfl, (by rw [ht]; exact hP), va_K.moved hW.alike hK, hD⟩, hS.F ht⟩) hS.2.2 dX4_sets_106
          · have n_3 := c_3
            exact absurd c_3 (by decide)
        · have n_2 := c_2
          exact absurd (Int32.not_lt.mp n_2) hs
      · have n_1 : ¬ ((6) ≤ (6)) := fun h => c_1 ((nI_leI (a := 6) (b := 6) (by omega) (by omega)).mpr h)
        exfalso; omega
    | succ n1 ih1 =>
      intro k1 hk1  H locs ls hP hD hS hl
      have hk1b : k1 < 6 := by omega
      refine lv_iload hx hb dX4_sets_31 (lv_at hl 0 rfl) ?_
      refine lv_bipush (v := 6) hx hb dX4_sets_33 (by decide) ?_
      refine lv_icmp_ge (tgt := 61) hx hb dX4_sets_35 (by decide) (fun c_5 => ?_) (fun c_5 => ?_)
      · have n_5 : (6) ≤ (k1) := (nI_leI (a := 6) (b := k1) (by omega) (by omega)).mp c_5
        exfalso; omega
      · have n_5 : ¬ ((6) ≤ (k1)) := fun h => c_5 ((nI_leI (a := 6) (b := k1) (by omega) (by omega)).mpr h)
        refine lv_iload hx hb dX4_sets_38 (lv_at hl 1 rfl) ?_
        refine lv_aload_n hx hb dX4_sets_40 rfl (lv_at hl 3 rfl) ?_
        refine va_get (D := D) (ci := 4) (v := .ref (a 1)) (C := RX4) (T := TX4) (N := 19) (Ts := wsX40) hx hb hin (fun _ h9 => h9) hown hK hP 0 rfl rfl 1 (by decide) (hts (.fieldLink RX4 7 "GroupbooksModel" "held" "[I") (by decide +kernel)) (fun _ h9 => h9) rfl dX4_sets_41 ?_
        refine lv_bipush (v := 6) hx hb dX4_sets_44 (by decide) ?_
        refine lv_iload hx hb dX4_sets_46 (lv_at hl 0 rfl) ?_
        refine lv_imul hx hb dX4_sets_48 ?_
        refine b_ti (pk_mul (6) (k1)) ?_
        refine lv_iload_n hx hb dX4_sets_49 rfl (lv_at hl 5 rfl) ?_
        refine lv_iadd hx hb dX4_sets_50 ?_
        refine b_ti (nI_add ((6) * (k1)) (c)) ?_
        refine b_iald hx hb hK hP 1 0 (f := (upd he (((6) * (o)) + (c)) (x))) rfl rfl (j := ((6) * (k1)) + (c)) (by omega) (by decide) dX4_sets_51 ?_
        refine lv_iadd hx hb dX4_sets_52 ?_
        refine lv_istore (lv' := [(5, .int ((sI (fun o1 => upd he (6 * o + c) x (6 * o1 + c)) (k1)) + ((upd he (((6) * (o)) + (c)) (x)) (((6) * (k1)) + (c))))), (6, .int (nI (k1))), (4, .int (he (((6) * (o)) + (c)))), (0, .ref (a 0)), (1, .int (nI (o))), (2, .int (nI (c))), (3, .int (x))]) hx hb dX4_sets_53 hl (by decide) rfl (fun ls hl => ?_)
        refine lv_iinc (v := nI (k1 + 1)) (lv' := [(6, .int (nI (k1 + 1))), (5, .int ((sI (fun o1 => upd he (6 * o + c) x (6 * o1 + c)) (k1)) + ((upd he (((6) * (o)) + (c)) (x)) (((6) * (k1)) + (c))))), (4, .int (he (((6) * (o)) + (c)))), (0, .ref (a 0)), (1, .int (nI (o))), (2, .int (nI (c))), (3, .int (x))]) hx hb dX4_sets_55 hl (k := 1) rfl (nI_1 (k1)) (by decide) rfl (fun ls hl => ?_)
        refine lv_goto (tgt := 31) hx hb dX4_sets_58 (by decide) ?_
        have e_6 : (sI (fun o1 => upd he (6 * o + c) x (6 * o1 + c)) (k1 + 1)) = ((sI (fun o1 => upd he (6 * o + c) x (6 * o1 + c)) (k1)) + ((upd he (((6) * (o)) + (c)) (x)) (((6) * (k1)) + (c)))) := by first | rfl | exact if_pos (by assumption) | exact if_neg (by assumption) | (simp only [n_5, Bool.false_eq_true, ↓reduceIte])
        exact ih1 (k1 + 1) (by omega) _ _ ls hP hD hS (by rw [e_6]; exact lv_sub hl [0, 1, 2, 3, 4, 5, 6] rfl)
  exact L1 (6) 0 (by omega) _ _ ls hP hD hS (lv_sub hl [0, 1, 2, 3, 4, 5, 6] rfl)

abbrev rmX4_sets_no : Room := ({ frames := 3, cells := 0, slots := 0, locals := 80 } : Room)
set_option maxHeartbeats 4000000 in
set_option maxRecDepth 100000 in
theorem c_X4_sets_no (ll : Launch) (D : va_G) (a : Nat → Nat) (cI cJ : ClassId) (sz : Nat) (he cm ad gw as de eq re co av hi ke : Nat → Int32) (sq ab be : Nat → Int64) (nw tn : Nat → Int32) (th cd : Int32) (o c : Nat) (x : Int32) (ho : o < 6) (hc : c < 6) (hs : smH he o c x ≤ 100) (hW : dW (upd he (6 * o + c) x) 0 = 0) : Met ll yX4_sets wsX4_sets rmX4_sets_no (va_Pc [.ref (a 0), .int (nI (o)), .int (nI (c)), .int (x)] (PW D (tyG cI cJ) (MW a cI cJ he cm ad gw as de eq re co av hi ke sq ab be nw tn th cd) sz)) (va_Qi (fun (rr : Int32) (u : (Nat → Int64) × (Nat → Int64) × (Nat → Int64)) => rr = 0) (fun (u : (Nat → Int64) × (Nat → Int64) × (Nat → Int64)) t => AW D (tyG cI cJ) (va_A (MW a cI cJ he cm ad gw as de eq re co av hi ke sq ab be nw tn th cd) sz) (MW a cI cJ he cm ad gw as de eq re co av hi ke (u.1) (u.2.1) (u.2.2) nw tn th cd) t) (va_A (MW a cI cJ he cm ad gw as de eq re co av hi ke sq ab be nw tn th cd) sz)) 0 0 (va_A (MW a cI cJ he cm ad gw as de eq re co av hi ke sq ab be nw tn th cd) sz) := by
  refine Met.ofW (cc := cX4_sets) (maxL := 7) (ret := (some .boolean)) (by decide) rfl ?_
  intro pp ee ss mm ar bel mth cde s₁ B hml hv
  obtain ⟨rfl, hsz, hP, hK, hD0, hE⟩ := hv
  have hx := B.exec
  have hb := B.bytes
  have hr := B.returns
  have hts := atoms_spec (ws := wsX4_sets) B.pre
  have hown : ss.vm.findClass RX4 = some mm.cls := findClass_of_methodNamed B.named
  have hlocks := B.notSynchronized
  subst hsz
  have hD := hD0.self (sz := ss.heap.size)
  generalize hAe : va_A (MW a cI cJ he cm ad gw as de eq re co av hi ke sq ab be nw tn th cd) ss.heap.size = A at hD ⊢
  have hA : ∀ q : Nat, ss.heap.size ≤ q → A q := fun q h => by rw [← hAe]; exact Or.inr h
  have hS : va_S A ss.heap ss.heap [] := va_S.rf
  have hin : ∀ w ∈ wsX40, w.before ([.ref (a 0), .int (nI (o)), .int (nI (c)), .int (x)] : List Value).toArray ss = true := fun w h => hts w ((by decide +kernel : ∀ w ∈ wsX40, w ∈ wsX4_sets) w h)
  have hl := lv_entry [.ref (a 0), .int (nI (o)), .int (nI (c)), .int (x)] (n := 7) (Nat.le_of_ble_eq_true rfl)
  rw [lg_entry_eq]
  generalize (lg_sl [.ref (a 0), .int (nI (o)), .int (nI (c)), .int (x)] ++ List.replicate (7 - (lg_sl [.ref (a 0), .int (nI (o)), .int (nI (c)), .int (x)]).length) Slot.unset).toArray = ls at hl ⊢
  have hl : lv_has ls 7 [(0, .ref (a 0)), (1, .int (nI (o))), (2, .int (nI (c))), (3, .int (x))] := hl
  generalize hZ : MQ bel _ _ ss _ _ _ = Z
  refine lv_aload_n hx hb dX4_sets_0 rfl (lv_at hl 0 rfl) ?_
  refine va_get (D := D) (ci := 4) (v := .ref (a 1)) (C := RX4) (T := TX4) (N := 19) (Ts := wsX40) hx hb hin (fun _ h9 => h9) hown hK hP 0 rfl rfl 1 (by decide) (hts (.fieldLink RX4 7 "GroupbooksModel" "held" "[I") (by decide +kernel)) (fun _ h9 => h9) rfl dX4_sets_1 ?_
  refine lv_bipush (v := 6) hx hb dX4_sets_4 (by decide) ?_
  refine lv_iload_n hx hb dX4_sets_6 rfl (lv_at hl 1 rfl) ?_
  refine lv_imul hx hb dX4_sets_7 ?_
  refine b_ti (pk_mul (6) (o)) ?_
  refine lv_iload_n hx hb dX4_sets_8 rfl (lv_at hl 2 rfl) ?_
  refine lv_iadd hx hb dX4_sets_9 ?_
  refine b_ti (nI_add ((6) * (o)) (c)) ?_
  refine b_iald hx hb hK hP 1 0 (f := he) rfl rfl (j := ((6) * (o)) + (c)) (by omega) (by decide) dX4_sets_10 ?_
  refine lv_istore (lv' := [(4, .int (he (((6) * (o)) + (c)))), (0, .ref (a 0)), (1, .int (nI (o))), (2, .int (nI (c))), (3, .int (x))]) hx hb dX4_sets_11 hl (by decide) rfl (fun ls hl => ?_)
  refine lv_aload_n hx hb dX4_sets_13 rfl (lv_at hl 1 rfl) ?_
  refine va_get (D := D) (ci := 4) (v := .ref (a 1)) (C := RX4) (T := TX4) (N := 19) (Ts := wsX40) hx hb hin (fun _ h9 => h9) hown hK hP 0 rfl rfl 1 (by decide) (hts (.fieldLink RX4 7 "GroupbooksModel" "held" "[I") (by decide +kernel)) (fun _ h9 => h9) rfl dX4_sets_14 ?_
  refine lv_bipush (v := 6) hx hb dX4_sets_17 (by decide) ?_
  refine lv_iload_n hx hb dX4_sets_19 rfl (lv_at hl 2 rfl) ?_
  refine lv_imul hx hb dX4_sets_20 ?_
  refine b_ti (pk_mul (6) (o)) ?_
  refine lv_iload_n hx hb dX4_sets_21 rfl (lv_at hl 3 rfl) ?_
  refine lv_iadd hx hb dX4_sets_22 ?_
  refine b_ti (nI_add ((6) * (o)) (c)) ?_
  refine lv_iload_n hx hb dX4_sets_23 rfl (lv_at hl 4 rfl) ?_
  refine b_iast (w' := MW a cI cJ (upd he (((6) * (o)) + (c)) (x)) cm ad gw as de eq re co av hi ke sq ab be nw tn th cd) hx hb hK hP hD hS 1 0 (f := he) rfl rfl (j := ((6) * (o)) + (c)) (by omega) (by decide) rfl dX4_sets_24 (fun H locs hP hD hS => ?_)
  refine lv_iconst (v := 0) hx hb dX4_sets_25 (by decide) ?_
  refine lv_istore (lv' := [(5, .int (0)), (4, .int (he (((6) * (o)) + (c)))), (0, .ref (a 0)), (1, .int (nI (o))), (2, .int (nI (c))), (3, .int (x))]) hx hb dX4_sets_26 hl (by decide) rfl (fun ls hl => ?_)
  refine lv_iconst (v := 0) hx hb dX4_sets_28 (by decide) ?_
  refine lv_istore (lv' := [(6, .int (0)), (5, .int (0)), (4, .int (he (((6) * (o)) + (c)))), (0, .ref (a 0)), (1, .int (nI (o))), (2, .int (nI (c))), (3, .int (x))]) hx hb dX4_sets_29 hl (by decide) rfl (fun ls hl => ?_)
  have L1 : ∀ (n1 k1 : Nat), k1 + n1 = 6 → ∀ (H : Heap) (locs : List Loc) (ls : Array Slot), va_P D vwCl (MW a cI cJ (upd he (((6) * (o)) + (c)) (x)) cm ad gw as de eq re co av hi ke sq ab be nw tn th cd) H → va_D A (MW a cI cJ (upd he (((6) * (o)) + (c)) (x)) cm ad gw as de eq re co av hi ke sq ab be nw tn th cd) → va_S A ss.heap H locs → lv_has ls 7 [(6, .int (nI (k1))), (5, .int (sI (fun o1 => upd he (6 * o + c) x (6 * o1 + c)) (k1))), (4, .int (he (((6) * (o)) + (c)))), (0, .ref (a 0)), (1, .int (nI (o))), (2, .int (nI (c))), (3, .int (x))] → W pp ll ee rmX4_sets_no ss mm (([.ref (a 0), .int (nI (o)), .int (nI (c)), .int (x)] : List Value).toArray) bel mth cde H locs 0 0 Z (F0 mm 31 ls []) := by
    intro n1
    induction n1 with
    | zero =>
      intro k1 hk1  H locs ls hP hD hS hl
      have hk1b : 6 = k1 := by omega
      subst hk1b
      refine lv_iload hx hb dX4_sets_31 (lv_at hl 0 rfl) ?_
      refine lv_bipush (v := 6) hx hb dX4_sets_33 (by decide) ?_
      refine lv_icmp_ge (tgt := 61) hx hb dX4_sets_35 (by decide) (fun c_1 => ?_) (fun c_1 => ?_)
      · have n_1 : (6) ≤ (6) := (nI_leI (a := 6) (b := 6) (by omega) (by omega)).mp c_1
        refine lv_iload hx hb dX4_sets_61 (lv_at hl 1 rfl) ?_
        refine lv_bipush (v := 100) hx hb dX4_sets_63 (by decide) ?_
        refine lv_icmp_gt (tgt := 79) hx hb dX4_sets_65 (by decide) (fun c_2 => ?_) (fun c_2 => ?_)
        · have n_2 := c_2
          exact absurd hs (Int32.not_le.mpr n_2)
        · have n_2 := c_2
          refine lv_aload_n hx hb dX4_sets_68 rfl (lv_at hl 3 rfl) ?_
          refine b_calli0 (S := Nat → Int64) (w' := fun u_3 => MW a cI cJ (upd he (((6) * (o)) + (c)) (x)) cm ad gw as de eq re co av hi ke u_3 (vp_updL ab 0 1) (vp_updL be 0 1) nw tn th cd) hP hD hS hA (va_runV (As := []) (rest := []) ⟨hx, hb, hml, hown, hts⟩ (c_X4_layShares_no ll D a cI cJ _ (upd he (((6) * (o)) + (c)) (x)) cm ad gw as de eq re co av hi ke sq ab be nw tn th cd  hW) (cwV 0 hts gX4_sets_X4_layShares rfl rfl rfl (by decide +kernel) ⟨Nat.le_of_ble_eq_true rfl, Nat.le_of_ble_eq_true rfl⟩) ⟨PW.blind, va_recv hK hP (ci := 4) (q0 := 0) rfl rfl, PW.go hP hK hD hE⟩ rfl rfl hl.1 rfl (lv_room (Nat.le_of_ble_eq_true rfl)) dX4_sets_69 ⟨Nat.le_of_ble_eq_true rfl, Nat.le_of_ble_eq_true rfl⟩) (fun r_5 u_3 H locs h_4 hP hD hS => ?_)
          obtain rfl : r_5 = 0 := h_4
          refine lv_if_eq (tgt := 79) hx hb dX4_sets_72 (by decide) (fun c_6 => ?_) (fun c_6 => ?_)
          · have n_6 := c_6
            refine lv_iconst (v := 0) hx hb dX4_sets_79 (by decide) ?_
            refine lv_istore (lv' := [(6, .int (0)), (5, .int (sI (fun o1 => upd he (6 * o + c) x (6 * o1 + c)) (6))), (4, .int (he (((6) * (o)) + (c)))), (0, .ref (a 0)), (1, .int (nI (o))), (2, .int (nI (c))), (3, .int (x))]) hx hb dX4_sets_80 hl (by decide) rfl (fun ls hl => ?_)
            refine lv_aload_n hx hb dX4_sets_82 rfl (lv_at hl 3 rfl) ?_
            refine va_get (D := D) (ci := 4) (v := .ref (a 1)) (C := RX4) (T := TX4) (N := 19) (Ts := wsX40) hx hb hin (fun _ h9 => h9) hown hK hP 0 rfl rfl 1 (by decide) (hts (.fieldLink RX4 7 "GroupbooksModel" "held" "[I") (by decide +kernel)) (fun _ h9 => h9) rfl dX4_sets_83 ?_
            refine lv_bipush (v := 6) hx hb dX4_sets_86 (by decide) ?_
            refine lv_iload_n hx hb dX4_sets_88 rfl (lv_at hl 4 rfl) ?_
            refine lv_imul hx hb dX4_sets_89 ?_
            refine b_ti (pk_mul (6) (o)) ?_
            refine lv_iload_n hx hb dX4_sets_90 rfl (lv_at hl 5 rfl) ?_
            refine lv_iadd hx hb dX4_sets_91 ?_
            refine b_ti (nI_add ((6) * (o)) (c)) ?_
            refine lv_iload hx hb dX4_sets_92 (lv_at hl 0 rfl) ?_
            refine lv_if_eq (tgt := 101) hx hb dX4_sets_94 (by decide) (fun c_7 => ?_) (fun c_7 => ?_)
            · have n_7 := c_7
              refine lv_iload hx hb dX4_sets_101 (lv_at hl 2 rfl) ?_
              refine b_iast (w' := MW a cI cJ (upd (upd he (((6) * (o)) + (c)) (x)) (((6) * (o)) + (c)) (he (((6) * (o)) + (c)))) cm ad gw as de eq re co av hi ke u_3 (vp_updL ab 0 1) (vp_updL be 0 1) nw tn th cd) hx hb hK hP hD hS 1 0 (f := (upd he (((6) * (o)) + (c)) (x))) rfl rfl (j := ((6) * (o)) + (c)) (by omega) (by decide) rfl dX4_sets_103 (fun H locs hP hD hS => ?_)
              refine lv_iload hx hb dX4_sets_104 (lv_at hl 0 rfl) ?_
              have e_8 : (he) = (upd (upd he (((6) * (o)) + (c)) (x)) (((6) * (o)) + (c)) (he (((6) * (o)) + (c)))) := by first | exact (upd_back _ _ _).symm | rfl | exact if_pos (by assumption) | exact if_neg (by assumption) | (simp only [n_1, n_2, n_6, n_7, Bool.false_eq_true, ↓reduceIte])
              have hP := (congrArg (fun z9 => va_P D vwCl (MW a cI cJ z9 cm ad gw as de eq re co av hi ke u_3 (vp_updL ab 0 1) (vp_updL be 0 1) nw tn th cd) _) e_8).mpr hP
              have hD := (congrArg (fun z9 => va_D A (MW a cI cJ z9 cm ad gw as de eq re co av hi ke u_3 (vp_updL ab 0 1) (vp_updL be 0 1) nw tn th cd)) e_8).mpr hD
              subst hZ
              refine W.zret hx hb hr (by decide) (fun t ht hW => ?_) hS.2.2 dX4_sets_106
              refine ⟨⟨_, (u_3, vp_updL ab 0 1, vp_updL be 0 1), rfl, ?_, ?_, va_K.moved hW.alike hK, ?_⟩, hS.F ht⟩
              · try dsimp only
                all_goals exact rfl
              · rw [ht]
                try dsimp only
                exact hP
              · try dsimp only
                exact hD
            · have n_7 := c_7
              exact absurd c_7 (by decide)
          · have n_6 := c_6
            exact absurd c_6 (by decide)
      · have n_1 : ¬ ((6) ≤ (6)) := fun h => c_1 ((nI_leI (a := 6) (b := 6) (by omega) (by omega)).mpr h)
        exfalso; omega
    | succ n1 ih1 =>
      intro k1 hk1  H locs ls hP hD hS hl
      have hk1b : k1 < 6 := by omega
      refine lv_iload hx hb dX4_sets_31 (lv_at hl 0 rfl) ?_
      refine lv_bipush (v := 6) hx hb dX4_sets_33 (by decide) ?_
      refine lv_icmp_ge (tgt := 61) hx hb dX4_sets_35 (by decide) (fun c_9 => ?_) (fun c_9 => ?_)
      · have n_9 : (6) ≤ (k1) := (nI_leI (a := 6) (b := k1) (by omega) (by omega)).mp c_9
        exfalso; omega
      · have n_9 : ¬ ((6) ≤ (k1)) := fun h => c_9 ((nI_leI (a := 6) (b := k1) (by omega) (by omega)).mpr h)
        refine lv_iload hx hb dX4_sets_38 (lv_at hl 1 rfl) ?_
        refine lv_aload_n hx hb dX4_sets_40 rfl (lv_at hl 3 rfl) ?_
        refine va_get (D := D) (ci := 4) (v := .ref (a 1)) (C := RX4) (T := TX4) (N := 19) (Ts := wsX40) hx hb hin (fun _ h9 => h9) hown hK hP 0 rfl rfl 1 (by decide) (hts (.fieldLink RX4 7 "GroupbooksModel" "held" "[I") (by decide +kernel)) (fun _ h9 => h9) rfl dX4_sets_41 ?_
        refine lv_bipush (v := 6) hx hb dX4_sets_44 (by decide) ?_
        refine lv_iload hx hb dX4_sets_46 (lv_at hl 0 rfl) ?_
        refine lv_imul hx hb dX4_sets_48 ?_
        refine b_ti (pk_mul (6) (k1)) ?_
        refine lv_iload_n hx hb dX4_sets_49 rfl (lv_at hl 5 rfl) ?_
        refine lv_iadd hx hb dX4_sets_50 ?_
        refine b_ti (nI_add ((6) * (k1)) (c)) ?_
        refine b_iald hx hb hK hP 1 0 (f := (upd he (((6) * (o)) + (c)) (x))) rfl rfl (j := ((6) * (k1)) + (c)) (by omega) (by decide) dX4_sets_51 ?_
        refine lv_iadd hx hb dX4_sets_52 ?_
        refine lv_istore (lv' := [(5, .int ((sI (fun o1 => upd he (6 * o + c) x (6 * o1 + c)) (k1)) + ((upd he (((6) * (o)) + (c)) (x)) (((6) * (k1)) + (c))))), (6, .int (nI (k1))), (4, .int (he (((6) * (o)) + (c)))), (0, .ref (a 0)), (1, .int (nI (o))), (2, .int (nI (c))), (3, .int (x))]) hx hb dX4_sets_53 hl (by decide) rfl (fun ls hl => ?_)
        refine lv_iinc (v := nI (k1 + 1)) (lv' := [(6, .int (nI (k1 + 1))), (5, .int ((sI (fun o1 => upd he (6 * o + c) x (6 * o1 + c)) (k1)) + ((upd he (((6) * (o)) + (c)) (x)) (((6) * (k1)) + (c))))), (4, .int (he (((6) * (o)) + (c)))), (0, .ref (a 0)), (1, .int (nI (o))), (2, .int (nI (c))), (3, .int (x))]) hx hb dX4_sets_55 hl (k := 1) rfl (nI_1 (k1)) (by decide) rfl (fun ls hl => ?_)
        refine lv_goto (tgt := 31) hx hb dX4_sets_58 (by decide) ?_
        have e_10 : (sI (fun o1 => upd he (6 * o + c) x (6 * o1 + c)) (k1 + 1)) = ((sI (fun o1 => upd he (6 * o + c) x (6 * o1 + c)) (k1)) + ((upd he (((6) * (o)) + (c)) (x)) (((6) * (k1)) + (c)))) := by first | rfl | exact if_pos (by assumption) | exact if_neg (by assumption) | (simp only [n_9, Bool.false_eq_true, ↓reduceIte])
        exact ih1 (k1 + 1) (by omega) _ _ ls hP hD hS (by rw [e_10]; exact lv_sub hl [0, 1, 2, 3, 4, 5, 6] rfl)
  exact L1 (6) 0 (by omega) _ _ ls hP hD hS (lv_sub hl [0, 1, 2, 3, 4, 5, 6] rfl)

abbrev rmX4_hold : Room := ({ frames := 4, cells := 0, slots := 0, locals := 106 } : Room)
set_option maxHeartbeats 4000000 in
set_option maxRecDepth 100000 in
theorem c_X4_hold (ll : Launch) (D : va_G) (a : Nat → Nat) (cI cJ : ClassId) (sz : Nat) (he cm ad gw as de eq re co av hi ke : Nat → Int32) (sq ab be : Nat → Int64) (nw tn : Nat → Int32) (th cd : Int32) (o c : Nat) (x : Int32) (ho : o < 6) (hc : c < 6) (hpr : prB (nI o) (nI c) = true) (hqx : inB x 0 100 = true) (hs : smH he o c x ≤ 100) (hB : okB (upd he (6 * o + c) x)) (hW : ¬ dW (upd he (6 * o + c) x) 0 = 0) : Met ll yX4_hold wsX4_hold rmX4_hold (va_Pc [.ref (a 0), .int (nI (o)), .int (nI (c)), .int (x)] (PW D (tyG cI cJ) (MW a cI cJ he cm ad gw as de eq re co av hi ke sq ab be nw tn th cd) sz)) (va_Qi (fun (rr : Int32) (u : (Nat → Int64) × (Nat → Int64) × (Nat → Int64)) => rr = he (6 * o + c)) (fun (u : (Nat → Int64) × (Nat → Int64) × (Nat → Int64)) t => AW D (tyG cI cJ) (va_A (MW a cI cJ he cm ad gw as de eq re co av hi ke sq ab be nw tn th cd) sz) (MW a cI cJ (upd he (6 * o + c) x) cm ad gw as de eq re co av hi ke (u.1) (u.2.1) (u.2.2) nw tn 0 cd) t) (va_A (MW a cI cJ he cm ad gw as de eq re co av hi ke sq ab be nw tn th cd) sz)) 0 0 (va_A (MW a cI cJ he cm ad gw as de eq re co av hi ke sq ab be nw tn th cd) sz) := by
  refine Met.ofW (cc := cX4_hold) (maxL := 5) (ret := (some .int)) (by decide) rfl ?_
  intro pp ee ss mm ar bel mth cde s₁ B hml hv
  obtain ⟨rfl, hsz, hP, hK, hD0, hE⟩ := hv
  have hx := B.exec
  have hb := B.bytes
  have hr := B.returns
  have hts := atoms_spec (ws := wsX4_hold) B.pre
  have hown : ss.vm.findClass RX4 = some mm.cls := findClass_of_methodNamed B.named
  have hlocks := B.notSynchronized
  subst hsz
  have hD := hD0.self (sz := ss.heap.size)
  generalize hAe : va_A (MW a cI cJ he cm ad gw as de eq re co av hi ke sq ab be nw tn th cd) ss.heap.size = A at hD ⊢
  have hA : ∀ q : Nat, ss.heap.size ≤ q → A q := fun q h => by rw [← hAe]; exact Or.inr h
  have hS : va_S A ss.heap ss.heap [] := va_S.rf
  have hin : ∀ w ∈ wsX40, w.before ([.ref (a 0), .int (nI (o)), .int (nI (c)), .int (x)] : List Value).toArray ss = true := fun w h => hts w ((by decide +kernel : ∀ w ∈ wsX40, w ∈ wsX4_hold) w h)
  have hl := lv_entry [.ref (a 0), .int (nI (o)), .int (nI (c)), .int (x)] (n := 5) (Nat.le_of_ble_eq_true rfl)
  rw [lg_entry_eq]
  generalize (lg_sl [.ref (a 0), .int (nI (o)), .int (nI (c)), .int (x)] ++ List.replicate (5 - (lg_sl [.ref (a 0), .int (nI (o)), .int (nI (c)), .int (x)]).length) Slot.unset).toArray = ls at hl ⊢
  have hl : lv_has ls 5 [(0, .ref (a 0)), (1, .int (nI (o))), (2, .int (nI (c))), (3, .int (x))] := hl
  refine lv_aload_n hx hb dX4_hold_0 rfl (lv_at hl 0 rfl) ?_
  refine lv_iconst (v := 0) hx hb dX4_hold_1 (by decide) ?_
  refine va_put (D := D) (ci := 4) (v := .int (0)) (ty := .int) (C := RX4) (T := TX4) (N := 19) (Ts := wsX40) hx hb hin (fun _ h9 => h9) tyX4 tyX4_ok nmX4 hown hK hP hD hS 0 rfl rfl 0 (by decide) (hts (.fieldLink RX4 62 "GroupbooksModel" "thrown" "I") (by decide +kernel)) (fun _ h9 => h9) rfl (by decide +kernel) rfl rfl (Nat.le_of_ble_eq_true rfl) dX4_hold_2 (fun H locs hP hD hS => ?_)
  have hP : va_P D vwCl (MW a cI cJ he cm ad gw as de eq re co av hi ke sq ab be nw tn 0 cd) H := hP
  have hD : va_D A (MW a cI cJ he cm ad gw as de eq re co av hi ke sq ab be nw tn 0 cd) := hD
  refine lv_iload_n hx hb dX4_hold_5 rfl (lv_at hl 1 rfl) ?_
  refine lv_iload_n hx hb dX4_hold_6 rfl (lv_at hl 2 rfl) ?_
  refine b_csi (v := bI (prB (nI (o)) (nI (c)))) (W.runS (As := [.int (nI (o)), .int (nI (c))]) (rest := []) ⟨hx, hb, hml, hown, hts⟩ (c_X4_isPair ll (nI (o)) (nI (c)) ) (va_cwS 2 hts gX4_hold_X4_isPair rfl rfl rfl (by decide +kernel) ⟨Nat.le_of_ble_eq_true rfl, Nat.le_of_ble_eq_true rfl⟩) ⟨PT.blind, PT.to⟩ rfl rfl hl.1 rfl (lv_room (Nat.le_of_ble_eq_true rfl)) dX4_hold_7 ⟨Nat.le_of_ble_eq_true rfl, Nat.le_of_ble_eq_true rfl⟩) ?_
  refine lv_if_eq (tgt := 23) hx hb dX4_hold_10 (by decide) (fun c_1 => ?_) (fun c_1 => ?_)
  · have n_1 : ¬ (prB (nI (o)) (nI (c))) = true := bI0 c_1
    exact absurd hpr n_1
  · have n_1 : (prB (nI (o)) (nI (c))) = true := bI1 c_1
    refine lv_iload_n hx hb dX4_hold_13 rfl (lv_at hl 3 rfl) ?_
    refine lv_iconst (v := 0) hx hb dX4_hold_14 (by decide) ?_
    refine lv_bipush (v := 100) hx hb dX4_hold_15 (by decide) ?_
    refine b_csi (v := bI (inB x 0 100)) (W.runS (As := [.int (x), .int (0), .int (100)]) (rest := []) ⟨hx, hb, hml, hown, hts⟩ (c_X4_in ll x 0 100 ) (va_cwS 3 hts gX4_hold_X4_in rfl rfl rfl (by decide +kernel) ⟨Nat.le_of_ble_eq_true rfl, Nat.le_of_ble_eq_true rfl⟩) ⟨PT.blind, PT.to⟩ rfl rfl hl.1 rfl (lv_room (Nat.le_of_ble_eq_true rfl)) dX4_hold_17 ⟨Nat.le_of_ble_eq_true rfl, Nat.le_of_ble_eq_true rfl⟩) ?_
    refine lv_if_ne (tgt := 29) hx hb dX4_hold_20 (by decide) (fun c_2 => ?_) (fun c_2 => ?_)
    · have n_2 : (inB x 0 100) = true := bI1 c_2
      refine lv_aload_n hx hb dX4_hold_29 rfl (lv_at hl 0 rfl) ?_
      refine va_get (D := D) (ci := 4) (v := .ref (a 1)) (C := RX4) (T := TX4) (N := 19) (Ts := wsX40) hx hb hin (fun _ h9 => h9) hown hK hP 0 rfl rfl 1 (by decide) (hts (.fieldLink RX4 7 "GroupbooksModel" "held" "[I") (by decide +kernel)) (fun _ h9 => h9) rfl dX4_hold_30 ?_
      refine lv_bipush (v := 6) hx hb dX4_hold_33 (by decide) ?_
      refine lv_iload_n hx hb dX4_hold_35 rfl (lv_at hl 1 rfl) ?_
      refine lv_imul hx hb dX4_hold_36 ?_
      refine b_ti (pk_mul (6) (o)) ?_
      refine lv_iload_n hx hb dX4_hold_37 rfl (lv_at hl 2 rfl) ?_
      refine lv_iadd hx hb dX4_hold_38 ?_
      refine b_ti (nI_add ((6) * (o)) (c)) ?_
      refine b_iald hx hb hK hP 1 0 (f := he) rfl rfl (j := ((6) * (o)) + (c)) (by omega) (by decide) dX4_hold_39 ?_
      refine lv_istore (lv' := [(4, .int (he (((6) * (o)) + (c)))), (0, .ref (a 0)), (1, .int (nI (o))), (2, .int (nI (c))), (3, .int (x))]) hx hb dX4_hold_40 hl (by decide) rfl (fun ls hl => ?_)
      refine lv_aload_n hx hb dX4_hold_42 rfl (lv_at hl 1 rfl) ?_
      refine lv_iload_n hx hb dX4_hold_43 rfl (lv_at hl 2 rfl) ?_
      refine lv_iload_n hx hb dX4_hold_44 rfl (lv_at hl 3 rfl) ?_
      refine lv_iload_n hx hb dX4_hold_45 rfl (lv_at hl 4 rfl) ?_
      refine b_calli0 (S := (Nat → Int64) × (Nat → Int64) × (Nat → Int64)) (w' := fun u_3 => MW a cI cJ (upd he (6 * o + c) x) cm ad gw as de eq re co av hi ke (u_3.1) (u_3.2.1) (u_3.2.2) nw tn 0 cd) hP hD hS hA (va_runV (As := [.int (nI (o)), .int (nI (c)), .int (x)]) (rest := []) ⟨hx, hb, hml, hown, hts⟩ (c_X4_sets ll D a cI cJ _ he cm ad gw as de eq re co av hi ke sq ab be nw tn 0 cd o c x ho hc hs hB hW) (cwV 3 hts gX4_hold_X4_sets rfl rfl rfl (by decide +kernel) ⟨Nat.le_of_ble_eq_true rfl, Nat.le_of_ble_eq_true rfl⟩) ⟨PW.blind, va_recv hK hP (ci := 4) (q0 := 0) rfl rfl, PW.go hP hK hD hE⟩ rfl rfl hl.1 rfl (lv_room (Nat.le_of_ble_eq_true rfl)) dX4_hold_46 ⟨Nat.le_of_ble_eq_true rfl, Nat.le_of_ble_eq_true rfl⟩) (fun r_5 u_3 H locs h_4 hP hD hS => ?_)
      obtain rfl : r_5 = 1 := h_4
      refine lv_if_eq (tgt := 57) hx hb dX4_hold_49 (by decide) (fun c_6 => ?_) (fun c_6 => ?_)
      · have n_6 := c_6
        exact absurd c_6 (by decide)
      · have n_6 := c_6
        refine lv_iload hx hb dX4_hold_52 (lv_at hl 0 rfl) ?_
        refine lv_goto (tgt := 62) hx hb dX4_hold_54 (by decide) ?_
        refine W.iret hx hb hr (fun t ht hW => ?_) hS.2.2 dX4_hold_62
        refine ⟨⟨_, (u_3.1, u_3.2.1, u_3.2.2), rfl, ?_, ?_, va_K.moved hW.alike hK, ?_⟩, hS.F ht⟩
        · try dsimp only
          all_goals exact rfl
        · rw [ht]
          try dsimp only
          exact hP
        · try dsimp only
          exact hD
    · have n_2 : ¬ (inB x 0 100) = true := bI0 c_2
      exact absurd hqx n_2

abbrev rmX4_hold_hi : Room := ({ frames := 3, cells := 0, slots := 0, locals := 63 } : Room)
set_option maxHeartbeats 4000000 in
set_option maxRecDepth 100000 in
theorem c_X4_hold_hi (ll : Launch) (D : va_G) (a : Nat → Nat) (cI cJ : ClassId) (sz : Nat) (he cm ad gw as de eq re co av hi ke : Nat → Int32) (sq ab be : Nat → Int64) (nw tn : Nat → Int32) (th cd : Int32) (o c : Nat) (x : Int32) (ho : o < 6) (hc : c < 6) (hpr : prB (nI o) (nI c) = true) (hqx : inB x 0 100 = true) (hs : ¬ smH he o c x ≤ 100) : Met ll yX4_hold wsX4_hold rmX4_hold_hi (va_Pc [.ref (a 0), .int (nI (o)), .int (nI (c)), .int (x)] (PW D (tyG cI cJ) (MW a cI cJ he cm ad gw as de eq re co av hi ke sq ab be nw tn th cd) sz)) (va_Qi (fun (rr : Int32) (u : Unit) => rr = 0) (fun (u : Unit) t => AW D (tyG cI cJ) (va_A (MW a cI cJ he cm ad gw as de eq re co av hi ke sq ab be nw tn th cd) sz) (MW a cI cJ he cm ad gw as de eq re co av hi ke sq ab be nw tn 2 cd) t) (va_A (MW a cI cJ he cm ad gw as de eq re co av hi ke sq ab be nw tn th cd) sz)) 0 0 (va_A (MW a cI cJ he cm ad gw as de eq re co av hi ke sq ab be nw tn th cd) sz) := by
  refine Met.ofW (cc := cX4_hold) (maxL := 5) (ret := (some .int)) (by decide) rfl ?_
  intro pp ee ss mm ar bel mth cde s₁ B hml hv
  obtain ⟨rfl, hsz, hP, hK, hD0, hE⟩ := hv
  have hx := B.exec
  have hb := B.bytes
  have hr := B.returns
  have hts := atoms_spec (ws := wsX4_hold) B.pre
  have hown : ss.vm.findClass RX4 = some mm.cls := findClass_of_methodNamed B.named
  have hlocks := B.notSynchronized
  subst hsz
  have hD := hD0.self (sz := ss.heap.size)
  generalize hAe : va_A (MW a cI cJ he cm ad gw as de eq re co av hi ke sq ab be nw tn th cd) ss.heap.size = A at hD ⊢
  have hA : ∀ q : Nat, ss.heap.size ≤ q → A q := fun q h => by rw [← hAe]; exact Or.inr h
  have hS : va_S A ss.heap ss.heap [] := va_S.rf
  have hin : ∀ w ∈ wsX40, w.before ([.ref (a 0), .int (nI (o)), .int (nI (c)), .int (x)] : List Value).toArray ss = true := fun w h => hts w ((by decide +kernel : ∀ w ∈ wsX40, w ∈ wsX4_hold) w h)
  have hl := lv_entry [.ref (a 0), .int (nI (o)), .int (nI (c)), .int (x)] (n := 5) (Nat.le_of_ble_eq_true rfl)
  rw [lg_entry_eq]
  generalize (lg_sl [.ref (a 0), .int (nI (o)), .int (nI (c)), .int (x)] ++ List.replicate (5 - (lg_sl [.ref (a 0), .int (nI (o)), .int (nI (c)), .int (x)]).length) Slot.unset).toArray = ls at hl ⊢
  have hl : lv_has ls 5 [(0, .ref (a 0)), (1, .int (nI (o))), (2, .int (nI (c))), (3, .int (x))] := hl
  refine lv_aload_n hx hb dX4_hold_0 rfl (lv_at hl 0 rfl) ?_
  refine lv_iconst (v := 0) hx hb dX4_hold_1 (by decide) ?_
  refine va_put (D := D) (ci := 4) (v := .int (0)) (ty := .int) (C := RX4) (T := TX4) (N := 19) (Ts := wsX40) hx hb hin (fun _ h9 => h9) tyX4 tyX4_ok nmX4 hown hK hP hD hS 0 rfl rfl 0 (by decide) (hts (.fieldLink RX4 62 "GroupbooksModel" "thrown" "I") (by decide +kernel)) (fun _ h9 => h9) rfl (by decide +kernel) rfl rfl (Nat.le_of_ble_eq_true rfl) dX4_hold_2 (fun H locs hP hD hS => ?_)
  have hP : va_P D vwCl (MW a cI cJ he cm ad gw as de eq re co av hi ke sq ab be nw tn 0 cd) H := hP
  have hD : va_D A (MW a cI cJ he cm ad gw as de eq re co av hi ke sq ab be nw tn 0 cd) := hD
  refine lv_iload_n hx hb dX4_hold_5 rfl (lv_at hl 1 rfl) ?_
  refine lv_iload_n hx hb dX4_hold_6 rfl (lv_at hl 2 rfl) ?_
  refine b_csi (v := bI (prB (nI (o)) (nI (c)))) (W.runS (As := [.int (nI (o)), .int (nI (c))]) (rest := []) ⟨hx, hb, hml, hown, hts⟩ (c_X4_isPair ll (nI (o)) (nI (c)) ) (va_cwS 2 hts gX4_hold_X4_isPair rfl rfl rfl (by decide +kernel) ⟨Nat.le_of_ble_eq_true rfl, Nat.le_of_ble_eq_true rfl⟩) ⟨PT.blind, PT.to⟩ rfl rfl hl.1 rfl (lv_room (Nat.le_of_ble_eq_true rfl)) dX4_hold_7 ⟨Nat.le_of_ble_eq_true rfl, Nat.le_of_ble_eq_true rfl⟩) ?_
  refine lv_if_eq (tgt := 23) hx hb dX4_hold_10 (by decide) (fun c_1 => ?_) (fun c_1 => ?_)
  · have n_1 : ¬ (prB (nI (o)) (nI (c))) = true := bI0 c_1
    exact absurd hpr n_1
  · have n_1 : (prB (nI (o)) (nI (c))) = true := bI1 c_1
    refine lv_iload_n hx hb dX4_hold_13 rfl (lv_at hl 3 rfl) ?_
    refine lv_iconst (v := 0) hx hb dX4_hold_14 (by decide) ?_
    refine lv_bipush (v := 100) hx hb dX4_hold_15 (by decide) ?_
    refine b_csi (v := bI (inB x 0 100)) (W.runS (As := [.int (x), .int (0), .int (100)]) (rest := []) ⟨hx, hb, hml, hown, hts⟩ (c_X4_in ll x 0 100 ) (va_cwS 3 hts gX4_hold_X4_in rfl rfl rfl (by decide +kernel) ⟨Nat.le_of_ble_eq_true rfl, Nat.le_of_ble_eq_true rfl⟩) ⟨PT.blind, PT.to⟩ rfl rfl hl.1 rfl (lv_room (Nat.le_of_ble_eq_true rfl)) dX4_hold_17 ⟨Nat.le_of_ble_eq_true rfl, Nat.le_of_ble_eq_true rfl⟩) ?_
    refine lv_if_ne (tgt := 29) hx hb dX4_hold_20 (by decide) (fun c_2 => ?_) (fun c_2 => ?_)
    · have n_2 : (inB x 0 100) = true := bI1 c_2
      refine lv_aload_n hx hb dX4_hold_29 rfl (lv_at hl 0 rfl) ?_
      refine va_get (D := D) (ci := 4) (v := .ref (a 1)) (C := RX4) (T := TX4) (N := 19) (Ts := wsX40) hx hb hin (fun _ h9 => h9) hown hK hP 0 rfl rfl 1 (by decide) (hts (.fieldLink RX4 7 "GroupbooksModel" "held" "[I") (by decide +kernel)) (fun _ h9 => h9) rfl dX4_hold_30 ?_
      refine lv_bipush (v := 6) hx hb dX4_hold_33 (by decide) ?_
      refine lv_iload_n hx hb dX4_hold_35 rfl (lv_at hl 1 rfl) ?_
      refine lv_imul hx hb dX4_hold_36 ?_
      refine b_ti (pk_mul (6) (o)) ?_
      refine lv_iload_n hx hb dX4_hold_37 rfl (lv_at hl 2 rfl) ?_
      refine lv_iadd hx hb dX4_hold_38 ?_
      refine b_ti (nI_add ((6) * (o)) (c)) ?_
      refine b_iald hx hb hK hP 1 0 (f := he) rfl rfl (j := ((6) * (o)) + (c)) (by omega) (by decide) dX4_hold_39 ?_
      refine lv_istore (lv' := [(4, .int (he (((6) * (o)) + (c)))), (0, .ref (a 0)), (1, .int (nI (o))), (2, .int (nI (c))), (3, .int (x))]) hx hb dX4_hold_40 hl (by decide) rfl (fun ls hl => ?_)
      refine lv_aload_n hx hb dX4_hold_42 rfl (lv_at hl 1 rfl) ?_
      refine lv_iload_n hx hb dX4_hold_43 rfl (lv_at hl 2 rfl) ?_
      refine lv_iload_n hx hb dX4_hold_44 rfl (lv_at hl 3 rfl) ?_
      refine lv_iload_n hx hb dX4_hold_45 rfl (lv_at hl 4 rfl) ?_
      refine b_calli0 (S := Unit) (w' := fun u => MW a cI cJ he cm ad gw as de eq re co av hi ke sq ab be nw tn 0 cd) hP hD hS hA (va_runV (As := [.int (nI (o)), .int (nI (c)), .int (x)]) (rest := []) ⟨hx, hb, hml, hown, hts⟩ (c_X4_sets_hi ll D a cI cJ _ he cm ad gw as de eq re co av hi ke sq ab be nw tn 0 cd o c x ho hc hs) (cwV 3 hts gX4_hold_X4_sets rfl rfl rfl (by decide +kernel) ⟨Nat.le_of_ble_eq_true rfl, Nat.le_of_ble_eq_true rfl⟩) ⟨PW.blind, va_recv hK hP (ci := 4) (q0 := 0) rfl rfl, PW.go hP hK hD hE⟩ rfl rfl hl.1 rfl (lv_room (Nat.le_of_ble_eq_true rfl)) dX4_hold_46 ⟨Nat.le_of_ble_eq_true rfl, Nat.le_of_ble_eq_true rfl⟩) (fun r_4 u H locs h_3 hP hD hS => ?_)
      obtain rfl : r_4 = 0 := h_3
      refine lv_if_eq (tgt := 57) hx hb dX4_hold_49 (by decide) (fun c_5 => ?_) (fun c_5 => ?_)
      · have n_5 := c_5
        refine lv_aload_n hx hb dX4_hold_57 rfl (lv_at hl 1 rfl) ?_
        refine lv_iconst (v := 2) hx hb dX4_hold_58 (by decide) ?_
        refine b_calli0 (S := Unit) (w' := fun u => MW a cI cJ he cm ad gw as de eq re co av hi ke sq ab be nw tn 2 cd) hP hD hS hA (va_runV (As := [.int (2)]) (rest := []) ⟨hx, hb, hml, hown, hts⟩ (c_X4_fails ll D a cI cJ _ he cm ad gw as de eq re co av hi ke sq ab be nw tn 0 cd 2 ) (cwV 1 hts gX4_hold_X4_fails rfl rfl rfl (by decide +kernel) ⟨Nat.le_of_ble_eq_true rfl, Nat.le_of_ble_eq_true rfl⟩) ⟨PW.blind, va_recv hK hP (ci := 4) (q0 := 0) rfl rfl, PW.go hP hK hD hE⟩ rfl rfl hl.1 rfl (lv_room (Nat.le_of_ble_eq_true rfl)) dX4_hold_59 ⟨Nat.le_of_ble_eq_true rfl, Nat.le_of_ble_eq_true rfl⟩) (fun r_7 u H locs h_6 hP hD hS => ?_)
        have h_6 : r_7 = 0 := h_6
        subst h_6
        exact W.iret hx hb hr (fun t ht hW => ⟨⟨_, (), rfl, rfl, (by rw [ht]; exact hP), va_K.moved hW.alike hK, hD⟩, hS.F ht⟩) hS.2.2 dX4_hold_62
      · have n_5 := c_5
        exact absurd c_5 (by decide)
    · have n_2 : ¬ (inB x 0 100) = true := bI0 c_2
      exact absurd hqx n_2

abbrev rmX4_hold_no : Room := ({ frames := 4, cells := 0, slots := 0, locals := 106 } : Room)
set_option maxHeartbeats 4000000 in
set_option maxRecDepth 100000 in
theorem c_X4_hold_no (ll : Launch) (D : va_G) (a : Nat → Nat) (cI cJ : ClassId) (sz : Nat) (he cm ad gw as de eq re co av hi ke : Nat → Int32) (sq ab be : Nat → Int64) (nw tn : Nat → Int32) (th cd : Int32) (o c : Nat) (x : Int32) (ho : o < 6) (hc : c < 6) (hpr : prB (nI o) (nI c) = true) (hqx : inB x 0 100 = true) (hs : smH he o c x ≤ 100) (hW : dW (upd he (6 * o + c) x) 0 = 0) : Met ll yX4_hold wsX4_hold rmX4_hold_no (va_Pc [.ref (a 0), .int (nI (o)), .int (nI (c)), .int (x)] (PW D (tyG cI cJ) (MW a cI cJ he cm ad gw as de eq re co av hi ke sq ab be nw tn th cd) sz)) (va_Qi (fun (rr : Int32) (u : (Nat → Int64) × (Nat → Int64) × (Nat → Int64)) => rr = 0) (fun (u : (Nat → Int64) × (Nat → Int64) × (Nat → Int64)) t => AW D (tyG cI cJ) (va_A (MW a cI cJ he cm ad gw as de eq re co av hi ke sq ab be nw tn th cd) sz) (MW a cI cJ he cm ad gw as de eq re co av hi ke (u.1) (u.2.1) (u.2.2) nw tn 2 cd) t) (va_A (MW a cI cJ he cm ad gw as de eq re co av hi ke sq ab be nw tn th cd) sz)) 0 0 (va_A (MW a cI cJ he cm ad gw as de eq re co av hi ke sq ab be nw tn th cd) sz) := by
  refine Met.ofW (cc := cX4_hold) (maxL := 5) (ret := (some .int)) (by decide) rfl ?_
  intro pp ee ss mm ar bel mth cde s₁ B hml hv
  obtain ⟨rfl, hsz, hP, hK, hD0, hE⟩ := hv
  have hx := B.exec
  have hb := B.bytes
  have hr := B.returns
  have hts := atoms_spec (ws := wsX4_hold) B.pre
  have hown : ss.vm.findClass RX4 = some mm.cls := findClass_of_methodNamed B.named
  have hlocks := B.notSynchronized
  subst hsz
  have hD := hD0.self (sz := ss.heap.size)
  generalize hAe : va_A (MW a cI cJ he cm ad gw as de eq re co av hi ke sq ab be nw tn th cd) ss.heap.size = A at hD ⊢
  have hA : ∀ q : Nat, ss.heap.size ≤ q → A q := fun q h => by rw [← hAe]; exact Or.inr h
  have hS : va_S A ss.heap ss.heap [] := va_S.rf
  have hin : ∀ w ∈ wsX40, w.before ([.ref (a 0), .int (nI (o)), .int (nI (c)), .int (x)] : List Value).toArray ss = true := fun w h => hts w ((by decide +kernel : ∀ w ∈ wsX40, w ∈ wsX4_hold) w h)
  have hl := lv_entry [.ref (a 0), .int (nI (o)), .int (nI (c)), .int (x)] (n := 5) (Nat.le_of_ble_eq_true rfl)
  rw [lg_entry_eq]
  generalize (lg_sl [.ref (a 0), .int (nI (o)), .int (nI (c)), .int (x)] ++ List.replicate (5 - (lg_sl [.ref (a 0), .int (nI (o)), .int (nI (c)), .int (x)]).length) Slot.unset).toArray = ls at hl ⊢
  have hl : lv_has ls 5 [(0, .ref (a 0)), (1, .int (nI (o))), (2, .int (nI (c))), (3, .int (x))] := hl
  refine lv_aload_n hx hb dX4_hold_0 rfl (lv_at hl 0 rfl) ?_
  refine lv_iconst (v := 0) hx hb dX4_hold_1 (by decide) ?_
  refine va_put (D := D) (ci := 4) (v := .int (0)) (ty := .int) (C := RX4) (T := TX4) (N := 19) (Ts := wsX40) hx hb hin (fun _ h9 => h9) tyX4 tyX4_ok nmX4 hown hK hP hD hS 0 rfl rfl 0 (by decide) (hts (.fieldLink RX4 62 "GroupbooksModel" "thrown" "I") (by decide +kernel)) (fun _ h9 => h9) rfl (by decide +kernel) rfl rfl (Nat.le_of_ble_eq_true rfl) dX4_hold_2 (fun H locs hP hD hS => ?_)
  have hP : va_P D vwCl (MW a cI cJ he cm ad gw as de eq re co av hi ke sq ab be nw tn 0 cd) H := hP
  have hD : va_D A (MW a cI cJ he cm ad gw as de eq re co av hi ke sq ab be nw tn 0 cd) := hD
  refine lv_iload_n hx hb dX4_hold_5 rfl (lv_at hl 1 rfl) ?_
  refine lv_iload_n hx hb dX4_hold_6 rfl (lv_at hl 2 rfl) ?_
  refine b_csi (v := bI (prB (nI (o)) (nI (c)))) (W.runS (As := [.int (nI (o)), .int (nI (c))]) (rest := []) ⟨hx, hb, hml, hown, hts⟩ (c_X4_isPair ll (nI (o)) (nI (c)) ) (va_cwS 2 hts gX4_hold_X4_isPair rfl rfl rfl (by decide +kernel) ⟨Nat.le_of_ble_eq_true rfl, Nat.le_of_ble_eq_true rfl⟩) ⟨PT.blind, PT.to⟩ rfl rfl hl.1 rfl (lv_room (Nat.le_of_ble_eq_true rfl)) dX4_hold_7 ⟨Nat.le_of_ble_eq_true rfl, Nat.le_of_ble_eq_true rfl⟩) ?_
  refine lv_if_eq (tgt := 23) hx hb dX4_hold_10 (by decide) (fun c_1 => ?_) (fun c_1 => ?_)
  · have n_1 : ¬ (prB (nI (o)) (nI (c))) = true := bI0 c_1
    exact absurd hpr n_1
  · have n_1 : (prB (nI (o)) (nI (c))) = true := bI1 c_1
    refine lv_iload_n hx hb dX4_hold_13 rfl (lv_at hl 3 rfl) ?_
    refine lv_iconst (v := 0) hx hb dX4_hold_14 (by decide) ?_
    refine lv_bipush (v := 100) hx hb dX4_hold_15 (by decide) ?_
    refine b_csi (v := bI (inB x 0 100)) (W.runS (As := [.int (x), .int (0), .int (100)]) (rest := []) ⟨hx, hb, hml, hown, hts⟩ (c_X4_in ll x 0 100 ) (va_cwS 3 hts gX4_hold_X4_in rfl rfl rfl (by decide +kernel) ⟨Nat.le_of_ble_eq_true rfl, Nat.le_of_ble_eq_true rfl⟩) ⟨PT.blind, PT.to⟩ rfl rfl hl.1 rfl (lv_room (Nat.le_of_ble_eq_true rfl)) dX4_hold_17 ⟨Nat.le_of_ble_eq_true rfl, Nat.le_of_ble_eq_true rfl⟩) ?_
    refine lv_if_ne (tgt := 29) hx hb dX4_hold_20 (by decide) (fun c_2 => ?_) (fun c_2 => ?_)
    · have n_2 : (inB x 0 100) = true := bI1 c_2
      refine lv_aload_n hx hb dX4_hold_29 rfl (lv_at hl 0 rfl) ?_
      refine va_get (D := D) (ci := 4) (v := .ref (a 1)) (C := RX4) (T := TX4) (N := 19) (Ts := wsX40) hx hb hin (fun _ h9 => h9) hown hK hP 0 rfl rfl 1 (by decide) (hts (.fieldLink RX4 7 "GroupbooksModel" "held" "[I") (by decide +kernel)) (fun _ h9 => h9) rfl dX4_hold_30 ?_
      refine lv_bipush (v := 6) hx hb dX4_hold_33 (by decide) ?_
      refine lv_iload_n hx hb dX4_hold_35 rfl (lv_at hl 1 rfl) ?_
      refine lv_imul hx hb dX4_hold_36 ?_
      refine b_ti (pk_mul (6) (o)) ?_
      refine lv_iload_n hx hb dX4_hold_37 rfl (lv_at hl 2 rfl) ?_
      refine lv_iadd hx hb dX4_hold_38 ?_
      refine b_ti (nI_add ((6) * (o)) (c)) ?_
      refine b_iald hx hb hK hP 1 0 (f := he) rfl rfl (j := ((6) * (o)) + (c)) (by omega) (by decide) dX4_hold_39 ?_
      refine lv_istore (lv' := [(4, .int (he (((6) * (o)) + (c)))), (0, .ref (a 0)), (1, .int (nI (o))), (2, .int (nI (c))), (3, .int (x))]) hx hb dX4_hold_40 hl (by decide) rfl (fun ls hl => ?_)
      refine lv_aload_n hx hb dX4_hold_42 rfl (lv_at hl 1 rfl) ?_
      refine lv_iload_n hx hb dX4_hold_43 rfl (lv_at hl 2 rfl) ?_
      refine lv_iload_n hx hb dX4_hold_44 rfl (lv_at hl 3 rfl) ?_
      refine lv_iload_n hx hb dX4_hold_45 rfl (lv_at hl 4 rfl) ?_
      refine b_calli0 (S := (Nat → Int64) × (Nat → Int64) × (Nat → Int64)) (w' := fun u_3 => MW a cI cJ he cm ad gw as de eq re co av hi ke (u_3.1) (u_3.2.1) (u_3.2.2) nw tn 0 cd) hP hD hS hA (va_runV (As := [.int (nI (o)), .int (nI (c)), .int (x)]) (rest := []) ⟨hx, hb, hml, hown, hts⟩ (c_X4_sets_no ll D a cI cJ _ he cm ad gw as de eq re co av hi ke sq ab be nw tn 0 cd o c x ho hc hs hW) (cwV 3 hts gX4_hold_X4_sets rfl rfl rfl (by decide +kernel) ⟨Nat.le_of_ble_eq_true rfl, Nat.le_of_ble_eq_true rfl⟩) ⟨PW.blind, va_recv hK hP (ci := 4) (q0 := 0) rfl rfl, PW.go hP hK hD hE⟩ rfl rfl hl.1 rfl (lv_room (Nat.le_of_ble_eq_true rfl)) dX4_hold_46 ⟨Nat.le_of_ble_eq_true rfl, Nat.le_of_ble_eq_true rfl⟩) (fun r_5 u_3 H locs h_4 hP hD hS => ?_)
      obtain rfl : r_5 = 0 := h_4
      refine lv_if_eq (tgt := 57) hx hb dX4_hold_49 (by decide) (fun c_6 => ?_) (fun c_6 => ?_)
      · have n_6 := c_6
        refine lv_aload_n hx hb dX4_hold_57 rfl (lv_at hl 1 rfl) ?_
        refine lv_iconst (v := 2) hx hb dX4_hold_58 (by decide) ?_
        refine b_calli0 (S := Unit) (w' := fun u => MW a cI cJ he cm ad gw as de eq re co av hi ke (u_3.1) (u_3.2.1) (u_3.2.2) nw tn 2 cd) hP hD hS hA (va_runV (As := [.int (2)]) (rest := []) ⟨hx, hb, hml, hown, hts⟩ (c_X4_fails ll D a cI cJ _ he cm ad gw as de eq re co av hi ke (u_3.1) (u_3.2.1) (u_3.2.2) nw tn 0 cd 2 ) (cwV 1 hts gX4_hold_X4_fails rfl rfl rfl (by decide +kernel) ⟨Nat.le_of_ble_eq_true rfl, Nat.le_of_ble_eq_true rfl⟩) ⟨PW.blind, va_recv hK hP (ci := 4) (q0 := 0) rfl rfl, PW.go hP hK hD hE⟩ rfl rfl hl.1 rfl (lv_room (Nat.le_of_ble_eq_true rfl)) dX4_hold_59 ⟨Nat.le_of_ble_eq_true rfl, Nat.le_of_ble_eq_true rfl⟩) (fun r_8 u H locs h_7 hP hD hS => ?_)
        have h_7 : r_8 = 0 := h_7
        subst h_7
        refine W.iret hx hb hr (fun t ht hW => ?_) hS.2.2 dX4_hold_62
        refine ⟨⟨_, (u_3.1, u_3.2.1, u_3.2.2), rfl, ?_, ?_, va_K.moved hW.alike hK, ?_⟩, hS.F ht⟩
        · try dsimp only
          all_goals exact rfl
        · rw [ht]
          try dsimp only
          exact hP
        · try dsimp only
          exact hD
      · have n_6 := c_6
        exact absurd c_6 (by decide)
    · have n_2 : ¬ (inB x 0 100) = true := bI0 c_2
      exact absurd hqx n_2

abbrev rmX4_hold_bad : Room := ({ frames := 3, cells := 0, slots := 0, locals := 63 } : Room)
set_option maxHeartbeats 4000000 in
set_option maxRecDepth 100000 in
theorem c_X4_hold_bad (ll : Launch) (D : va_G) (a : Nat → Nat) (cI cJ : ClassId) (sz : Nat) (he cm ad gw as de eq re co av hi ke : Nat → Int32) (sq ab be : Nat → Int64) (nw tn : Nat → Int32) (th cd : Int32) (x0 x1 x : Int32) (hbad : ¬ (prB x0 x1 = true ∧ inB x 0 100 = true)) : Met ll yX4_hold wsX4_hold rmX4_hold_bad (va_Pc [.ref (a 0), .int (x0), .int (x1), .int (x)] (PW D (tyG cI cJ) (MW a cI cJ he cm ad gw as de eq re co av hi ke sq ab be nw tn th cd) sz)) (va_Qi (fun (rr : Int32) (u : Unit) => rr = 0) (fun (u : Unit) t => AW D (tyG cI cJ) (va_A (MW a cI cJ he cm ad gw as de eq re co av hi ke sq ab be nw tn th cd) sz) (MW a cI cJ he cm ad gw as de eq re co av hi ke sq ab be nw tn 1 cd) t) (va_A (MW a cI cJ he cm ad gw as de eq re co av hi ke sq ab be nw tn th cd) sz)) 0 0 (va_A (MW a cI cJ he cm ad gw as de eq re co av hi ke sq ab be nw tn th cd) sz) := by
  refine Met.ofW (cc := cX4_hold) (maxL := 5) (ret := (some .int)) (by decide) rfl ?_
  intro pp ee ss mm ar bel mth cde s₁ B hml hv
  obtain ⟨rfl, hsz, hP, hK, hD0, hE⟩ := hv
  have hx := B.exec
  have hb := B.bytes
  have hr := B.returns
  have hts := atoms_spec (ws := wsX4_hold) B.pre
  have hown : ss.vm.findClass RX4 = some mm.cls := findClass_of_methodNamed B.named
  have hlocks := B.notSynchronized
  subst hsz
  have hD := hD0.self (sz := ss.heap.size)
  generalize hAe : va_A (MW a cI cJ he cm ad gw as de eq re co av hi ke sq ab be nw tn th cd) ss.heap.size = A at hD ⊢
  have hA : ∀ q : Nat, ss.heap.size ≤ q → A q := fun q h => by rw [← hAe]; exact Or.inr h
  have hS : va_S A ss.heap ss.heap [] := va_S.rf
  have hin : ∀ w ∈ wsX40, w.before ([.ref (a 0), .int (x0), .int (x1), .int (x)] : List Value).toArray ss = true := fun w h => hts w ((by decide +kernel : ∀ w ∈ wsX40, w ∈ wsX4_hold) w h)
  have hl := lv_entry [.ref (a 0), .int (x0), .int (x1), .int (x)] (n := 5) (Nat.le_of_ble_eq_true rfl)
  rw [lg_entry_eq]
  generalize (lg_sl [.ref (a 0), .int (x0), .int (x1), .int (x)] ++ List.replicate (5 - (lg_sl [.ref (a 0), .int (x0), .int (x1), .int (x)]).length) Slot.unset).toArray = ls at hl ⊢
  have hl : lv_has ls 5 [(0, .ref (a 0)), (1, .int (x0)), (2, .int (x1)), (3, .int (x))] := hl
  refine lv_aload_n hx hb dX4_hold_0 rfl (lv_at hl 0 rfl) ?_
  refine lv_iconst (v := 0) hx hb dX4_hold_1 (by decide) ?_
  refine va_put (D := D) (ci := 4) (v := .int (0)) (ty := .int) (C := RX4) (T := TX4) (N := 19) (Ts := wsX40) hx hb hin (fun _ h9 => h9) tyX4 tyX4_ok nmX4 hown hK hP hD hS 0 rfl rfl 0 (by decide) (hts (.fieldLink RX4 62 "GroupbooksModel" "thrown" "I") (by decide +kernel)) (fun _ h9 => h9) rfl (by decide +kernel) rfl rfl (Nat.le_of_ble_eq_true rfl) dX4_hold_2 (fun H locs hP hD hS => ?_)
  have hP : va_P D vwCl (MW a cI cJ he cm ad gw as de eq re co av hi ke sq ab be nw tn 0 cd) H := hP
  have hD : va_D A (MW a cI cJ he cm ad gw as de eq re co av hi ke sq ab be nw tn 0 cd) := hD
  refine lv_iload_n hx hb dX4_hold_5 rfl (lv_at hl 1 rfl) ?_
  refine lv_iload_n hx hb dX4_hold_6 rfl (lv_at hl 2 rfl) ?_
  refine b_csi (v := bI (prB x0 x1)) (W.runS (As := [.int (x0), .int (x1)]) (rest := []) ⟨hx, hb, hml, hown, hts⟩ (c_X4_isPair ll x0 x1 ) (va_cwS 2 hts gX4_hold_X4_isPair rfl rfl rfl (by decide +kernel) ⟨Nat.le_of_ble_eq_true rfl, Nat.le_of_ble_eq_true rfl⟩) ⟨PT.blind, PT.to⟩ rfl rfl hl.1 rfl (lv_room (Nat.le_of_ble_eq_true rfl)) dX4_hold_7 ⟨Nat.le_of_ble_eq_true rfl, Nat.le_of_ble_eq_true rfl⟩) ?_
  refine lv_if_eq (tgt := 23) hx hb dX4_hold_10 (by decide) (fun c_1 => ?_) (fun c_1 => ?_)
  · have n_1 : ¬ (prB x0 x1) = true := bI0 c_1
    refine lv_aload_n hx hb dX4_hold_23 rfl (lv_at hl 0 rfl) ?_
    refine lv_iconst (v := 1) hx hb dX4_hold_24 (by decide) ?_
    refine b_calli0 (S := Unit) (w' := fun u => MW a cI cJ he cm ad gw as de eq re co av hi ke sq ab be nw tn 1 cd) hP hD hS hA (va_runV (As := [.int (1)]) (rest := []) ⟨hx, hb, hml, hown, hts⟩ (c_X4_fails ll D a cI cJ _ he cm ad gw as de eq re co av hi ke sq ab be nw tn 0 cd 1 ) (cwV 1 hts gX4_hold_X4_fails rfl rfl rfl (by decide +kernel) ⟨Nat.le_of_ble_eq_true rfl, Nat.le_of_ble_eq_true rfl⟩) ⟨PW.blind, va_recv hK hP (ci := 4) (q0 := 0) rfl rfl, PW.go hP hK hD hE⟩ rfl rfl hl.1 rfl (lv_room (Nat.le_of_ble_eq_true rfl)) dX4_hold_25 ⟨Nat.le_of_ble_eq_true rfl, Nat.le_of_ble_eq_true rfl⟩) (fun r_3 u H locs h_2 hP hD hS => ?_)
    have h_2 : r_3 = 0 := h_2
    subst h_2
    exact W.iret hx hb hr (fun t ht hW => ⟨⟨_, (), rfl, rfl, (by rw [ht]; exact hP), va_K.moved hW.alike hK, hD⟩, hS.F ht⟩) hS.2.2 dX4_hold_28
  · have n_1 : (prB x0 x1) = true := bI1 c_1
    refine lv_iload_n hx hb dX4_hold_13 rfl (lv_at hl 3 rfl) ?_
    refine lv_iconst (v := 0) hx hb dX4_hold_14 (by decide) ?_
    refine lv_bipush (v := 100) hx hb dX4_hold_15 (by decide) ?_
    refine b_csi (v := bI (inB x 0 100)) (W.runS (As := [.int (x), .int (0), .int (100)]) (rest := []) ⟨hx, hb, hml, hown, hts⟩ (c_X4_in ll x 0 100 ) (va_cwS 3 hts gX4_hold_X4_in rfl rfl rfl (by decide +kernel) ⟨Nat.le_of_ble_eq_true rfl, Nat.le_of_ble_eq_true rfl⟩) ⟨PT.blind, PT.to⟩ rfl rfl hl.1 rfl (lv_room (Nat.le_of_ble_eq_true rfl)) dX4_hold_17 ⟨Nat.le_of_ble_eq_true rfl, Nat.le_of_ble_eq_true rfl⟩) ?_
    refine lv_if_ne (tgt := 29) hx hb dX4_hold_20 (by decide) (fun c_4 => ?_) (fun c_4 => ?_)
    · have n_4 : (inB x 0 100) = true := bI1 c_4
      exact absurd (And.intro n_1 n_4) hbad
    · have n_4 : ¬ (inB x 0 100) = true := bI0 c_4
      refine lv_aload_n hx hb dX4_hold_23 rfl (lv_at hl 0 rfl) ?_
      refine lv_iconst (v := 1) hx hb dX4_hold_24 (by decide) ?_
      refine b_calli0 (S := Unit) (w' := fun u => MW a cI cJ he cm ad gw as de eq re co av hi ke sq ab be nw tn 1 cd) hP hD hS hA (va_runV (As := [.int (1)]) (rest := []) ⟨hx, hb, hml, hown, hts⟩ (c_X4_fails ll D a cI cJ _ he cm ad gw as de eq re co av hi ke sq ab be nw tn 0 cd 1 ) (cwV 1 hts gX4_hold_X4_fails rfl rfl rfl (by decide +kernel) ⟨Nat.le_of_ble_eq_true rfl, Nat.le_of_ble_eq_true rfl⟩) ⟨PW.blind, va_recv hK hP (ci := 4) (q0 := 0) rfl rfl, PW.go hP hK hD hE⟩ rfl rfl hl.1 rfl (lv_room (Nat.le_of_ble_eq_true rfl)) dX4_hold_25 ⟨Nat.le_of_ble_eq_true rfl, Nat.le_of_ble_eq_true rfl⟩) (fun r_6 u H locs h_5 hP hD hS => ?_)
      have h_5 : r_6 = 0 := h_5
      subst h_5
      exact W.iret hx hb hr (fun t ht hW => ⟨⟨_, (), rfl, rfl, (by rw [ht]; exact hP), va_K.moved hW.alike hK, hD⟩, hS.F ht⟩) hS.2.2 dX4_hold_28
