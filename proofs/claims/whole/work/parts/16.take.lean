abbrev rmX2_determineShares : Room := ({ frames := 3, cells := 0, slots := 0, locals := 79 } : Room)
set_option maxHeartbeats 4000000 in
set_option maxRecDepth 100000 in
theorem c_X2_determineShares (ll : Launch) (D : va_G) (a : Nat → Nat) (cI cJ : ClassId) (sz : Nat) (p : Nat → Int32) (nu de eq : Nat → Int64) (am nx oA oD oE oP cR aR hR cl ad gw pr : Nat → Int32) (n : Int32)   : Met ll yX2_determineShares wsX2_determineShares rmX2_determineShares (va_Pc [.ref (a 1)] (PW D (tyG cI cJ) (GW a cI cJ p nu de eq am nx oA oD oE oP cR aR hR cl ad gw pr n) sz)) (va_Qi (fun (rr : Int32) (u : (Nat → Int64) × (Nat → Int64) × (Nat → Int64)) => (rr = 1 ∧ (∀ k, k < 5 → 0 < pvt (weO p eq 5) k) ∧ u.2.1 = ksN (ds (weO p eq 5) 5).1 (ds (weO p eq 5) 5).2 nu 5 ∧ u.2.2 = ksD (ds (weO p eq 5) 5).1 (ds (weO p eq 5) 5).2 de 5) ∨ (rr = 0 ∧ ¬ (∀ k, k < 5 → 0 < pvt (weO p eq 5) k) ∧ u.2.1 = nu ∧ u.2.2 = de)) (fun (u : (Nat → Int64) × (Nat → Int64) × (Nat → Int64)) t => AW D (tyG cI cJ) (va_A (GW a cI cJ p nu de eq am nx oA oD oE oP cR aR hR cl ad gw pr n) sz) (GW a cI cJ p (u.2.1) (u.2.2) (u.1) am nx oA oD oE oP cR aR hR cl ad gw pr n) t) (va_A (GW a cI cJ p nu de eq am nx oA oD oE oP cR aR hR cl ad gw pr n) sz)) 0 0 (va_A (GW a cI cJ p nu de eq am nx oA oD oE oP cR aR hR cl ad gw pr n) sz) := by
  refine Met.ofW (cc := cX2_determineShares) (maxL := 6) (ret := (some .boolean)) (by decide) rfl ?_
  intro pp ee ss mm ar bel mth cd s₁ B hml hv
  obtain ⟨rfl, hsz, hP, hK, hD0, hE⟩ := hv
  have hx := B.exec
  have hb := B.bytes
  have hr := B.returns
  have hts := atoms_spec (ws := wsX2_determineShares) B.pre
  have hown : ss.vm.findClass RX2 = some mm.cls := findClass_of_methodNamed B.named
  have hlocks := B.notSynchronized
  subst hsz
  have hD := hD0.self (sz := ss.heap.size)
  generalize hAe : va_A (GW a cI cJ p nu de eq am nx oA oD oE oP cR aR hR cl ad gw pr n) ss.heap.size = A at hD ⊢
  have hA : ∀ q : Nat, ss.heap.size ≤ q → A q := fun q h => by rw [← hAe]; exact Or.inr h
  have hS : va_S A ss.heap ss.heap [] := va_S.rf
  have hin : ∀ w ∈ wsX20, w.before ([.ref (a 1)] : List Value).toArray ss = true := fun w h => hts w ((by decide +kernel : ∀ w ∈ wsX20, w ∈ wsX2_determineShares) w h)
  have hl := lv_entry [.ref (a 1)] (n := 6) (Nat.le_of_ble_eq_true rfl)
  rw [lg_entry_eq]
  generalize (lg_sl [.ref (a 1)] ++ List.replicate (6 - (lg_sl [.ref (a 1)]).length) Slot.unset).toArray = ls at hl ⊢
  have hl : lv_has ls 6 [(0, .ref (a 1))] := hl
  generalize hZ : MQ bel _ _ ss _ _ _ = Z
  refine lv_aload_n hx hb dX2_determineShares_0 rfl (lv_at hl 0 rfl) ?_
  refine b_callv0 (S := Unit) (w' := fun u => GW a cI cJ p nu de (weO p eq 5) am nx oA oD oE oP cR aR hR cl ad gw pr n) hP hD hS hA (va_runV (As := []) (rest := []) ⟨hx, hb, hml, hown, hts⟩ (c_X2_writeEquations ll D a cI cJ _ p nu de eq am nx oA oD oE oP cR aR hR cl ad gw pr n  ) (cwV 0 hts gX2_determineShares_X2_writeEquations rfl rfl rfl (by decide +kernel) ⟨Nat.le_of_ble_eq_true rfl, Nat.le_of_ble_eq_true rfl⟩) ⟨PW.blind, va_recv hK hP (ci := 2) (q0 := 1) rfl rfl, PW.go hP hK hD hE⟩ rfl rfl hl.1 rfl (lv_room (Nat.le_of_ble_eq_true rfl)) dX2_determineShares_1 ⟨Nat.le_of_ble_eq_true rfl, Nat.le_of_ble_eq_true rfl⟩) (fun u H locs h_1 hP hD hS => ?_)
  refine lv_lconst (v := 1) hx hb dX2_determineShares_4 (by decide) ?_
  refine lv_lstore_n (lv' := [(1, .long (1)), (0, .ref (a 1))]) hx hb dX2_determineShares_5 rfl hl (by decide) rfl (fun ls hl => ?_)
  refine lv_iconst (v := 1) hx hb dX2_determineShares_6 (by decide) ?_
  refine lv_istore_n (lv' := [(3, .int (1)), (1, .long (1)), (0, .ref (a 1))]) hx hb dX2_determineShares_7 rfl hl (by decide) rfl (fun ls hl => ?_)
  have L1 : ∀ (n1 k1 : Nat), k1 + n1 = 5 → (∀ j, j < k1 → 0 < pvt (weO p eq 5) j) → ∀ (H : Heap) (locs : List Loc) (ls : Array Slot), va_P D vwCl (GW a cI cJ p nu de ((ds (weO p eq 5) (k1)).1) am nx oA oD oE oP cR aR hR cl ad gw pr n) H → va_D A (GW a cI cJ p nu de ((ds (weO p eq 5) (k1)).1) am nx oA oD oE oP cR aR hR cl ad gw pr n) → va_S A ss.heap H locs → lv_has ls 6 [(3, .int (nI (k1 + 1))), (1, .long ((ds (weO p eq 5) (k1)).2)), (0, .ref (a 1))] → W pp ll ee rmX2_determineShares ss mm (([.ref (a 1)] : List Value).toArray) bel mth cd H locs 0 0 Z (F0 mm 8 ls []) := by
    intro n1
    induction n1 with
    | zero =>
      intro k1 hk1 hy1_0 H locs ls hP hD hS hl
      have hk1b : 5 = k1 := by omega
      subst hk1b
      refine lv_iload_n hx hb dX2_determineShares_8 rfl (lv_at hl 0 rfl) ?_
      refine lv_bipush (v := 6) hx hb dX2_determineShares_9 (by decide) ?_
      refine lv_icmp_ge (tgt := 52) hx hb dX2_determineShares_11 (by decide) (fun c_2 => ?_) (fun c_2 => ?_)
      · have n_2 : (6) ≤ (5 + 1) := (nI_leI (a := 6) (b := 5 + 1) (by omega) (by omega)).mp c_2
        refine lv_aload_n hx hb dX2_determineShares_52 rfl (lv_at hl 2 rfl) ?_
        refine lv_lload_n hx hb dX2_determineShares_53 rfl (lv_at hl 1 rfl) ?_
        refine b_callv0 (S := Unit) (w' := fun u => GW a cI cJ p (ksN ((ds (weO p eq 5) (5)).1) ((ds (weO p eq 5) (5)).2) nu 5) (ksD ((ds (weO p eq 5) (5)).1) ((ds (weO p eq 5) (5)).2) de 5) ((ds (weO p eq 5) (5)).1) am nx oA oD oE oP cR aR hR cl ad gw pr n) hP hD hS hA (va_runV (As := [.long ((ds (weO p eq 5) (5)).2)]) (rest := []) ⟨hx, hb, hml, hown, hts⟩ (c_X2_keepShares ll D a cI cJ _ p nu de ((ds (weO p eq 5) (5)).1) am nx oA oD oE oP cR aR hR cl ad gw pr n ((ds (weO p eq 5) (5)).2) ) (cwV 1 hts gX2_determineShares_X2_keepShares rfl rfl rfl (by decide +kernel) ⟨Nat.le_of_ble_eq_true rfl, Nat.le_of_ble_eq_true rfl⟩) ⟨PW.blind, va_recv hK hP (ci := 2) (q0 := 1) rfl rfl, PW.go hP hK hD hE⟩ rfl rfl hl.1 rfl (lv_room (Nat.le_of_ble_eq_true rfl)) dX2_determineShares_54 ⟨Nat.le_of_ble_eq_true rfl, Nat.le_of_ble_eq_true rfl⟩) (fun u H locs h_3 hP hD hS => ?_)
        refine lv_iconst (v := 1) hx hb dX2_determineShares_57 (by decide) ?_
        subst hZ
        refine W.zret hx hb hr (by decide) (fun t ht hW => ?_) hS.2.2 dX2_determineShares_58
        refine ⟨⟨_, ((ds (weO p eq 5) (5)).1, ksN ((ds (weO p eq 5) (5)).1) ((ds (weO p eq 5) (5)).2) nu 5, ksD ((ds (weO p eq 5) (5)).1) ((ds (weO p eq 5) (5)).2) de 5), rfl, ?_, ?_, va_K.moved hW.alike hK, ?_⟩, hS.F ht⟩
        · try dsimp only
          exact (Or.inl ⟨rfl, hy1_0, rfl, rfl⟩)
        · rw [ht]
          try dsimp only
          exact hP
        · try dsimp only
          exact hD
      · have n_2 : ¬ ((6) ≤ (5 + 1)) := fun h => c_2 ((nI_leI (a := 6) (b := 5 + 1) (by omega) (by omega)).mpr h)
        exfalso; omega
    | succ n1 ih1 =>
      intro k1 hk1 hy1_0 H locs ls hP hD hS hl
      have hk1b : k1 < 5 := by omega
      refine lv_iload_n hx hb dX2_determineShares_8 rfl (lv_at hl 0 rfl) ?_
      refine lv_bipush (v := 6) hx hb dX2_determineShares_9 (by decide) ?_
      refine lv_icmp_ge (tgt := 52) hx hb dX2_determineShares_11 (by decide) (fun c_4 => ?_) (fun c_4 => ?_)
      · have n_4 : (6) ≤ (k1 + 1) := (nI_leI (a := 6) (b := k1 + 1) (by omega) (by omega)).mp c_4
        exfalso; omega
      · have n_4 : ¬ ((6) ≤ (k1 + 1)) := fun h => c_4 ((nI_leI (a := 6) (b := k1 + 1) (by omega) (by omega)).mpr h)
        refine lv_aload_n hx hb dX2_determineShares_14 rfl (lv_at hl 2 rfl) ?_
        refine va_get (D := D) (ci := 2) (v := .ref (a 9)) (C := RX2) (T := TX2) (N := 6) (Ts := wsX20) hx hb hin (fun _ h9 => h9) hown hK hP 1 rfl rfl 3 (by decide) (hts (.fieldLink RX2 22 "Groupbooks$Holdings" "equations" "[J") (by decide +kernel)) (fun _ h9 => h9) rfl dX2_determineShares_15 ?_
        refine lv_iload_n hx hb dX2_determineShares_18 rfl (lv_at hl 0 rfl) ?_
        refine lv_iload_n hx hb dX2_determineShares_19 rfl (lv_at hl 0 rfl) ?_
        refine b_csi (v := nI (6 * (k1 + 1) + (k1 + 1))) ((va_runSN (As := [.int (nI (k1 + 1)), .int (nI (k1 + 1))]) (rest := [.ref (a 9)]) ⟨hx, hb, hml, hown, hts⟩ (c_X3_pair ll (k1 + 1) (k1 + 1) ) ⟨va_cnB 2 hts gX2_determineShares_X3_pair_n31 rfl rfl rfl (hE.nest 5 rfl) (hts (.initialized RX3) (by decide +kernel)) (by decide +kernel) ⟨Nat.le_of_ble_eq_true rfl, Nat.le_of_ble_eq_true rfl⟩, hts (.static yX3_pair) (by decide +kernel), trivial⟩ ⟨PT.blind, PT.to⟩ rfl rfl hl.1 rfl (lv_room (Nat.le_of_ble_eq_true rfl)) dX2_determineShares_20 ⟨Nat.le_of_ble_eq_true rfl, Nat.le_of_ble_eq_true rfl⟩).run) ?_
        refine b_lald hx hb hK hP 9 1 (f := ((ds (weO p eq 5) (k1)).1)) rfl rfl (j := 6 * (k1 + 1) + (k1 + 1)) (by omega) (by decide) dX2_determineShares_23 ?_
        refine lv_lstore (lv' := [(4, .long (((ds (weO p eq 5) (k1)).1) (6 * (k1 + 1) + (k1 + 1)))), (3, .int (nI (k1 + 1))), (1, .long ((ds (weO p eq 5) (k1)).2)), (0, .ref (a 1))]) hx hb dX2_determineShares_24 hl (by decide) rfl (fun ls hl => ?_)
        refine lv_lload hx hb dX2_determineShares_26 (lv_at hl 0 rfl) ?_
        refine lv_lconst (v := 0) hx hb dX2_determineShares_28 (by decide) ?_
        refine W.lcmp hx hb dX2_determineShares_29 ?_
        refine lv_if_gt (tgt := 35) hx hb dX2_determineShares_30 (by decide) (fun c_5 => ?_) (fun c_5 => ?_)
        · have n_5 : 0 < ((ds (weO p eq 5) (k1)).1) (6 * (k1 + 1) + (k1 + 1)) := (lg_cmp_gt _ _).mp c_5
          refine lv_aload_n hx hb dX2_determineShares_35 rfl (lv_at hl 3 rfl) ?_
          refine lv_iload_n hx hb dX2_determineShares_36 rfl (lv_at hl 1 rfl) ?_
          refine lv_lload hx hb dX2_determineShares_37 (lv_at hl 0 rfl) ?_
          refine lv_lload_n hx hb dX2_determineShares_39 rfl (lv_at hl 2 rfl) ?_
          refine b_callv0 (S := Unit) (w' := fun u => GW a cI cJ p nu de (ccK ((ds (weO p eq 5) (k1)).1) (k1 + 1) (((ds (weO p eq 5) (k1)).1) (6 * (k1 + 1) + (k1 + 1))) ((ds (weO p eq 5) (k1)).2) 5) am nx oA oD oE oP cR aR hR cl ad gw pr n) hP hD hS hA (va_runV (As := [.int (nI (k1 + 1)), .long (((ds (weO p eq 5) (k1)).1) (6 * (k1 + 1) + (k1 + 1))), .long ((ds (weO p eq 5) (k1)).2)]) (rest := []) ⟨hx, hb, hml, hown, hts⟩ (c_X2_clearColumn ll D a cI cJ _ p nu de ((ds (weO p eq 5) (k1)).1) am nx oA oD oE oP cR aR hR cl ad gw pr n (k1 + 1) (((ds (weO p eq 5) (k1)).1) (6 * (k1 + 1) + (k1 + 1))) ((ds (weO p eq 5) (k1)).2) (by omega)) (cwV 3 hts gX2_determineShares_X2_clearColumn rfl rfl rfl (by decide +kernel) ⟨Nat.le_of_ble_eq_true rfl, Nat.le_of_ble_eq_true rfl⟩) ⟨PW.blind, va_recv hK hP (ci := 2) (q0 := 1) rfl rfl, PW.go hP hK hD hE⟩ rfl rfl hl.1 rfl (lv_room (Nat.le_of_ble_eq_true rfl)) dX2_determineShares_40 ⟨Nat.le_of_ble_eq_true rfl, Nat.le_of_ble_eq_true rfl⟩) (fun u H locs h_6 hP hD hS => ?_)
          refine lv_lload hx hb dX2_determineShares_43 (lv_at hl 0 rfl) ?_
          refine lv_lstore_n (lv' := [(1, .long (((ds (weO p eq 5) (k1)).1) (6 * (k1 + 1) + (k1 + 1)))), (4, .long (((ds (weO p eq 5) (k1)).1) (6 * (k1 + 1) + (k1 + 1)))), (3, .int (nI (k1 + 1))), (0, .ref (a 1))]) hx hb dX2_determineShares_45 rfl hl (by decide) rfl (fun ls hl => ?_)
          refine lv_iinc (v := nI (k1 + 1 + 1)) (lv' := [(3, .int (nI (k1 + 1 + 1))), (1, .long (((ds (weO p eq 5) (k1)).1) (6 * (k1 + 1) + (k1 + 1)))), (4, .long (((ds (weO p eq 5) (k1)).1) (6 * (k1 + 1) + (k1 + 1)))), (0, .ref (a 1))]) hx hb dX2_determineShares_46 hl (k := 2) rfl (nI_1 (k1 + 1)) (by decide) rfl (fun ls hl => ?_)
          refine lv_goto (tgt := 8) hx hb dX2_determineShares_49 (by decide) ?_
          have e_7 : (ds (weO p eq 5) (k1 + 1)).2 = ((ds (weO p eq 5) (k1)).1) (6 * (k1 + 1) + (k1 + 1)) := by first | rfl | exact if_pos (by assumption) | exact if_neg (by assumption) | (simp only [n_4, n_5, Bool.false_eq_true, ↓reduceIte])
          have e_8 : (ds (weO p eq 5) (k1 + 1)).1 = ccK ((ds (weO p eq 5) (k1)).1) (k1 + 1) (((ds (weO p eq 5) (k1)).1) (6 * (k1 + 1) + (k1 + 1))) ((ds (weO p eq 5) (k1)).2) 5 := by first | rfl | exact if_pos (by assumption) | exact if_neg (by assumption) | (simp only [n_4, n_5, Bool.false_eq_true, ↓reduceIte])
          exact ih1 (k1 + 1) (by omega) (lt_s hy1_0 n_5) _ _ ls (by rw [e_8]; exact hP) (by rw [e_8]; exact hD) hS (by rw [e_7]; exact lv_sub hl [0, 1, 3] rfl)
        · have n_5 : ¬ (0 < ((ds (weO p eq 5) (k1)).1) (6 * (k1 + 1) + (k1 + 1))) := fun h => c_5 ((lg_cmp_gt _ _).mpr h)
          refine lv_iconst (v := 0) hx hb dX2_determineShares_33 (by decide) ?_
          subst hZ
          refine W.zret hx hb hr (by decide) (fun t ht hW => ?_) hS.2.2 dX2_determineShares_34
          refine ⟨⟨_, ((ds (weO p eq 5) (k1)).1, nu, de), rfl, ?_, ?_, va_K.moved hW.alike hK, ?_⟩, hS.F ht⟩
          · try dsimp only
            exact (Or.inr ⟨rfl, fun h9 => absurd (h9 k1 hk1b) n_5, rfl, rfl⟩)
          · rw [ht]
            try dsimp only
            exact hP
          · try dsimp only
            exact hD
  exact L1 (5) 0 (by omega) (fun j h9 => absurd h9 (Nat.not_lt_zero j)) _ _ ls hP hD hS (lv_sub hl [0, 1, 2] rfl)

abbrev rmX2_take : Room := ({ frames := 4, cells := 0, slots := 0, locals := 104 } : Room)
set_option maxHeartbeats 4000000 in
set_option maxRecDepth 100000 in
theorem c_X2_take (ll : Launch) (D : va_G) (a : Nat → Nat) (cI cJ : ClassId) (sz : Nat) (p : Nat → Int32) (nu de eq : Nat → Int64) (am nx oA oD oE oP cR aR hR cl ad gw pr : Nat → Int32) (n : Int32) (o c : Nat) (x : Int32) (ho : o < 6) (hc : c < 6) : Met ll yX2_take wsX2_take rmX2_take (va_Pc [.ref (a 1), .int (nI (o)), .int (nI (c)), .int (x)] (PW D (tyG cI cJ) (GW a cI cJ p nu de eq am nx oA oD oE oP cR aR hR cl ad gw pr n) sz)) (va_Qi (fun (rr : Int32) (u : (Nat → Int32) × (Nat → Int64) × (Nat → Int64) × (Nat → Int64)) => (rr = 1 ∧ tkOK p eq o c x ∧ u.1 = upd p (6 * o + c) x ∧ u.2.2.1 = ksN (ds (weO (upd p (6 * o + c) x) eq 5) 5).1 (ds (weO (upd p (6 * o + c) x) eq 5) 5).2 nu 5 ∧ u.2.2.2 = ksD (ds (weO (upd p (6 * o + c) x) eq 5) 5).1 (ds (weO (upd p (6 * o + c) x) eq 5) 5).2 de 5) ∨ (rr = 0 ∧ ¬ tkOK p eq o c x ∧ u.1 = p ∧ u.2.2.1 = nu ∧ u.2.2.2 = de)) (fun (u : (Nat → Int32) × (Nat → Int64) × (Nat → Int64) × (Nat → Int64)) t => AW D (tyG cI cJ) (va_A (GW a cI cJ p nu de eq am nx oA oD oE oP cR aR hR cl ad gw pr n) sz) (GW a cI cJ (u.1) (u.2.2.1) (u.2.2.2) (u.2.1) am nx oA oD oE oP cR aR hR cl ad gw pr n) t) (va_A (GW a cI cJ p nu de eq am nx oA oD oE oP cR aR hR cl ad gw pr n) sz)) 0 0 (va_A (GW a cI cJ p nu de eq am nx oA oD oE oP cR aR hR cl ad gw pr n) sz) := by
  refine Met.ofW (cc := cX2_take) (maxL := 7) (ret := (some .boolean)) (by decide) rfl ?_
  intro pp ee ss mm ar bel mth cd s₁ B hml hv
  obtain ⟨rfl, hsz, hP, hK, hD0, hE⟩ := hv
  have hx := B.exec
  have hb := B.bytes
  have hr := B.returns
  have hts := atoms_spec (ws := wsX2_take) B.pre
  have hown : ss.vm.findClass RX2 = some mm.cls := findClass_of_methodNamed B.named
  have hlocks := B.notSynchronized
  subst hsz
  have hD := hD0.self (sz := ss.heap.size)
  generalize hAe : va_A (GW a cI cJ p nu de eq am nx oA oD oE oP cR aR hR cl ad gw pr n) ss.heap.size = A at hD ⊢
  have hA : ∀ q : Nat, ss.heap.size ≤ q → A q := fun q h => by rw [← hAe]; exact Or.inr h
  have hS : va_S A ss.heap ss.heap [] := va_S.rf
  have hin : ∀ w ∈ wsX20, w.before ([.ref (a 1), .int (nI (o)), .int (nI (c)), .int (x)] : List Value).toArray ss = true := fun w h => hts w ((by decide +kernel : ∀ w ∈ wsX20, w ∈ wsX2_take) w h)
  have hl := lv_entry [.ref (a 1), .int (nI (o)), .int (nI (c)), .int (x)] (n := 7) (Nat.le_of_ble_eq_true rfl)
  rw [lg_entry_eq]
  generalize (lg_sl [.ref (a 1), .int (nI (o)), .int (nI (c)), .int (x)] ++ List.replicate (7 - (lg_sl [.ref (a 1), .int (nI (o)), .int (nI (c)), .int (x)]).length) Slot.unset).toArray = ls at hl ⊢
  have hl : lv_has ls 7 [(0, .ref (a 1)), (1, .int (nI (o))), (2, .int (nI (c))), (3, .int (x))] := hl
  refine lv_iload_n hx hb dX2_take_0 rfl (lv_at hl 1 rfl) ?_
  refine lv_iload_n hx hb dX2_take_1 rfl (lv_at hl 2 rfl) ?_
  refine b_csi (v := nI (6 * o + c)) ((va_runSN (As := [.int (nI (o)), .int (nI (c))]) (rest := []) ⟨hx, hb, hml, hown, hts⟩ (c_X3_pair ll o c ) ⟨va_cnB 2 hts gX2_take_X3_pair_n31 rfl rfl rfl (hE.nest 5 rfl) (hts (.initialized RX3) (by decide +kernel)) (by decide +kernel) ⟨Nat.le_of_ble_eq_true rfl, Nat.le_of_ble_eq_true rfl⟩, hts (.static yX3_pair) (by decide +kernel), trivial⟩ ⟨PT.blind, PT.to⟩ rfl rfl hl.1 rfl (lv_room (Nat.le_of_ble_eq_true rfl)) dX2_take_2 ⟨Nat.le_of_ble_eq_true rfl, Nat.le_of_ble_eq_true rfl⟩).run) ?_
  refine lv_istore (lv' := [(4, .int (nI (6 * o + c))), (0, .ref (a 1)), (1, .int (nI (o))), (2, .int (nI (c))), (3, .int (x))]) hx hb dX2_take_5 hl (by decide) rfl (fun ls hl => ?_)
  refine lv_aload_n hx hb dX2_take_7 rfl (lv_at hl 1 rfl) ?_
  refine va_get (D := D) (ci := 2) (v := .ref (a 6)) (C := RX2) (T := TX2) (N := 6) (Ts := wsX20) hx hb hin (fun _ h9 => h9) hown hK hP 1 rfl rfl 0 (by decide) (hts (.fieldLink RX2 9 "Groupbooks$Holdings" "percents" "[I") (by decide +kernel)) (fun _ h9 => h9) rfl dX2_take_8 ?_
  refine lv_iload hx hb dX2_take_11 (lv_at hl 0 rfl) ?_
  refine b_iald hx hb hK hP 6 0 (f := p) rfl rfl (j := 6 * o + c) (by omega) (by decide) dX2_take_13 ?_
  refine lv_istore (lv' := [(5, .int (p (6 * o + c))), (4, .int (nI (6 * o + c))), (0, .ref (a 1)), (1, .int (nI (o))), (2, .int (nI (c))), (3, .int (x))]) hx hb dX2_take_14 hl (by decide) rfl (fun ls hl => ?_)
  refine lv_aload_n hx hb dX2_take_16 rfl (lv_at hl 2 rfl) ?_
  refine lv_iload_n hx hb dX2_take_17 rfl (lv_at hl 4 rfl) ?_
  refine b_csi (v := sI (fun o => p (6 * o + c)) 6) (W.runV (As := [.int (nI (c))]) (rest := []) ⟨hx, hb, hml, hown, hts⟩ (c_X2_heldByAll ll D a cI cJ p nu de eq am nx oA oD oE oP cR aR hR cl ad gw pr n c (by omega)) (cwV 1 hts gX2_take_X2_heldByAll rfl rfl rfl (by decide +kernel) ⟨Nat.le_of_ble_eq_true rfl, Nat.le_of_ble_eq_true rfl⟩) ⟨PR.blind, va_recv hK hP (ci := 2) (q0 := 1) rfl rfl, PR.go hP hK hE⟩ rfl rfl hl.1 rfl (lv_room (Nat.le_of_ble_eq_true rfl)) dX2_take_18 ⟨Nat.le_of_ble_eq_true rfl, Nat.le_of_ble_eq_true rfl⟩) ?_
  refine lv_iload hx hb dX2_take_21 (lv_at hl 0 rfl) ?_
  refine lv_isub hx hb dX2_take_23 ?_
  refine lv_iload_n hx hb dX2_take_24 rfl (lv_at hl 5 rfl) ?_
  refine lv_iadd hx hb dX2_take_25 ?_
  refine lv_bipush (v := 100) hx hb dX2_take_26 (by decide) ?_
  refine lv_icmp_le (tgt := 33) hx hb dX2_take_28 (by decide) (fun c_1 => ?_) (fun c_1 => ?_)
  · have n_1 := c_1
    refine lv_aload_n hx hb dX2_take_33 rfl (lv_at hl 2 rfl) ?_
    refine va_get (D := D) (ci := 2) (v := .ref (a 6)) (C := RX2) (T := TX2) (N := 6) (Ts := wsX20) hx hb hin (fun _ h9 => h9) hown hK hP 1 rfl rfl 0 (by decide) (hts (.fieldLink RX2 9 "Groupbooks$Holdings" "percents" "[I") (by decide +kernel)) (fun _ h9 => h9) rfl dX2_take_34 ?_
    refine lv_iload hx hb dX2_take_37 (lv_at hl 1 rfl) ?_
    refine lv_iload_n hx hb dX2_take_39 rfl (lv_at hl 5 rfl) ?_
    refine b_iast (w' := GW a cI cJ (upd p (6 * o + c) (x)) nu de eq am nx oA oD oE oP cR aR hR cl ad gw pr n) hx hb hK hP hD hS 6 0 (f := p) rfl rfl (j := 6 * o + c) (by omega) (by decide) rfl dX2_take_40 (fun H locs hP hD hS => ?_)
    refine lv_aload_n hx hb dX2_take_41 rfl (lv_at hl 2 rfl) ?_
    refine b_calli0 (S := (Nat → Int64) × (Nat → Int64) × (Nat → Int64)) (w' := fun u_2 => GW a cI cJ (upd p (6 * o + c) (x)) (u_2.2.1) (u_2.2.2) (u_2.1) am nx oA oD oE oP cR aR hR cl ad gw pr n) hP hD hS hA (va_runV (As := []) (rest := []) ⟨hx, hb, hml, hown, hts⟩ (c_X2_determineShares ll D a cI cJ _ (upd p (6 * o + c) (x)) nu de eq am nx oA oD oE oP cR aR hR cl ad gw pr n  ) (cwV 0 hts gX2_take_X2_determineShares rfl rfl rfl (by decide +kernel) ⟨Nat.le_of_ble_eq_true rfl, Nat.le_of_ble_eq_true rfl⟩) ⟨PW.blind, va_recv hK hP (ci := 2) (q0 := 1) rfl rfl, PW.go hP hK hD hE⟩ rfl rfl hl.1 rfl (lv_room (Nat.le_of_ble_eq_true rfl)) dX2_take_42 ⟨Nat.le_of_ble_eq_true rfl, Nat.le_of_ble_eq_true rfl⟩) (fun r_4 u_2 H locs h_3 hP hD hS => ?_)
    rcases h_3 with ⟨h9a, h9b, h9c, h9d⟩ | ⟨h9a, h9b, h9c, h9d⟩
    · subst h9a
      refine lv_istore (lv' := [(6, .int (1)), (5, .int (p (6 * o + c))), (4, .int (nI (6 * o + c))), (0, .ref (a 1)), (1, .int (nI (o))), (2, .int (nI (c))), (3, .int (x))]) hx hb dX2_take_45 hl (by decide) rfl (fun ls hl => ?_)
      refine lv_iload hx hb dX2_take_47 (lv_at hl 0 rfl) ?_
      refine lv_if_ne (tgt := 61) hx hb dX2_take_49 (by decide) (fun c_5 => ?_) (fun c_5 => ?_)
      · have n_5 := c_5
        refine lv_iload hx hb dX2_take_61 (lv_at hl 0 rfl) ?_
        refine W.zret hx hb hr (by decide) (fun t ht hW => ?_) hS.2.2 dX2_take_63
        refine ⟨⟨_, (upd p (6 * o + c) (x), u_2.1, u_2.2.1, u_2.2.2), rfl, ?_, ?_, va_K.moved hW.alike hK, ?_⟩, hS.F ht⟩
        · try dsimp only
          exact (Or.inl ⟨rfl, ⟨Int32.not_lt.mpr n_1, h9b⟩, rfl, h9c, h9d⟩)
        · rw [ht]
          try dsimp only
          exact hP
        · try dsimp only
          exact hD
      · have n_5 := c_5
        exact absurd c_5 (by decide)
    · subst h9a
      refine lv_istore (lv' := [(6, .int (0)), (5, .int (p (6 * o + c))), (4, .int (nI (6 * o + c))), (0, .ref (a 1)), (1, .int (nI (o))), (2, .int (nI (c))), (3, .int (x))]) hx hb dX2_take_45 hl (by decide) rfl (fun ls hl => ?_)
      refine lv_iload hx hb dX2_take_47 (lv_at hl 0 rfl) ?_
      refine lv_if_ne (tgt := 61) hx hb dX2_take_49 (by decide) (fun c_6 => ?_) (fun c_6 => ?_)
      · have n_6 := c_6
        exact absurd c_6 (by decide)
      · have n_6 := c_6
        refine lv_aload_n hx hb dX2_take_52 rfl (lv_at hl 3 rfl) ?_
        refine va_get (D := D) (ci := 2) (v := .ref (a 6)) (C := RX2) (T := TX2) (N := 6) (Ts := wsX20) hx hb hin (fun _ h9 => h9) hown hK hP 1 rfl rfl 0 (by decide) (hts (.fieldLink RX2 9 "Groupbooks$Holdings" "percents" "[I") (by decide +kernel)) (fun _ h9 => h9) rfl dX2_take_53 ?_
        refine lv_iload hx hb dX2_take_56 (lv_at hl 2 rfl) ?_
        refine lv_iload hx hb dX2_take_58 (lv_at hl 1 rfl) ?_
        refine b_iast (w' := GW a cI cJ (upd (upd p (6 * o + c) (x)) (6 * o + c) (p (6 * o + c))) (u_2.2.1) (u_2.2.2) (u_2.1) am nx oA oD oE oP cR aR hR cl ad gw pr n) hx hb hK hP hD hS 6 0 (f := (upd p (6 * o + c) (x))) rfl rfl (j := 6 * o + c) (by omega) (by decide) rfl dX2_take_60 (fun H locs hP hD hS => ?_)
        refine lv_iload hx hb dX2_take_61 (lv_at hl 0 rfl) ?_
        refine W.zret hx hb hr (by decide) (fun t ht hW => ?_) hS.2.2 dX2_take_63
        refine ⟨⟨_, (upd (upd p (6 * o + c) (x)) (6 * o + c) (p (6 * o + c)), u_2.1, u_2.2.1, u_2.2.2), rfl, ?_, ?_, va_K.moved hW.alike hK, ?_⟩, hS.F ht⟩
        · try dsimp only
          exact (Or.inr ⟨rfl, fun h9 => absurd h9.2 h9b, upd_back _ _ _, h9c, h9d⟩)
        · rw [ht]
          try dsimp only
          exact hP
        · try dsimp only
          exact hD
  · have n_1 := c_1
    refine lv_iconst (v := 0) hx hb dX2_take_31 (by decide) ?_
    refine W.zret hx hb hr (by decide) (fun t ht hW => ?_) hS.2.2 dX2_take_32
    refine ⟨⟨_, (p, eq, nu, de), rfl, ?_, ?_, va_K.moved hW.alike hK, ?_⟩, hS.F ht⟩
    · try dsimp only
      exact (Or.inr ⟨rfl, fun h9 => absurd (Int32.not_lt.mp h9.1) n_1, rfl, rfl, rfl⟩)
    · rw [ht]
      try dsimp only
      exact hP
    · try dsimp only
      exact hD
