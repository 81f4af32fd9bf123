abbrev rmX0_init : Room := ({ frames := 1, cells := 2, slots := 72, locals := 40 } : Room)
set_option maxHeartbeats 4000000 in
set_option maxRecDepth 100000 in
theorem c_X0_init (ll : Launch) (D : va_G) (cI cJ : ClassId) (sz : Nat) (b0 : Nat) : Met ll yX0_init wsX0_init rmX0_init (va_Pc [.ref (b0)] (PW D (tyG cI cJ) [(b0, .inr (0, [.null, .null]))] sz)) (va_Qv (fun (u : Nat → Nat) => u 0 = b0) (fun (u : Nat → Nat) t => AW D (tyG cI cJ) (va_A [(b0, .inr (0, [.null, .null]))] sz) (IW0 u cI cJ z32 z32) t) (va_A [(b0, .inr (0, [.null, .null]))] sz)) 2 72 (va_A [(b0, .inr (0, [.null, .null]))] sz) := by
  refine Met.ofW (cc := cX0_init) (maxL := 1) (ret := none) (by decide) rfl ?_
  intro pp ee ss mm ar bel mth cde s₁ B hml hv
  obtain ⟨rfl, hsz, hP, hK, hD0, hE⟩ := hv
  have hx := B.exec
  have hb := B.bytes
  have hr := B.returns
  have hts := atoms_spec (ws := wsX0_init) B.pre
  have hown : ss.vm.findClass RX0 = some mm.cls := findClass_of_methodNamed B.named
  have hlocks := B.notSynchronized
  have hini : mth.name = "<init>" := (name_of_methodNamed B.named B.method).1
  subst hsz
  have hD := hD0.self (sz := ss.heap.size)
  generalize hAe : va_A [(b0, .inr (0, [.null, .null]))] ss.heap.size = A at hD ⊢
  have hA : ∀ q : Nat, ss.heap.size ≤ q → A q := fun q h => by rw [← hAe]; exact Or.inr h
  have hS : va_S A ss.heap ss.heap [] := va_S.rf
  have hP : va_P D vwCl [(b0, .inr (0, [.null, .null]))] ss.heap := hP
  have hin : ∀ w ∈ wsX00, w.before ([.ref b0] : List Value).toArray ss = true := fun w h => hts w ((by decide +kernel : ∀ w ∈ wsX00, w ∈ wsX0_init) w h)
  have hl := lv_entry [.ref b0] (n := 1) (Nat.le_of_ble_eq_true rfl)
  rw [lg_entry_eq]
  generalize (lg_sl [.ref b0] ++ List.replicate (1 - (lg_sl [.ref b0]).length) Slot.unset).toArray = ls at hl ⊢
  have hl : lv_has ls 1 [(0, .ref b0)] := hl
  refine lv_aload_n hx hb dX0_init_0 rfl (lv_at hl 0 rfl) ?_
  refine W.objInit hx hb hown (hts (.methodLink RX0 3 objectInit) (by decide +kernel)) (hts (.instanceMethod objectInit) (by decide +kernel)) (hts _ (List.mem_of_getElem? (i := 3) rfl)) rfl (by rw [hml]; exact hl.1) rfl dX0_init_1 (Nat.le_of_ble_eq_true rfl) (Nat.le_of_ble_eq_true rfl) ?_
  refine W.eq (g2 := F0 mm 4 ls []) rfl ?_
  refine lv_aload_n hx hb dX0_init_4 rfl (lv_at hl 0 rfl) ?_
  refine lv_bipush (v := 36) hx hb dX0_init_5 (by decide) ?_
  refine b_newI (N := 36) hx hb (hts (.arrayClass .int) (by decide +kernel)) hK hP hD hS hA (by decide) (by decide) (by decide) (Nat.le_of_ble_eq_true rfl) (Nat.le_of_ble_eq_true rfl) dX0_init_7 (fun q1 H hP hD hS => ?_)
  have hP : va_P D vwCl [(b0, .inr (0, [.null, .null])), (q1, eI cI 36 z32)] H := hP
  have hD : va_D A [(b0, .inr (0, [.null, .null])), (q1, eI cI 36 z32)] := hD
  refine W.widen (k := 1) (n := 36) (Nat.le_of_ble_eq_true rfl) (Nat.le_of_ble_eq_true rfl) ?_
  refine va_putF (D := D) (ci := 0) (v := .ref q1) (ty := .array .int) (C := RX0) (T := TX0) (N := 2) (Ts := wsX00) hx hb hin (fun _ h9 => h9) tyX0 tyX0_ok nmX0 hown hK hP hD hS 0 rfl rfl 0 (by decide) (hts (.fieldLink RX0 9 "Groupbooks$Balances" "claims" "[I") (by decide +kernel)) (fun _ h9 => h9) rfl hini rfl (by decide +kernel) rfl rfl (Nat.le_of_ble_eq_true rfl) dX0_init_9 (fun H locs hP hD hS => ?_)
  have hP : va_P D vwCl [(b0, .inr (0, [.ref q1, .null])), (q1, eI cI 36 z32)] H := hP
  have hD : va_D A [(b0, .inr (0, [.ref q1, .null])), (q1, eI cI 36 z32)] := hD
  refine lv_aload_n hx hb dX0_init_12 rfl (lv_at hl 0 rfl) ?_
  refine lv_bipush (v := 36) hx hb dX0_init_13 (by decide) ?_
  refine b_newI (N := 36) hx hb (hts (.arrayClass .int) (by decide +kernel)) hK hP hD hS hA (by decide) (by decide) (by decide) (Nat.le_of_ble_eq_true rfl) (Nat.le_of_ble_eq_true rfl) dX0_init_15 (fun q2 H hP hD hS => ?_)
  have hP : va_P D vwCl [(b0, .inr (0, [.ref q1, .null])), (q1, eI cI 36 z32), (q2, eI cI 36 z32)] H := hP
  have hD : va_D A [(b0, .inr (0, [.ref q1, .null])), (q1, eI cI 36 z32), (q2, eI cI 36 z32)] := hD
  refine W.widen (k := 2) (n := 72) (Nat.le_of_ble_eq_true rfl) (Nat.le_of_ble_eq_true rfl) ?_
  refine va_putF (D := D) (ci := 0) (v := .ref q2) (ty := .array .int) (C := RX0) (T := TX0) (N := 2) (Ts := wsX00) hx hb hin (fun _ h9 => h9) tyX0 tyX0_ok nmX0 hown hK hP hD hS 0 rfl rfl 1 (by decide) (hts (.fieldLink RX0 15 "Groupbooks$Balances" "admissions" "[I") (by decide +kernel)) (fun _ h9 => h9) rfl hini rfl (by decide +kernel) rfl rfl (Nat.le_of_ble_eq_true rfl) dX0_init_17 (fun H locs hP hD hS => ?_)
  have hP : va_P D vwCl [(b0, .inr (0, [.ref q1, .ref q2])), (q1, eI cI 36 z32), (q2, eI cI 36 z32)] H := hP
  have hD : va_D A [(b0, .inr (0, [.ref q1, .ref q2])), (q1, eI cI 36 z32), (q2, eI cI 36 z32)] := hD
  obtain ⟨a, ha⟩ : ∃ a : Nat → Nat, a = fun k => ([b0, q1, q2].getD k 0) := ⟨_, rfl⟩
  have hP : va_P D vwCl (IW0 a cI cJ z32 z32) H := by rw [ha]; exact hP
  have hD : va_D A (IW0 a cI cJ z32 z32) := by rw [ha]; exact hD
  have hE0 : a 0 = b0 := by rw [ha]; rfl
  have hl : lv_has ls 1 [(0, .ref (a 0))] := by rw [hE0]; exact hl
  exact W.vret hx hb hr (fun t ht hW => ⟨⟨a, rfl, hE0, (by rw [ht]; exact hP), va_K.moved hW.alike hK, hD⟩, hS.F ht⟩) hS.2.2 dX0_init_20

abbrev rmX1_init : Room := ({ frames := 1, cells := 7, slots := 42, locals := 40 } : Room)
set_option maxHeartbeats 4000000 in
set_option maxRecDepth 100000 in
theorem c_X1_init (ll : Launch) (D : va_G) (cI cJ : ClassId) (sz : Nat) (b0 : Nat) : Met ll yX1_init wsX1_init rmX1_init (va_Pc [.ref (b0)] (PW D (tyG cI cJ) [(b0, .inr (1, [.null, .null, .null, .null, .null, .null, .null]))] sz)) (va_Qv (fun (u : Nat → Nat) => u 0 = b0) (fun (u : Nat → Nat) t => AW D (tyG cI cJ) (va_A [(b0, .inr (1, [.null, .null, .null, .null, .null, .null, .null]))] sz) (IW1 u cI cJ z32 z32 z32 z32 (rtI 6) (rtI 6) (rtI 6)) t) (va_A [(b0, .inr (1, [.null, .null, .null, .null, .null, .null, .null]))] sz)) 7 42 (va_A [(b0, .inr (1, [.null, .null, .null, .null, .null, .null, .null]))] sz) := by
  refine Met.ofW (cc := cX1_init) (maxL := 2) (ret := none) (by decide) rfl ?_
  intro pp ee ss mm ar bel mth cde s₁ B hml hv
  obtain ⟨rfl, hsz, hP, hK, hD0, hE⟩ := hv
  have hx := B.exec
  have hb := B.bytes
  have hr := B.returns
  have hts := atoms_spec (ws := wsX1_init) B.pre
  have hown : ss.vm.findClass RX1 = some mm.cls := findClass_of_methodNamed B.named
  have hlocks := B.notSynchronized
  have hini : mth.name = "<init>" := (name_of_methodNamed B.named B.method).1
  subst hsz
  have hD := hD0.self (sz := ss.heap.size)
  generalize hAe : va_A [(b0, .inr (1, [.null, .null, .null, .null, .null, .null, .null]))] ss.heap.size = A at hD ⊢
  have hA : ∀ q : Nat, ss.heap.size ≤ q → A q := fun q h => by rw [← hAe]; exact Or.inr h
  have hS : va_S A ss.heap ss.heap [] := va_S.rf
  have hP : va_P D vwCl [(b0, .inr (1, [.null, .null, .null, .null, .null, .null, .null]))] ss.heap := hP
  have hin : ∀ w ∈ wsX10, w.before ([.ref b0] : List Value).toArray ss = true := fun w h => hts w ((by decide +kernel : ∀ w ∈ wsX10, w ∈ wsX1_init) w h)
  have hl := lv_entry [.ref b0] (n := 2) (Nat.le_of_ble_eq_true rfl)
  rw [lg_entry_eq]
  generalize (lg_sl [.ref b0] ++ List.replicate (2 - (lg_sl [.ref b0]).length) Slot.unset).toArray = ls at hl ⊢
  have hl : lv_has ls 2 [(0, .ref b0)] := hl
  generalize hZ : MQ bel _ _ ss _ _ _ = Z
  refine lv_aload_n hx hb dX1_init_0 rfl (lv_at hl 0 rfl) ?_
  refine W.objInit hx hb hown (hts (.methodLink RX1 3 objectInit) (by decide +kernel)) (hts (.instanceMethod objectInit) (by decide +kernel)) (hts _ (List.mem_of_getElem? (i := 3) rfl)) rfl (by rw [hml]; exact hl.1) rfl dX1_init_1 (Nat.le_of_ble_eq_true rfl) (Nat.le_of_ble_eq_true rfl) ?_
  refine W.eq (g2 := F0 mm 4 ls []) rfl ?_
  refine lv_aload_n hx hb dX1_init_4 rfl (lv_at hl 0 rfl) ?_
  refine lv_bipush (v := 6) hx hb dX1_init_5 (by decide) ?_
  refine b_newI (N := 6) hx hb (hts (.arrayClass .int) (by decide +kernel)) hK hP hD hS hA (by decide) (by decide) (by decide) (Nat.le_of_ble_eq_true rfl) (Nat.le_of_ble_eq_true rfl) dX1_init_7 (fun q1 H hP hD hS => ?_)
  have hP : va_P D vwCl [(b0, .inr (1, [.null, .null, .null, .null, .null, .null, .null])), (q1, eI cI 6 z32)] H := hP
  have hD : va_D A [(b0, .inr (1, [.null, .null, .null, .null, .null, .null, .null])), (q1, eI cI 6 z32)] := hD
  refine W.widen (k := 1) (n := 6) (Nat.le_of_ble_eq_true rfl) (Nat.le_of_ble_eq_true rfl) ?_
  refine va_putF (D := D) (ci := 1) (v := .ref q1) (ty := .array .int) (C := RX1) (T := TX1) (N := 7) (Ts := wsX10) hx hb hin (fun _ h9 => h9) tyX1 tyX1_ok nmX1 hown hK hP hD hS 0 rfl rfl 0 (by decide) (hts (.fieldLink RX1 9 "Groupbooks$Books" "ownAssets" "[I") (by decide +kernel)) (fun _ h9 => h9) rfl hini rfl (by decide +kernel) rfl rfl (Nat.le_of_ble_eq_true rfl) dX1_init_9 (fun H locs hP hD hS => ?_)
  have hP : va_P D vwCl [(b0, .inr (1, [.ref q1, .null, .null, .null, .null, .null, .null])), (q1, eI cI 6 z32)] H := hP
  have hD : va_D A [(b0, .inr (1, [.ref q1, .null, .null, .null, .null, .null, .null])), (q1, eI cI 6 z32)] := hD
  refine lv_aload_n hx hb dX1_init_12 rfl (lv_at hl 0 rfl) ?_
  refine lv_bipush (v := 6) hx hb dX1_init_13 (by decide) ?_
  refine b_newI (N := 6) hx hb (hts (.arrayClass .int) (by decide +kernel)) hK hP hD hS hA (by decide) (by decide) (by decide) (Nat.le_of_ble_eq_true rfl) (Nat.le_of_ble_eq_true rfl) dX1_init_15 (fun q2 H hP hD hS => ?_)
  have hP : va_P D vwCl [(b0, .inr (1, [.ref q1, .null, .null, .null, .null, .null, .null])), (q1, eI cI 6 z32), (q2, eI cI 6 z32)] H := hP
  have hD : va_D A [(b0, .inr (1, [.ref q1, .null, .null, .null, .null, .null, .null])), (q1, eI cI 6 z32), (q2, eI cI 6 z32)] := hD
  refine W.widen (k := 2) (n := 12) (Nat.le_of_ble_eq_true rfl) (Nat.le_of_ble_eq_true rfl) ?_
  refine va_putF (D := D) (ci := 1) (v := .ref q2) (ty := .array .int) (C := RX1) (T := TX1) (N := 7) (Ts := wsX10) hx hb hin (fun _ h9 => h9) tyX1 tyX1_ok nmX1 hown hK hP hD hS 0 rfl rfl 1 (by decide) (hts (.fieldLink RX1 15 "Groupbooks$Books" "ownDebts" "[I") (by decide +kernel)) (fun _ h9 => h9) rfl hini rfl (by decide +kernel) rfl rfl (Nat.le_of_ble_eq_true rfl) dX1_init_17 (fun H locs hP hD hS => ?_)
  have hP : va_P D vwCl [(b0, .inr (1, [.ref q1, .ref q2, .null, .null, .null, .null, .null])), (q1, eI cI 6 z32), (q2, eI cI 6 z32)] H := hP
  have hD : va_D A [(b0, .inr (1, [.ref q1, .ref q2, .null, .null, .null, .null, .null])), (q1, eI cI 6 z32), (q2, eI cI 6 z32)] := hD
  refine lv_aload_n hx hb dX1_init_20 rfl (lv_at hl 0 rfl) ?_
  refine lv_bipush (v := 6) hx hb dX1_init_21 (by decide) ?_
  refine b_newI (N := 6) hx hb (hts (.arrayClass .int) (by decide +kernel)) hK hP hD hS hA (by decide) (by decide) (by decide) (Nat.le_of_ble_eq_true rfl) (Nat.le_of_ble_eq_true rfl) dX1_init_23 (fun q3 H hP hD hS => ?_)
  have hP : va_P D vwCl [(b0, .inr (1, [.ref q1, .ref q2, .null, .null, .null, .null, .null])), (q1, eI cI 6 z32), (q2, eI cI 6 z32), (q3, eI cI 6 z32)] H := hP
  have hD : va_D A [(b0, .inr (1, [.ref q1, .ref q2, .null, .null, .null, .null, .null])), (q1, eI cI 6 z32), (q2, eI cI 6 z32), (q3, eI cI 6 z32)] := hD
  refine W.widen (k := 3) (n := 18) (Nat.le_of_ble_eq_true rfl) (Nat.le_of_ble_eq_true rfl) ?_
  refine va_putF (D := D) (ci := 1) (v := .ref q3) (ty := .array .int) (C := RX1) (T := TX1) (N := 7) (Ts := wsX10) hx hb hin (fun _ h9 => h9) tyX1 tyX1_ok nmX1 hown hK hP hD hS 0 rfl rfl 2 (by decide) (hts (.fieldLink RX1 18 "Groupbooks$Books" "ownEquities" "[I") (by decide +kernel)) (fun _ h9 => h9) rfl hini rfl (by decide +kernel) rfl rfl (Nat.le_of_ble_eq_true rfl) dX1_init_25 (fun H locs hP hD hS => ?_)
  have hP : va_P D vwCl [(b0, .inr (1, [.ref q1, .ref q2, .ref q3, .null, .null, .null, .null])), (q1, eI cI 6 z32), (q2, eI cI 6 z32), (q3, eI cI 6 z32)] H := hP
  have hD : va_D A [(b0, .inr (1, [.ref q1, .ref q2, .ref q3, .null, .null, .null, .null])), (q1, eI cI 6 z32), (q2, eI cI 6 z32), (q3, eI cI 6 z32)] := hD
  refine lv_aload_n hx hb dX1_init_28 rfl (lv_at hl 0 rfl) ?_
  refine lv_bipush (v := 6) hx hb dX1_init_29 (by decide) ?_
  refine b_newI (N := 6) hx hb (hts (.arrayClass .int) (by decide +kernel)) hK hP hD hS hA (by decide) (by decide) (by decide) (Nat.le_of_ble_eq_true rfl) (Nat.le_of_ble_eq_true rfl) dX1_init_31 (fun q4 H hP hD hS => ?_)
  have hP : va_P D vwCl [(b0, .inr (1, [.ref q1, .ref q2, .ref q3, .null, .null, .null, .null])), (q1, eI cI 6 z32), (q2, eI cI 6 z32), (q3, eI cI 6 z32), (q4, eI cI 6 z32)] H := hP
  have hD : va_D A [(b0, .inr (1, [.ref q1, .ref q2, .ref q3, .null, .null, .null, .null])), (q1, eI cI 6 z32), (q2, eI cI 6 z32), (q3, eI cI 6 z32), (q4, eI cI 6 z32)] := hD
  refine W.widen (k := 4) (n := 24) (Nat.le_of_ble_eq_true rfl) (Nat.le_of_ble_eq_true rfl) ?_
  refine va_putF (D := D) (ci := 1) (v := .ref q4) (ty := .array .int) (C := RX1) (T := TX1) (N := 7) (Ts := wsX10) hx hb hin (fun _ h9 => h9) tyX1 tyX1_ok nmX1 hown hK hP hD hS 0 rfl rfl 3 (by decide) (hts (.fieldLink RX1 21 "Groupbooks$Books" "ownProfits" "[I") (by decide +kernel)) (fun _ h9 => h9) rfl hini rfl (by decide +kernel) rfl rfl (Nat.le_of_ble_eq_true rfl) dX1_init_33 (fun H locs hP hD hS => ?_)
  have hP : va_P D vwCl [(b0, .inr (1, [.ref q1, .ref q2, .ref q3, .ref q4, .null, .null, .null])), (q1, eI cI 6 z32), (q2, eI cI 6 z32), (q3, eI cI 6 z32), (q4, eI cI 6 z32)] H := hP
  have hD : va_D A [(b0, .inr (1, [.ref q1, .ref q2, .ref q3, .ref q4, .null, .null, .null])), (q1, eI cI 6 z32), (q2, eI cI 6 z32), (q3, eI cI 6 z32), (q4, eI cI 6 z32)] := hD
  refine lv_aload_n hx hb dX1_init_36 rfl (lv_at hl 0 rfl) ?_
  refine lv_bipush (v := 6) hx hb dX1_init_37 (by decide) ?_
  refine b_newI (N := 6) hx hb (hts (.arrayClass .int) (by decide +kernel)) hK hP hD hS hA (by decide) (by decide) (by decide) (Nat.le_of_ble_eq_true rfl) (Nat.le_of_ble_eq_true rfl) dX1_init_39 (fun q5 H hP hD hS => ?_)
  have hP : va_P D vwCl [(b0, .inr (1, [.ref q1, .ref q2, .ref q3, .ref q4, .null, .null, .null])), (q1, eI cI 6 z32), (q2, eI cI 6 z32), (q3, eI cI 6 z32), (q4, eI cI 6 z32), (q5, eI cI 6 z32)] H := hP
  have hD : va_D A [(b0, .inr (1, [.ref q1, .ref q2, .ref q3, .ref q4, .null, .null, .null])), (q1, eI cI 6 z32), (q2, eI cI 6 z32), (q3, eI cI 6 z32), (q4, eI cI 6 z32), (q5, eI cI 6 z32)] := hD
  refine W.widen (k := 5) (n := 30) (Nat.le_of_ble_eq_true rfl) (Nat.le_of_ble_eq_true rfl) ?_
  refine va_putF (D := D) (ci := 1) (v := .ref q5) (ty := .array .int) (C := RX1) (T := TX1) (N := 7) (Ts := wsX10) hx hb hin (fun _ h9 => h9) tyX1 tyX1_ok nmX1 hown hK hP hD hS 0 rfl rfl 4 (by decide) (hts (.fieldLink RX1 24 "Groupbooks$Books" "closingRates" "[I") (by decide +kernel)) (fun _ h9 => h9) rfl hini rfl (by decide +kernel) rfl rfl (Nat.le_of_ble_eq_true rfl) dX1_init_41 (fun H locs hP hD hS => ?_)
  have hP : va_P D vwCl [(b0, .inr (1, [.ref q1, .ref q2, .ref q3, .ref q4, .ref q5, .null, .null])), (q1, eI cI 6 z32), (q2, eI cI 6 z32), (q3, eI cI 6 z32), (q4, eI cI 6 z32), (q5, eI cI 6 z32)] H := hP
  have hD : va_D A [(b0, .inr (1, [.ref q1, .ref q2, .ref q3, .ref q4, .ref q5, .null, .null])), (q1, eI cI 6 z32), (q2, eI cI 6 z32), (q3, eI cI 6 z32), (q4, eI cI 6 z32), (q5, eI cI 6 z32)] := hD
  refine lv_aload_n hx hb dX1_init_44 rfl (lv_at hl 0 rfl) ?_
  refine lv_bipush (v := 6) hx hb dX1_init_45 (by decide) ?_
  refine b_newI (N := 6) hx hb (hts (.arrayClass .int) (by decide +kernel)) hK hP hD hS hA (by decide) (by decide) (by decide) (Nat.le_of_ble_eq_true rfl) (Nat.le_of_ble_eq_true rfl) dX1_init_47 (fun q6 H hP hD hS => ?_)
  have hP : va_P D vwCl [(b0, .inr (1, [.ref q1, .ref q2, .ref q3, .ref q4, .ref q5, .null, .null])), (q1, eI cI 6 z32), (q2, eI cI 6 z32), (q3, eI cI 6 z32), (q4, eI cI 6 z32), (q5, eI cI 6 z32), (q6, eI cI 6 z32)] H := hP
  have hD : va_D A [(b0, .inr (1, [.ref q1, .ref q2, .ref q3, .ref q4, .ref q5, .null, .null])), (q1, eI cI 6 z32), (q2, eI cI 6 z32), (q3, eI cI 6 z32), (q4, eI cI 6 z32), (q5, eI cI 6 z32), (q6, eI cI 6 z32)] := hD
  refine W.widen (k := 6) (n := 36) (Nat.le_of_ble_eq_true rfl) (Nat.le_of_ble_eq_true rfl) ?_
  refine va_putF (D := D) (ci := 1) (v := .ref q6) (ty := .array .int) (C := RX1) (T := TX1) (N := 7) (Ts := wsX10) hx hb hin (fun _ h9 => h9) tyX1 tyX1_ok nmX1 hown hK hP hD hS 0 rfl rfl 5 (by decide) (hts (.fieldLink RX1 27 "Groupbooks$Books" "averageRates" "[I") (by decide +kernel)) (fun _ h9 => h9) rfl hini rfl (by decide +kernel) rfl rfl (Nat.le_of_ble_eq_true rfl) dX1_init_49 (fun H locs hP hD hS => ?_)
  have hP : va_P D vwCl [(b0, .inr (1, [.ref q1, .ref q2, .ref q3, .ref q4, .ref q5, .ref q6, .null])), (q1, eI cI 6 z32), (q2, eI cI 6 z32), (q3, eI cI 6 z32), (q4, eI cI 6 z32), (q5, eI cI 6 z32), (q6, eI cI 6 z32)] H := hP
  have hD : va_D A [(b0, .inr (1, [.ref q1, .ref q2, .ref q3, .ref q4, .ref q5, .ref q6, .null])), (q1, eI cI 6 z32), (q2, eI cI 6 z32), (q3, eI cI 6 z32), (q4, eI cI 6 z32), (q5, eI cI 6 z32), (q6, eI cI 6 z32)] := hD
  refine lv_aload_n hx hb dX1_init_52 rfl (lv_at hl 0 rfl) ?_
  refine lv_bipush (v := 6) hx hb dX1_init_53 (by decide) ?_
  refine b_newI (N := 6) hx hb (hts (.arrayClass .int) (by decide +kernel)) hK hP hD hS hA (by decide) (by decide) (by decide) (Nat.le_of_ble_eq_true rfl) (Nat.le_of_ble_eq_true rfl) dX1_init_55 (fun q7 H hP hD hS => ?_)
  have hP : va_P D vwCl [(b0, .inr (1, [.ref q1, .ref q2, .ref q3, .ref q4, .ref q5, .ref q6, .null])), (q1, eI cI 6 z32), (q2, eI cI 6 z32), (q3, eI cI 6 z32), (q4, eI cI 6 z32), (q5, eI cI 6 z32), (q6, eI cI 6 z32), (q7, eI cI 6 z32)] H := hP
  have hD : va_D A [(b0, .inr (1, [.ref q1, .ref q2, .ref q3, .ref q4, .ref q5, .ref q6, .null])), (q1, eI cI 6 z32), (q2, eI cI 6 z32), (q3, eI cI 6 z32), (q4, eI cI 6 z32), (q5, eI cI 6 z32), (q6, eI cI 6 z32), (q7, eI cI 6 z32)] := hD
  refine W.widen (k := 7) (n := 42) (Nat.le_of_ble_eq_true rfl) (Nat.le_of_ble_eq_true rfl) ?_
  refine va_putF (D := D) (ci := 1) (v := .ref q7) (ty := .array .int) (C := RX1) (T := TX1) (N := 7) (Ts := wsX10) hx hb hin (fun _ h9 => h9) tyX1 tyX1_ok nmX1 hown hK hP hD hS 0 rfl rfl 6 (by decide) (hts (.fieldLink RX1 30 "Groupbooks$Books" "historicalRates" "[I") (by decide +kernel)) (fun _ h9 => h9) rfl hini rfl (by decide +kernel) rfl rfl (Nat.le_of_ble_eq_true rfl) dX1_init_57 (fun H locs hP hD hS => ?_)
  have hP : va_P D vwCl [(b0, .inr (1, [.ref q1, .ref q2, .ref q3, .ref q4, .ref q5, .ref q6, .ref q7])), (q1, eI cI 6 z32), (q2, eI cI 6 z32), (q3, eI cI 6 z32), (q4, eI cI 6 z32), (q5, eI cI 6 z32), (q6, eI cI 6 z32), (q7, eI cI 6 z32)] H := hP
  have hD : va_D A [(b0, .inr (1, [.ref q1, .ref q2, .ref q3, .ref q4, .ref q5, .ref q6, .ref q7])), (q1, eI cI 6 z32), (q2, eI cI 6 z32), (q3, eI cI 6 z32), (q4, eI cI 6 z32), (q5, eI cI 6 z32), (q6, eI cI 6 z32), (q7, eI cI 6 z32)] := hD
  obtain ⟨a, ha⟩ : ∃ a : Nat → Nat, a = fun k => ([b0, q1, q2, q3, q4, q5, q6, q7].getD k 0) := ⟨_, rfl⟩
  have hP : va_P D vwCl (IW1 a cI cJ z32 z32 z32 z32 z32 z32 z32) H := by rw [ha]; exact hP
  have hD : va_D A (IW1 a cI cJ z32 z32 z32 z32 z32 z32 z32) := by rw [ha]; exact hD
  have hE0 : a 0 = b0 := by rw [ha]; rfl
  have hl : lv_has ls 2 [(0, .ref (a 0))] := by rw [hE0]; exact hl
  refine lv_iconst (v := 0) hx hb dX1_init_60 (by decide) ?_
  refine lv_istore_n (lv' := [(1, .int (0)), (0, .ref (a 0))]) hx hb dX1_init_61 rfl hl (by decide) rfl (fun ls hl => ?_)
  have L1 : ∀ (n1 k1 : Nat), k1 + n1 = 6 → ∀ (H : Heap) (locs : List Loc) (ls : Array Slot), va_P D vwCl (IW1 a cI cJ z32 z32 z32 z32 (rtI (k1)) (rtI (k1)) (rtI (k1))) H → va_D A (IW1 a cI cJ z32 z32 z32 z32 (rtI (k1)) (rtI (k1)) (rtI (k1))) → va_S A ss.heap H locs → lv_has ls 2 [(1, .int (nI (k1))), (0, .ref (a 0))] → W pp ll ee rmX1_init ss mm (([.ref b0] : List Value).toArray) bel mth cde H locs 7 42 Z (F0 mm 62 ls []) := by
    intro n1
    induction n1 with
    | zero =>
      intro k1 hk1  H locs ls hP hD hS hl
      have hk1b : 6 = k1 := by omega
      subst hk1b
      refine lv_iload_n hx hb dX1_init_62 rfl (lv_at hl 0 rfl) ?_
      refine lv_bipush (v := 6) hx hb dX1_init_63 (by decide) ?_
      refine lv_icmp_ge (tgt := 98) hx hb dX1_init_65 (by decide) (fun c_1 => ?_) (fun c_1 => ?_)
      · have n_1 : (6) ≤ (6) := (nI_leI (a := 6) (b := 6) (by omega) (by omega)).mp c_1
        subst hZ; exact W.vret hx hb hr (fun t ht hW => ⟨⟨a, rfl, hE0, (by rw [ht]; exact hP), va_K.moved hW.alike hK, hD⟩, hS.F ht⟩) hS.2.2 dX1_init_98
      · have n_1 : ¬ ((6) ≤ (6)) := fun h => c_1 ((nI_leI (a := 6) (b := 6) (by omega) (by omega)).mpr h)
        exfalso; omega
    | succ n1 ih1 =>
      intro k1 hk1  H locs ls hP hD hS hl
      have hk1b : k1 < 6 := by omega
      refine lv_iload_n hx hb dX1_init_62 rfl (lv_at hl 0 rfl) ?_
      refine lv_bipush (v := 6) hx hb dX1_init_63 (by decide) ?_
      refine lv_icmp_ge (tgt := 98) hx hb dX1_init_65 (by decide) (fun c_2 => ?_) (fun c_2 => ?_)
      · have n_2 : (6) ≤ (k1) := (nI_leI (a := 6) (b := k1) (by omega) (by omega)).mp c_2
        exfalso; omega
      · have n_2 : ¬ ((6) ≤ (k1)) := fun h => c_2 ((nI_leI (a := 6) (b := k1) (by omega) (by omega)).mpr h)
        refine lv_aload_n hx hb dX1_init_68 rfl (lv_at hl 1 rfl) ?_
        refine va_get (D := D) (ci := 1) (v := .ref (a 5)) (C := RX1) (T := TX1) (N := 7) (Ts := wsX10) hx hb hin (fun _ h9 => h9) hown hK hP 0 rfl rfl 4 (by decide) (hts (.fieldLink RX1 24 "Groupbooks$Books" "closingRates" "[I") (by decide +kernel)) (fun _ h9 => h9) rfl dX1_init_69 ?_
        refine lv_iload_n hx hb dX1_init_72 rfl (lv_at hl 0 rfl) ?_
        refine lv_bipush (v := 100) hx hb dX1_init_73 (by decide) ?_
        refine b_iast (w' := IW1 a cI cJ z32 z32 z32 z32 (upd (rtI (k1)) (k1) (100)) (rtI (k1)) (rtI (k1))) hx hb hK hP hD hS 5 0 (f := (rtI (k1))) rfl rfl (j := k1) (by omega) (by decide) rfl dX1_init_75 (fun H locs hP hD hS => ?_)
        refine lv_aload_n hx hb dX1_init_76 rfl (lv_at hl 1 rfl) ?_
        refine va_get (D := D) (ci := 1) (v := .ref (a 6)) (C := RX1) (T := TX1) (N := 7) (Ts := wsX10) hx hb hin (fun _ h9 => h9) hown hK hP 0 rfl rfl 5 (by decide) (hts (.fieldLink RX1 27 "Groupbooks$Books" "averageRates" "[I") (by decide +kernel)) (fun _ h9 => h9) rfl dX1_init_77 ?_
        refine lv_iload_n hx hb dX1_init_80 rfl (lv_at hl 0 rfl) ?_
        refine lv_bipush (v := 100) hx hb dX1_init_81 (by decide) ?_
        refine b_iast (w' := IW1 a cI cJ z32 z32 z32 z32 (upd (rtI (k1)) (k1) (100)) (upd (rtI (k1)) (k1) (100)) (rtI (k1))) hx hb hK hP hD hS 6 0 (f := (rtI (k1))) rfl rfl (j := k1) (by omega) (by decide) rfl dX1_init_83 (fun H locs hP hD hS => ?_)
        refine lv_aload_n hx hb dX1_init_84 rfl (lv_at hl 1 rfl) ?_
        refine va_get (D := D) (ci := 1) (v := .ref (a 7)) (C := RX1) (T := TX1) (N := 7) (Ts := wsX10) hx hb hin (fun _ h9 => h9) hown hK hP 0 rfl rfl 6 (by decide) (hts (.fieldLink RX1 30 "Groupbooks$Books" "historicalRates" "[I") (by decide +kernel)) (fun _ h9 => h9) rfl dX1_init_85 ?_
        refine lv_iload_n hx hb dX1_init_88 rfl (lv_at hl 0 rfl) ?_
        refine lv_bipush (v := 100) hx hb dX1_init_89 (by decide) ?_
        refine b_iast (w' := IW1 a cI cJ z32 z32 z32 z32 (upd (rtI (k1)) (k1) (100)) (upd (rtI (k1)) (k1) (100)) (upd (rtI (k1)) (k1) (100))) hx hb hK hP hD hS 7 0 (f := (rtI (k1))) rfl rfl (j := k1) (by omega) (by decide) rfl dX1_init_91 (fun H locs hP hD hS => ?_)
        refine lv_iinc (v := nI (k1 + 1)) (lv' := [(1, .int (nI (k1 + 1))), (0, .ref (a 0))]) hx hb dX1_init_92 hl (k := 0) rfl (nI_1 (k1)) (by decide) rfl (fun ls hl => ?_)
        refine lv_goto (tgt := 62) hx hb dX1_init_95 (by decide) ?_
        have e_3 : (rtI (k1 + 1)) = (upd (rtI (k1)) (k1) (100)) := by first | rfl | exact if_pos (by assumption) | exact if_neg (by assumption) | (simp only [n_2, Bool.false_eq_true, ↓reduceIte])
        exact ih1 (k1 + 1) (by omega) _ _ ls (by rw [e_3]; exact hP) (by rw [e_3]; exact hD) hS (lv_sub hl [0, 1] rfl)
  exact L1 (6) 0 (by omega) _ _ ls hP hD hS (lv_sub hl [0, 1] rfl)

abbrev rmX2_init : Room := ({ frames := 1, cells := 6, slots := 96, locals := 40 } : Room)
set_option maxHeartbeats 4000000 in
set_option maxRecDepth 100000 in
theorem c_X2_init (ll : Launch) (D : va_G) (cI cJ : ClassId) (sz : Nat) (b0 : Nat) : Met ll yX2_init wsX2_init rmX2_init (va_Pc [.ref (b0)] (PW D (tyG cI cJ) [(b0, .inr (2, [.null, .null, .null, .null, .null, .null]))] sz)) (va_Qv (fun (u : Nat → Nat) => u 0 = b0) (fun (u : Nat → Nat) t => AW D (tyG cI cJ) (va_A [(b0, .inr (2, [.null, .null, .null, .null, .null, .null]))] sz) (IW2 u cI cJ z32 (nuI 6) (dnmI 6) z64 z32 z32) t) (va_A [(b0, .inr (2, [.null, .null, .null, .null, .null, .null]))] sz)) 6 96 (va_A [(b0, .inr (2, [.null, .null, .null, .null, .null, .null]))] sz) := by
  refine Met.ofW (cc := cX2_init) (maxL := 2) (ret := none) (by decide) rfl ?_
  intro pp ee ss mm ar bel mth cde s₁ B hml hv
  obtain ⟨rfl, hsz, hP, hK, hD0, hE⟩ := hv
  have hx := B.exec
  have hb := B.bytes
  have hr := B.returns
  have hts := atoms_spec (ws := wsX2_init) B.pre
  have hown : ss.vm.findClass RX2 = some mm.cls := findClass_of_methodNamed B.named
  have hlocks := B.notSynchronized
  have hini : mth.name = "<init>" := (name_of_methodNamed B.named B.method).1
  subst hsz
  have hD := hD0.self (sz := ss.heap.size)
  generalize hAe : va_A [(b0, .inr (2, [.null, .null, .null, .null, .null, .null]))] ss.heap.size = A at hD ⊢
  have hA : ∀ q : Nat, ss.heap.size ≤ q → A q := fun q h => by rw [← hAe]; exact Or.inr h
  have hS : va_S A ss.heap ss.heap [] := va_S.rf
  have hP : va_P D vwCl [(b0, .inr (2, [.null, .null, .null, .null, .null, .null]))] ss.heap := hP
  have hin : ∀ w ∈ wsX20, w.before ([.ref b0] : List Value).toArray ss = true := fun w h => hts w ((by decide +kernel : ∀ w ∈ wsX20, w ∈ wsX2_init) w h)
  have hl := lv_entry [.ref b0] (n := 2) (Nat.le_of_ble_eq_true rfl)
  rw [lg_entry_eq]
  generalize (lg_sl [.ref b0] ++ List.replicate (2 - (lg_sl [.ref b0]).length) Slot.unset).toArray = ls at hl ⊢
  have hl : lv_has ls 2 [(0, .ref b0)] := hl
  generalize hZ : MQ bel _ _ ss _ _ _ = Z
  refine lv_aload_n hx hb dX2_init_0 rfl (lv_at hl 0 rfl) ?_
  refine W.objInit hx hb hown (hts (.methodLink RX2 3 objectInit) (by decide +kernel)) (hts (.instanceMethod objectInit) (by decide +kernel)) (hts _ (List.mem_of_getElem? (i := 3) rfl)) rfl (by rw [hml]; exact hl.1) rfl dX2_init_1 (Nat.le_of_ble_eq_true rfl) (Nat.le_of_ble_eq_true rfl) ?_
  refine W.eq (g2 := F0 mm 4 ls []) rfl ?_
  refine lv_aload_n hx hb dX2_init_4 rfl (lv_at hl 0 rfl) ?_
  refine lv_bipush (v := 36) hx hb dX2_init_5 (by decide) ?_
  refine b_newI (N := 36) hx hb (hts (.arrayClass .int) (by decide +kernel)) hK hP hD hS hA (by decide) (by decide) (by decide) (Nat.le_of_ble_eq_true rfl) (Nat.le_of_ble_eq_true rfl) dX2_init_7 (fun q1 H hP hD hS => ?_)
  have hP : va_P D vwCl [(b0, .inr (2, [.null, .null, .null, .null, .null, .null])), (q1, eI cI 36 z32)] H := hP
  have hD : va_D A [(b0, .inr (2, [.null, .null, .null, .null, .null, .null])), (q1, eI cI 36 z32)] := hD
  refine W.widen (k := 1) (n := 36) (Nat.le_of_ble_eq_true rfl) (Nat.le_of_ble_eq_true rfl) ?_
  refine va_putF (D := D) (ci := 2) (v := .ref q1) (ty := .array .int) (C := RX2) (T := TX2) (N := 6) (Ts := wsX20) hx hb hin (fun _ h9 => h9) tyX2 tyX2_ok nmX2 hown hK hP hD hS 0 rfl rfl 0 (by decide) (hts (.fieldLink RX2 9 "Groupbooks$Holdings" "percents" "[I") (by decide +kernel)) (fun _ h9 => h9) rfl hini rfl (by decide +kernel) rfl rfl (Nat.le_of_ble_eq_true rfl) dX2_init_9 (fun H locs hP hD hS => ?_)
  have hP : va_P D vwCl [(b0, .inr (2, [.ref q1, .null, .null, .null, .null, .null])), (q1, eI cI 36 z32)] H := hP
  have hD : va_D A [(b0, .inr (2, [.ref q1, .null, .null, .null, .null, .null])), (q1, eI cI 36 z32)] := hD
  refine lv_aload_n hx hb dX2_init_12 rfl (lv_at hl 0 rfl) ?_
  refine lv_bipush (v := 6) hx hb dX2_init_13 (by decide) ?_
  refine b_newJ (N := 6) hx hb (hts (.arrayClass .long) (by decide +kernel)) hK hP hD hS hA (by decide) (by decide) (by decide) (Nat.le_of_ble_eq_true rfl) (Nat.le_of_ble_eq_true rfl) dX2_init_15 (fun q2 H hP hD hS => ?_)
  have hP : va_P D vwCl [(b0, .inr (2, [.ref q1, .null, .null, .null, .null, .null])), (q1, eI cI 36 z32), (q2, eJ cJ 6 z64)] H := hP
  have hD : va_D A [(b0, .inr (2, [.ref q1, .null, .null, .null, .null, .null])), (q1, eI cI 36 z32), (q2, eJ cJ 6 z64)] := hD
  refine W.widen (k := 2) (n := 42) (Nat.le_of_ble_eq_true rfl) (Nat.le_of_ble_eq_true rfl) ?_
  refine va_putF (D := D) (ci := 2) (v := .ref q2) (ty := .array .long) (C := RX2) (T := TX2) (N := 6) (Ts := wsX20) hx hb hin (fun _ h9 => h9) tyX2 tyX2_ok nmX2 hown hK hP hD hS 0 rfl rfl 1 (by decide) (hts (.fieldLink RX2 15 "Groupbooks$Holdings" "numerators" "[J") (by decide +kernel)) (fun _ h9 => h9) rfl hini rfl (by decide +kernel) rfl rfl (Nat.le_of_ble_eq_true rfl) dX2_init_17 (fun H locs hP hD hS => ?_)
  have hP : va_P D vwCl [(b0, .inr (2, [.ref q1, .ref q2, .null, .null, .null, .null])), (q1, eI cI 36 z32), (q2, eJ cJ 6 z64)] H := hP
  have hD : va_D A [(b0, .inr (2, [.ref q1, .ref q2, .null, .null, .null, .null])), (q1, eI cI 36 z32), (q2, eJ cJ 6 z64)] := hD
  refine lv_aload_n hx hb dX2_init_20 rfl (lv_at hl 0 rfl) ?_
  refine lv_bipush (v := 6) hx hb dX2_init_21 (by decide) ?_
  refine b_newJ (N := 6) hx hb (hts (.arrayClass .long) (by decide +kernel)) hK hP hD hS hA (by decide) (by decide) (by decide) (Nat.le_of_ble_eq_true rfl) (Nat.le_of_ble_eq_true rfl) dX2_init_23 (fun q3 H hP hD hS => ?_)
  have hP : va_P D vwCl [(b0, .inr (2, [.ref q1, .ref q2, .null, .null, .null, .null])), (q1, eI cI 36 z32), (q2, eJ cJ 6 z64), (q3, eJ cJ 6 z64)] H := hP
  have hD : va_D A [(b0, .inr (2, [.ref q1, .ref q2, .null, .null, .null, .null])), (q1, eI cI 36 z32), (q2, eJ cJ 6 z64), (q3, eJ cJ 6 z64)] := hD
  refine W.widen (k := 3) (n := 48) (Nat.le_of_ble_eq_true rfl) (Nat.le_of_ble_eq_true rfl) ?_
  refine va_putF (D := D) (ci := 2) (v := .ref q3) (ty := .array .long) (C := RX2) (T := TX2) (N := 6) (Ts := wsX20) hx hb hin (fun _ h9 => h9) tyX2 tyX2_ok nmX2 hown hK hP hD hS 0 rfl rfl 2 (by decide) (hts (.fieldLink RX2 19 "Groupbooks$Holdings" "denominators" "[J") (by decide +kernel)) (fun _ h9 => h9) rfl hini rfl (by decide +kernel) rfl rfl (Nat.le_of_ble_eq_true rfl) dX2_init_25 (fun H locs hP hD hS => ?_)
  have hP : va_P D vwCl [(b0, .inr (2, [.ref q1, .ref q2, .ref q3, .null, .null, .null])), (q1, eI cI 36 z32), (q2, eJ cJ 6 z64), (q3, eJ cJ 6 z64)] H := hP
  have hD : va_D A [(b0, .inr (2, [.ref q1, .ref q2, .ref q3, .null, .null, .null])), (q1, eI cI 36 z32), (q2, eJ cJ 6 z64), (q3, eJ cJ 6 z64)] := hD
  refine lv_aload_n hx hb dX2_init_28 rfl (lv_at hl 0 rfl) ?_
  refine lv_bipush (v := 36) hx hb dX2_init_29 (by decide) ?_
  refine b_newJ (N := 36) hx hb (hts (.arrayClass .long) (by decide +kernel)) hK hP hD hS hA (by decide) (by decide) (by decide) (Nat.le_of_ble_eq_true rfl) (Nat.le_of_ble_eq_true rfl) dX2_init_31 (fun q4 H hP hD hS => ?_)
  have hP : va_P D vwCl [(b0, .inr (2, [.ref q1, .ref q2, .ref q3, .null, .null, .null])), (q1, eI cI 36 z32), (q2, eJ cJ 6 z64), (q3, eJ cJ 6 z64), (q4, eJ cJ 36 z64)] H := hP
  have hD : va_D A [(b0, .inr (2, [.ref q1, .ref q2, .ref q3, .null, .null, .null])), (q1, eI cI 36 z32), (q2, eJ cJ 6 z64), (q3, eJ cJ 6 z64), (q4, eJ cJ 36 z64)] := hD
  refine W.widen (k := 4) (n := 84) (Nat.le_of_ble_eq_true rfl) (Nat.le_of_ble_eq_true rfl) ?_
  refine va_putF (D := D) (ci := 2) (v := .ref q4) (ty := .array .long) (C := RX2) (T := TX2) (N := 6) (Ts := wsX20) hx hb hin (fun _ h9 => h9) tyX2 tyX2_ok nmX2 hown hK hP hD hS 0 rfl rfl 3 (by decide) (hts (.fieldLink RX2 22 "Groupbooks$Holdings" "equations" "[J") (by decide +kernel)) (fun _ h9 => h9) rfl hini rfl (by decide +kernel) rfl rfl (Nat.le_of_ble_eq_true rfl) dX2_init_33 (fun H locs hP hD hS => ?_)
  have hP : va_P D vwCl [(b0, .inr (2, [.ref q1, .ref q2, .ref q3, .ref q4, .null, .null])), (q1, eI cI 36 z32), (q2, eJ cJ 6 z64), (q3, eJ cJ 6 z64), (q4, eJ cJ 36 z64)] H := hP
  have hD : va_D A [(b0, .inr (2, [.ref q1, .ref q2, .ref q3, .ref q4, .null, .null])), (q1, eI cI 36 z32), (q2, eJ cJ 6 z64), (q3, eJ cJ 6 z64), (q4, eJ cJ 36 z64)] := hD
  refine lv_aload_n hx hb dX2_init_36 rfl (lv_at hl 0 rfl) ?_
  refine lv_bipush (v := 6) hx hb dX2_init_37 (by decide) ?_
  refine b_newI (N := 6) hx hb (hts (.arrayClass .int) (by decide +kernel)) hK hP hD hS hA (by decide) (by decide) (by decide) (Nat.le_of_ble_eq_true rfl) (Nat.le_of_ble_eq_true rfl) dX2_init_39 (fun q5 H hP hD hS => ?_)
  have hP : va_P D vwCl [(b0, .inr (2, [.ref q1, .ref q2, .ref q3, .ref q4, .null, .null])), (q1, eI cI 36 z32), (q2, eJ cJ 6 z64), (q3, eJ cJ 6 z64), (q4, eJ cJ 36 z64), (q5, eI cI 6 z32)] H := hP
  have hD : va_D A [(b0, .inr (2, [.ref q1, .ref q2, .ref q3, .ref q4, .null, .null])), (q1, eI cI 36 z32), (q2, eJ cJ 6 z64), (q3, eJ cJ 6 z64), (q4, eJ cJ 36 z64), (q5, eI cI 6 z32)] := hD
  refine W.widen (k := 5) (n := 90) (Nat.le_of_ble_eq_true rfl) (Nat.le_of_ble_eq_true rfl) ?_
  refine va_putF (D := D) (ci := 2) (v := .ref q5) (ty := .array .int) (C := RX2) (T := TX2) (N := 6) (Ts := wsX20) hx hb hin (fun _ h9 => h9) tyX2 tyX2_ok nmX2 hown hK hP hD hS 0 rfl rfl 4 (by decide) (hts (.fieldLink RX2 25 "Groupbooks$Holdings" "amounts" "[I") (by decide +kernel)) (fun _ h9 => h9) rfl hini rfl (by decide +kernel) rfl rfl (Nat.le_of_ble_eq_true rfl) dX2_init_41 (fun H locs hP hD hS => ?_)
  have hP : va_P D vwCl [(b0, .inr (2, [.ref q1, .ref q2, .ref q3, .ref q4, .ref q5, .null])), (q1, eI cI 36 z32), (q2, eJ cJ 6 z64), (q3, eJ cJ 6 z64), (q4, eJ cJ 36 z64), (q5, eI cI 6 z32)] H := hP
  have hD : va_D A [(b0, .inr (2, [.ref q1, .ref q2, .ref q3, .ref q4, .ref q5, .null])), (q1, eI cI 36 z32), (q2, eJ cJ 6 z64), (q3, eJ cJ 6 z64), (q4, eJ cJ 36 z64), (q5, eI cI 6 z32)] := hD
  refine lv_aload_n hx hb dX2_init_44 rfl (lv_at hl 0 rfl) ?_
  refine lv_bipush (v := 6) hx hb dX2_init_45 (by decide) ?_
  refine b_newI (N := 6) hx hb (hts (.arrayClass .int) (by decide +kernel)) hK hP hD hS hA (by decide) (by decide) (by decide) (Nat.le_of_ble_eq_true rfl) (Nat.le_of_ble_eq_true rfl) dX2_init_47 (fun q6 H hP hD hS => ?_)
  have hP : va_P D vwCl [(b0, .inr (2, [.ref q1, .ref q2, .ref q3, .ref q4, .ref q5, .null])), (q1, eI cI 36 z32), (q2, eJ cJ 6 z64), (q3, eJ cJ 6 z64), (q4, eJ cJ 36 z64), (q5, eI cI 6 z32), (q6, eI cI 6 z32)] H := hP
  have hD : va_D A [(b0, .inr (2, [.ref q1, .ref q2, .ref q3, .ref q4, .ref q5, .null])), (q1, eI cI 36 z32), (q2, eJ cJ 6 z64), (q3, eJ cJ 6 z64), (q4, eJ cJ 36 z64), (q5, eI cI 6 z32), (q6, eI cI 6 z32)] := hD
  refine W.widen (k := 6) (n := 96) (Nat.le_of_ble_eq_true rfl) (Nat.le_of_ble_eq_true rfl) ?_
  refine va_putF (D := D) (ci := 2) (v := .ref q6) (ty := .array .int) (C := RX2) (T := TX2) (N := 6) (Ts := wsX20) hx hb hin (fun _ h9 => h9) tyX2 tyX2_ok nmX2 hown hK hP hD hS 0 rfl rfl 5 (by decide) (hts (.fieldLink RX2 28 "Groupbooks$Holdings" "nextAmounts" "[I") (by decide +kernel)) (fun _ h9 => h9) rfl hini rfl (by decide +kernel) rfl rfl (Nat.le_of_ble_eq_true rfl) dX2_init_49 (fun H locs hP hD hS => ?_)
  have hP : va_P D vwCl [(b0, .inr (2, [.ref q1, .ref q2, .ref q3, .ref q4, .ref q5, .ref q6])), (q1, eI cI 36 z32), (q2, eJ cJ 6 z64), (q3, eJ cJ 6 z64), (q4, eJ cJ 36 z64), (q5, eI cI 6 z32), (q6, eI cI 6 z32)] H := hP
  have hD : va_D A [(b0, .inr (2, [.ref q1, .ref q2, .ref q3, .ref q4, .ref q5, .ref q6])), (q1, eI cI 36 z32), (q2, eJ cJ 6 z64), (q3, eJ cJ 6 z64), (q4, eJ cJ 36 z64), (q5, eI cI 6 z32), (q6, eI cI 6 z32)] := hD
  obtain ⟨a, ha⟩ : ∃ a : Nat → Nat, a = fun k => ([b0, q1, q2, q3, q4, q5, q6].getD k 0) := ⟨_, rfl⟩
  have hP : va_P D vwCl (IW2 a cI cJ z32 z64 z64 z64 z32 z32) H := by rw [ha]; exact hP
  have hD : va_D A (IW2 a cI cJ z32 z64 z64 z64 z32 z32) := by rw [ha]; exact hD
  have hE0 : a 0 = b0 := by rw [ha]; rfl
  have hl : lv_has ls 2 [(0, .ref (a 0))] := by rw [hE0]; exact hl
  refine lv_iconst (v := 0) hx hb dX2_init_52 (by decide) ?_
  refine lv_istore_n (lv' := [(1, .int (0)), (0, .ref (a 0))]) hx hb dX2_init_53 rfl hl (by decide) rfl (fun ls hl => ?_)
  have L1 : ∀ (n1 k1 : Nat), k1 + n1 = 6 → ∀ (H : Heap) (locs : List Loc) (ls : Array Slot), va_P D vwCl (IW2 a cI cJ z32 (nuI (k1)) (dnmI (k1)) z64 z32 z32) H → va_D A (IW2 a cI cJ z32 (nuI (k1)) (dnmI (k1)) z64 z32 z32) → va_S A ss.heap H locs → lv_has ls 2 [(1, .int (nI (k1))), (0, .ref (a 0))] → W pp ll ee rmX2_init ss mm (([.ref b0] : List Value).toArray) bel mth cde H locs 6 96 Z (F0 mm 54 ls []) := by
    intro n1
    induction n1 with
    | zero =>
      intro k1 hk1  H locs ls hP hD hS hl
      have hk1b : 6 = k1 := by omega
      subst hk1b
      refine lv_iload_n hx hb dX2_init_54 rfl (lv_at hl 0 rfl) ?_
      refine lv_bipush (v := 6) hx hb dX2_init_55 (by decide) ?_
      refine lv_icmp_ge (tgt := 88) hx hb dX2_init_57 (by decide) (fun c_1 => ?_) (fun c_1 => ?_)
      · have n_1 : (6) ≤ (6) := (nI_leI (a := 6) (b := 6) (by omega) (by omega)).mp c_1
        subst hZ; exact W.vret hx hb hr (fun t ht hW => ⟨⟨a, rfl, hE0, (by rw [ht]; exact hP), va_K.moved hW.alike hK, hD⟩, hS.F ht⟩) hS.2.2 dX2_init_88
      · have n_1 : ¬ ((6) ≤ (6)) := fun h => c_1 ((nI_leI (a := 6) (b := 6) (by omega) (by omega)).mpr h)
        exfalso; omega
    | succ n1 ih1 =>
      intro k1 hk1  H locs ls hP hD hS hl
      have hk1b : k1 < 6 := by omega
      refine lv_iload_n hx hb dX2_init_54 rfl (lv_at hl 0 rfl) ?_
      refine lv_bipush (v := 6) hx hb dX2_init_55 (by decide) ?_
      refine lv_icmp_ge (tgt := 88) hx hb dX2_init_57 (by decide) (fun c_2 => ?_) (fun c_2 => ?_)
      · have n_2 : (6) ≤ (k1) := (nI_leI (a := 6) (b := k1) (by omega) (by omega)).mp c_2
        exfalso; omega
      · have n_2 : ¬ ((6) ≤ (k1)) := fun h => c_2 ((nI_leI (a := 6) (b := k1) (by omega) (by omega)).mpr h)
        refine lv_aload_n hx hb dX2_init_60 rfl (lv_at hl 1 rfl) ?_
        refine va_get (D := D) (ci := 2) (v := .ref (a 2)) (C := RX2) (T := TX2) (N := 6) (Ts := wsX20) hx hb hin (fun _ h9 => h9) hown hK hP 0 rfl rfl 1 (by decide) (hts (.fieldLink RX2 15 "Groupbooks$Holdings" "numerators" "[J") (by decide +kernel)) (fun _ h9 => h9) rfl dX2_init_61 ?_
        refine lv_iload_n hx hb dX2_init_64 rfl (lv_at hl 0 rfl) ?_
        refine lv_iload_n hx hb dX2_init_65 rfl (lv_at hl 0 rfl) ?_
        refine lv_if_ne (tgt := 73) hx hb dX2_init_66 (by decide) (fun c_3 => ?_) (fun c_3 => ?_)
        · have n_3 : ¬ ((k1) = (0)) := fun h => c_3 ((nI_eq (a := k1) (b := 0) (by omega) (by omega)).mpr h)
          refine lv_lconst (v := 0) hx hb dX2_init_73 (by decide) ?_
          refine b_last (w' := IW2 a cI cJ z32 (vp_updL (nuI (k1)) (k1) (0)) (dnmI (k1)) z64 z32 z32) hx hb hK hP hD hS 2 1 (f := (nuI (k1))) rfl rfl (j := k1) (by omega) (by decide) rfl dX2_init_74 (fun H locs hP hD hS => ?_)
          refine lv_aload_n hx hb dX2_init_75 rfl (lv_at hl 1 rfl) ?_
          refine va_get (D := D) (ci := 2) (v := .ref (a 3)) (C := RX2) (T := TX2) (N := 6) (Ts := wsX20) hx hb hin (fun _ h9 => h9) hown hK hP 0 rfl rfl 2 (by decide) (hts (.fieldLink RX2 19 "Groupbooks$Holdings" "denominators" "[J") (by decide +kernel)) (fun _ h9 => h9) rfl dX2_init_76 ?_
          refine lv_iload_n hx hb dX2_init_79 rfl (lv_at hl 0 rfl) ?_
          refine lv_lconst (v := 1) hx hb dX2_init_80 (by decide) ?_
          refine b_last (w' := IW2 a cI cJ z32 (vp_updL (nuI (k1)) (k1) (0)) (vp_updL (dnmI (k1)) (k1) (1)) z64 z32 z32) hx hb hK hP hD hS 3 1 (f := (dnmI (k1))) rfl rfl (j := k1) (by omega) (by decide) rfl dX2_init_81 (fun H locs hP hD hS => ?_)
          refine lv_iinc (v := nI (k1 + 1)) (lv' := [(1, .int (nI (k1 + 1))), (0, .ref (a 0))]) hx hb dX2_init_82 hl (k := 0) rfl (nI_1 (k1)) (by decide) rfl (fun ls hl => ?_)
          refine lv_goto (tgt := 54) hx hb dX2_init_85 (by decide) ?_
          have e_4 : (nuI (k1 + 1)) = (vp_updL (nuI (k1)) (k1) (0)) := by first | rfl | exact if_pos (by assumption) | exact if_neg (by assumption) | (simp only [nuI, n_2, n_3, Bool.false_eq_true, ↓reduceIte])
          have e_5 : (dnmI (k1 + 1)) = (vp_updL (dnmI (k1)) (k1) (1)) := by first | rfl | exact if_pos (by assumption) | exact if_neg (by assumption) | (simp only [nuI, n_2, n_3, Bool.false_eq_true, ↓reduceIte])
          exact ih1 (k1 + 1) (by omega) _ _ ls (by rw [e_4, e_5]; exact hP) (by rw [e_4, e_5]; exact hD) hS (lv_sub hl [0, 1] rfl)
        · have n_3 : (k1) = (0) := (nI_eq (a := k1) (b := 0) (by omega) (by omega)).mp c_3
          refine lv_lconst (v := 1) hx hb dX2_init_69 (by decide) ?_
          refine lv_goto (tgt := 74) hx hb dX2_init_70 (by decide) ?_
          refine b_last (w' := IW2 a cI cJ z32 (vp_updL (nuI (k1)) (k1) (1)) (dnmI (k1)) z64 z32 z32) hx hb hK hP hD hS 2 1 (f := (nuI (k1))) rfl rfl (j := k1) (by omega) (by decide) rfl dX2_init_74 (fun H locs hP hD hS => ?_)
          refine lv_aload_n hx hb dX2_init_75 rfl (lv_at hl 1 rfl) ?_
          refine va_get (D := D) (ci := 2) (v := .ref (a 3)) (C := RX2) (T := TX2) (N := 6) (Ts := wsX20) hx hb hin (fun _ h9 => h9) hown hK hP 0 rfl rfl 2 (by decide) (hts (.fieldLink RX2 19 "Groupbooks$Holdings" "denominators" "[J") (by decide +kernel)) (fun _ h9 => h9) rfl dX2_init_76 ?_
          refine lv_iload_n hx hb dX2_init_79 rfl (lv_at hl 0 rfl) ?_
          refine lv_lconst (v := 1) hx hb dX2_init_80 (by decide) ?_
          refine b_last (w' := IW2 a cI cJ z32 (vp_updL (nuI (k1)) (k1) (1)) (vp_updL (dnmI (k1)) (k1) (1)) z64 z32 z32) hx hb hK hP hD hS 3 1 (f := (dnmI (k1))) rfl rfl (j := k1) (by omega) (by decide) rfl dX2_init_81 (fun H locs hP hD hS => ?_)
          refine lv_iinc (v := nI (k1 + 1)) (lv' := [(1, .int (nI (k1 + 1))), (0, .ref (a 0))]) hx hb dX2_init_82 hl (k := 0) rfl (nI_1 (k1)) (by decide) rfl (fun ls hl => ?_)
          refine lv_goto (tgt := 54) hx hb dX2_init_85 (by decide) ?_
          have e_6 : (nuI (k1 + 1)) = (vp_updL (nuI (k1)) (k1) (1)) := by first | rfl | exact if_pos (by assumption) | exact if_neg (by assumption) | (simp only [nuI, n_2, n_3, Bool.false_eq_true, ↓reduceIte])
          have e_7 : (dnmI (k1 + 1)) = (vp_updL (dnmI (k1)) (k1) (1)) := by first | rfl | exact if_pos (by assumption) | exact if_neg (by assumption) | (simp only [nuI, n_2, n_3, Bool.false_eq_true, ↓reduceIte])
          exact ih1 (k1 + 1) (by omega) _ _ ls (by rw [e_6, e_7]; exact hP) (by rw [e_6, e_7]; exact hD) hS (lv_sub hl [0, 1] rfl)
  exact L1 (6) 0 (by omega) _ _ ls hP hD hS (lv_sub hl [0, 1] rfl)
