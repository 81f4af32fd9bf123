abbrev rmX3_init : Room := ({ frames := 2, cells := 20, slots := 243, locals := 100 } : Room)
set_option maxHeartbeats 4000000 in
set_option maxRecDepth 100000 in
theorem c_X3_init (ll : Launch) (D : va_G) (cI cJ : ClassId) (sz : Nat) (b0 : Nat) : Met ll yX3_init wsX3_init rmX3_init (va_Pc [.ref (b0)] (PW D (tyG cI cJ) [(b0, .inr (3, [.null, .null, .null, .null, .null, .int 0]))] sz)) (va_Qv (fun (u : Nat → Nat) => u 0 = b0) (fun (u : Nat → Nat) t => AW D (tyG cI cJ) (va_A [(b0, .inr (3, [.null, .null, .null, .null, .null, .int 0]))] sz) (GW u cI cJ z32 (nuI 6) (dnmI 6) z64 z32 z32 z32 z32 z32 z32 (rtI 6) (rtI 6) (rtI 6) z32 z32 z32 z32 0) t) (va_A [(b0, .inr (3, [.null, .null, .null, .null, .null, .int 0]))] sz)) 20 243 (va_A [(b0, .inr (3, [.null, .null, .null, .null, .null, .int 0]))] sz) := by
  refine Met.ofW (cc := cX3_init) (maxL := 1) (ret := none) (by decide) rfl ?_
  intro pp ee ss mm ar bel mth cde s₁ B hml hv
  obtain ⟨rfl, hsz, hP, hK, hD0, hE⟩ := hv
  have hx := B.exec
  have hb := B.bytes
  have hr := B.returns
  have hts := atoms_spec (ws := wsX3_init) B.pre
  have hown : ss.vm.findClass RX3 = some mm.cls := findClass_of_methodNamed B.named
  have hlocks := B.notSynchronized
  have hini : mth.name = "<init>" := (name_of_methodNamed B.named B.method).1
  subst hsz
  have hD := hD0.self (sz := ss.heap.size)
  generalize hAe : va_A [(b0, .inr (3, [.null, .null, .null, .null, .null, .int 0]))] ss.heap.size = A at hD ⊢
  have hA : ∀ q : Nat, ss.heap.size ≤ q → A q := fun q h => by rw [← hAe]; exact Or.inr h
  have hS : va_S A ss.heap ss.heap [] := va_S.rf
  have hP : va_P D vwCl [(b0, .inr (3, [.null, .null, .null, .null, .null, .int 0]))] ss.heap := hP
  have hinX0 : ∀ w ∈ wsX00, w.before ([.ref b0] : List Value).toArray ss = true := fun w h => hts w ((by decide +kernel : ∀ w ∈ wsX00, w ∈ wsX3_init) w h)
  have hinX1 : ∀ w ∈ wsX10, w.before ([.ref b0] : List Value).toArray ss = true := fun w h => hts w ((by decide +kernel : ∀ w ∈ wsX10, w ∈ wsX3_init) w h)
  have hinX2 : ∀ w ∈ wsX20, w.before ([.ref b0] : List Value).toArray ss = true := fun w h => hts w ((by decide +kernel : ∀ w ∈ wsX20, w ∈ wsX3_init) w h)
  have hinX3 : ∀ w ∈ wsX30, w.before ([.ref b0] : List Value).toArray ss = true := fun w h => hts w ((by decide +kernel : ∀ w ∈ wsX30, w ∈ wsX3_init) w h)
  have hl := lv_entry [.ref b0] (n := 1) (Nat.le_of_ble_eq_true rfl)
  rw [lg_entry_eq]
  generalize (lg_sl [.ref b0] ++ List.replicate (1 - (lg_sl [.ref b0]).length) Slot.unset).toArray = ls at hl ⊢
  have hl : lv_has ls 1 [(0, .ref b0)] := hl
  refine lv_aload_n hx hb dX3_init_0 rfl (lv_at hl 0 rfl) ?_
  refine W.objInit hx hb hown (hts (.methodLink RX3 1 objectInit) (by decide +kernel)) (hts (.instanceMethod objectInit) (by decide +kernel)) (hts _ (List.mem_of_getElem? (i := 3) rfl)) rfl (by rw [hml]; exact hl.1) rfl dX3_init_1 (Nat.le_of_ble_eq_true rfl) (Nat.le_of_ble_eq_true rfl) ?_
  refine W.eq (g2 := F0 mm 4 ls []) rfl ?_
  refine lv_aload_n hx hb dX3_init_4 rfl (lv_at hl 0 rfl) ?_
  refine va_new (ci := 2) (fs := [.null, .null, .null, .null, .null, .null]) (C := RX2) (T := TX2) (N := 6) hx hb hinX2 (fun _ h9 => h9) tyX2 tyX2_ok hown (hts (.classLink RX3 7 RX2) (by decide +kernel)) (hts (.instantiable RX2 6) (by decide +kernel)) (hts (.initialized RX2) (by decide +kernel)) hK hP hD hS hA rfl (by decide) (Nat.le_of_ble_eq_true rfl) (Nat.le_of_ble_eq_true rfl) dX3_init_5 (fun q1 H hP hD hS => ?_)
  have hP : va_P D vwCl ((b0, .inr (3, [.null, .null, .null, .null, .null, .int 0])) :: ([(q1, .inr (2, [.null, .null, .null, .null, .null, .null]))])) H := hP
  have hD : va_D A ((b0, .inr (3, [.null, .null, .null, .null, .null, .int 0])) :: ([(q1, .inr (2, [.null, .null, .null, .null, .null, .null]))])) := hD
  refine W.widen (k := 1) (n := 6) (Nat.le_of_ble_eq_true rfl) (Nat.le_of_ble_eq_true rfl) ?_
  refine lv_dup hx hb dX3_init_8 rfl ?_
  have hPc := hP.sub (ws' := [(q1, .inr (2, [.null, .null, .null, .null, .null, .null]))]) [1] rfl
  have hDc := hD.sub (ws' := [(q1, .inr (2, [.null, .null, .null, .null, .null, .null]))]) [1] (by decide) rfl
  have hFc := va_free (wc := [(q1, .inr (2, [.null, .null, .null, .null, .null, .null]))]) hD hS hA [1] rfl
  refine va_callv (va_runIN (As := []) (rest := [.ref q1, .ref b0]) ⟨hx, hb, hml, hown, hts⟩ (c_X2_init ll D cI cJ H.size q1) ⟨va_cnB 0 hts gX3_init_X2_init_n9 rfl rfl rfl (hE.nest 0 rfl) (hts (.initialized RX2) (by decide +kernel)) (by decide +kernel) ⟨Nat.le_of_ble_eq_true rfl, Nat.le_of_ble_eq_true rfl⟩, rfl, hts (.instanceMethod yX2_init) (by decide +kernel)⟩ ⟨PW.blind, PW.go hPc hK hDc hE⟩ rfl rfl hl.1 rfl (lv_room (Nat.le_of_ble_eq_true rfl)) dX3_init_9 ⟨Nat.le_of_ble_eq_true rfl, Nat.le_of_ble_eq_true rfl⟩) hS (fun q _ h => hFc q h) hFc (fun u1 t H1 locs ht hvm hw hB hz1 hk1 hS => ?_)
  obtain ⟨hP1, hK1, hD1⟩ := hB
  rw [ht] at hP1
  obtain ⟨hP2, hD2⟩ := va_join (wr := [(b0, .inr (3, [.null, .null, .null, .null, .null, .int 0]))]) (w1 := IW2 u1 cI cJ z32 (nuI 6) (dnmI 6) z64 z32 z32) hP hD [1] [0] rfl rfl (by decide) (by decide) hk1 hFc hP1 hD1
  generalize H1 = H at hP2 hS ⊢
  obtain rfl : u1 0 = q1 := hw
  have hP := hP2
  have hD := hD2
  have hP : va_P D vwCl ((b0, .inr (3, [.null, .null, .null, .null, .null, .int 0])) :: (IW2 u1 cI cJ z32 (nuI 6) (dnmI 6) z64 z32 z32 ++ ([]))) H := hP
  have hD : va_D A ((b0, .inr (3, [.null, .null, .null, .null, .null, .int 0])) :: (IW2 u1 cI cJ z32 (nuI 6) (dnmI 6) z64 z32 z32 ++ ([]))) := hD
  refine W.widen (k := 7) (n := 102) (Nat.le_of_ble_eq_true rfl) (Nat.le_of_ble_eq_true rfl) ?_
  refine va_putF (D := D) (ci := 3) (v := .ref (u1 0)) (ty := .object "Groupbooks$Holdings") (C := RX3) (T := TX3) (N := 6) (Ts := wsX30) hx hb hinX3 (fun _ h9 => h9) tyX3 tyX3_ok nmX3 hown hK hP hD hS 0 rfl rfl 0 (by decide) (hts (.fieldLink RX3 10 "Groupbooks" "holdings" "LGroupbooks$Holdings;") (by decide +kernel)) (fun _ h9 => h9) rfl hini rfl (by decide +kernel) rfl rfl (Nat.le_of_ble_eq_true rfl) dX3_init_12 (fun H locs hP hD hS => ?_)
  have hP : va_P D vwCl ((b0, .inr (3, [.ref (u1 0), .null, .null, .null, .null, .int 0])) :: (IW2 u1 cI cJ z32 (nuI 6) (dnmI 6) z64 z32 z32 ++ ([]))) H := hP
  have hD : va_D A ((b0, .inr (3, [.ref (u1 0), .null, .null, .null, .null, .int 0])) :: (IW2 u1 cI cJ z32 (nuI 6) (dnmI 6) z64 z32 z32 ++ ([]))) := hD
  refine lv_aload_n hx hb dX3_init_15 rfl (lv_at hl 0 rfl) ?_
  refine va_new (ci := 1) (fs := [.null, .null, .null, .null, .null, .null, .null]) (C := RX1) (T := TX1) (N := 7) hx hb hinX1 (fun _ h9 => h9) tyX1 tyX1_ok hown (hts (.classLink RX3 16 RX1) (by decide +kernel)) (hts (.instantiable RX1 7) (by decide +kernel)) (hts (.initialized RX1) (by decide +kernel)) hK hP hD hS hA rfl (by decide) (Nat.le_of_ble_eq_true rfl) (Nat.le_of_ble_eq_true rfl) dX3_init_16 (fun q2 H hP hD hS => ?_)
  have hP : va_P D vwCl ((b0, .inr (3, [.ref (u1 0), .null, .null, .null, .null, .int 0])) :: (IW2 u1 cI cJ z32 (nuI 6) (dnmI 6) z64 z32 z32 ++ ([(q2, .inr (1, [.null, .null, .null, .null, .null, .null, .null]))]))) H := hP
  have hD : va_D A ((b0, .inr (3, [.ref (u1 0), .null, .null, .null, .null, .int 0])) :: (IW2 u1 cI cJ z32 (nuI 6) (dnmI 6) z64 z32 z32 ++ ([(q2, .inr (1, [.null, .null, .null, .null, .null, .null, .null]))]))) := hD
  refine W.widen (k := 8) (n := 109) (Nat.le_of_ble_eq_true rfl) (Nat.le_of_ble_eq_true rfl) ?_
  refine lv_dup hx hb dX3_init_19 rfl ?_
  have hPc := hP.sub (ws' := [(q2, .inr (1, [.null, .null, .null, .null, .null, .null, .null]))]) [8] rfl
  have hDc := hD.sub (ws' := [(q2, .inr (1, [.null, .null, .null, .null, .null, .null, .null]))]) [8] (by decide) rfl
  have hFc := va_free (wc := [(q2, .inr (1, [.null, .null, .null, .null, .null, .null, .null]))]) hD hS hA [8] rfl
  refine va_callv (va_runIN (As := []) (rest := [.ref q2, .ref b0]) ⟨hx, hb, hml, hown, hts⟩ (c_X1_init ll D cI cJ H.size q2) ⟨va_cnB 0 hts gX3_init_X1_init_n18 rfl rfl rfl (hE.nest 1 rfl) (hts (.initialized RX1) (by decide +kernel)) (by decide +kernel) ⟨Nat.le_of_ble_eq_true rfl, Nat.le_of_ble_eq_true rfl⟩, rfl, hts (.instanceMethod yX1_init) (by decide +kernel)⟩ ⟨PW.blind, PW.go hPc hK hDc hE⟩ rfl rfl hl.1 rfl (lv_room (Nat.le_of_ble_eq_true rfl)) dX3_init_20 ⟨Nat.le_of_ble_eq_true rfl, Nat.le_of_ble_eq_true rfl⟩) hS (fun q _ h => hFc q h) hFc (fun u2 t H1 locs ht hvm hw hB hz1 hk1 hS => ?_)
  obtain ⟨hP1, hK1, hD1⟩ := hB
  rw [ht] at hP1
  obtain ⟨hP2, hD2⟩ := va_join (wr := ((b0, .inr (3, [.ref (u1 0), .null, .null, .null, .null, .int 0])) :: (IW2 u1 cI cJ z32 (nuI 6) (dnmI 6) z64 z32 z32 ++ ([])))) (w1 := IW1 u2 cI cJ z32 z32 z32 z32 (rtI 6) (rtI 6) (rtI 6)) hP hD [8] [0, 1, 2, 3, 4, 5, 6, 7] rfl rfl (by decide) (by decide) hk1 hFc hP1 hD1
  generalize H1 = H at hP2 hS ⊢
  obtain rfl : u2 0 = q2 := hw
  have hP := hP2
  have hD := hD2
  have hP : va_P D vwCl ((b0, .inr (3, [.ref (u1 0), .null, .null, .null, .null, .int 0])) :: (IW2 u1 cI cJ z32 (nuI 6) (dnmI 6) z64 z32 z32 ++ (IW1 u2 cI cJ z32 z32 z32 z32 (rtI 6) (rtI 6) (rtI 6) ++ ([])))) H := hP
  have hD : va_D A ((b0, .inr (3, [.ref (u1 0), .null, .null, .null, .null, .int 0])) :: (IW2 u1 cI cJ z32 (nuI 6) (dnmI 6) z64 z32 z32 ++ (IW1 u2 cI cJ z32 z32 z32 z32 (rtI 6) (rtI 6) (rtI 6) ++ ([])))) := hD
  refine W.widen (k := 15) (n := 151) (Nat.le_of_ble_eq_true rfl) (Nat.le_of_ble_eq_true rfl) ?_
  refine va_putF (D := D) (ci := 3) (v := .ref (u2 0)) (ty := .object "Groupbooks$Books") (C := RX3) (T := TX3) (N := 6) (Ts := wsX30) hx hb hinX3 (fun _ h9 => h9) tyX3 tyX3_ok nmX3 hown hK hP hD hS 0 rfl rfl 1 (by decide) (hts (.fieldLink RX3 19 "Groupbooks" "books" "LGroupbooks$Books;") (by decide +kernel)) (fun _ h9 => h9) rfl hini rfl (by decide +kernel) rfl rfl (Nat.le_of_ble_eq_true rfl) dX3_init_23 (fun H locs hP hD hS => ?_)
  have hP : va_P D vwCl ((b0, .inr (3, [.ref (u1 0), .ref (u2 0), .null, .null, .null, .int 0])) :: (IW2 u1 cI cJ z32 (nuI 6) (dnmI 6) z64 z32 z32 ++ (IW1 u2 cI cJ z32 z32 z32 z32 (rtI 6) (rtI 6) (rtI 6) ++ ([])))) H := hP
  have hD : va_D A ((b0, .inr (3, [.ref (u1 0), .ref (u2 0), .null, .null, .null, .int 0])) :: (IW2 u1 cI cJ z32 (nuI 6) (dnmI 6) z64 z32 z32 ++ (IW1 u2 cI cJ z32 z32 z32 z32 (rtI 6) (rtI 6) (rtI 6) ++ ([])))) := hD
  refine lv_aload_n hx hb dX3_init_26 rfl (lv_at hl 0 rfl) ?_
  refine va_new (ci := 0) (fs := [.null, .null]) (C := RX0) (T := TX0) (N := 2) hx hb hinX0 (fun _ h9 => h9) tyX0 tyX0_ok hown (hts (.classLink RX3 23 RX0) (by decide +kernel)) (hts (.instantiable RX0 2) (by decide +kernel)) (hts (.initialized RX0) (by decide +kernel)) hK hP hD hS hA rfl (by decide) (Nat.le_of_ble_eq_true rfl) (Nat.le_of_ble_eq_true rfl) dX3_init_27 (fun q3 H hP hD hS => ?_)
  have hP : va_P D vwCl ((b0, .inr (3, [.ref (u1 0), .ref (u2 0), .null, .null, .null, .int 0])) :: (IW2 u1 cI cJ z32 (nuI 6) (dnmI 6) z64 z32 z32 ++ (IW1 u2 cI cJ z32 z32 z32 z32 (rtI 6) (rtI 6) (rtI 6) ++ ([(q3, .inr (0, [.null, .null]))])))) H := hP
  have hD : va_D A ((b0, .inr (3, [.ref (u1 0), .ref (u2 0), .null, .null, .null, .int 0])) :: (IW2 u1 cI cJ z32 (nuI 6) (dnmI 6) z64 z32 z32 ++ (IW1 u2 cI cJ z32 z32 z32 z32 (rtI 6) (rtI 6) (rtI 6) ++ ([(q3, .inr (0, [.null, .null]))])))) := hD
  refine W.widen (k := 16) (n := 153) (Nat.le_of_ble_eq_true rfl) (Nat.le_of_ble_eq_true rfl) ?_
  refine lv_dup hx hb dX3_init_30 rfl ?_
  have hPc := hP.sub (ws' := [(q3, .inr (0, [.null, .null]))]) [16] rfl
  have hDc := hD.sub (ws' := [(q3, .inr (0, [.null, .null]))]) [16] (by decide) rfl
  have hFc := va_free (wc := [(q3, .inr (0, [.null, .null]))]) hD hS hA [16] rfl
  refine va_callv (va_runIN (As := []) (rest := [.ref q3, .ref b0]) ⟨hx, hb, hml, hown, hts⟩ (c_X0_init ll D cI cJ H.size q3) ⟨va_cnB 0 hts gX3_init_X0_init_n25 rfl rfl rfl (hE.nest 2 rfl) (hts (.initialized RX0) (by decide +kernel)) (by decide +kernel) ⟨Nat.le_of_ble_eq_true rfl, Nat.le_of_ble_eq_true rfl⟩, rfl, hts (.instanceMethod yX0_init) (by decide +kernel)⟩ ⟨PW.blind, PW.go hPc hK hDc hE⟩ rfl rfl hl.1 rfl (lv_room (Nat.le_of_ble_eq_true rfl)) dX3_init_31 ⟨Nat.le_of_ble_eq_true rfl, Nat.le_of_ble_eq_true rfl⟩) hS (fun q _ h => hFc q h) hFc (fun u3 t H1 locs ht hvm hw hB hz1 hk1 hS => ?_)
  obtain ⟨hP1, hK1, hD1⟩ := hB
  rw [ht] at hP1
  obtain ⟨hP2, hD2⟩ := va_join (wr := ((b0, .inr (3, [.ref (u1 0), .ref (u2 0), .null, .null, .null, .int 0])) :: (IW2 u1 cI cJ z32 (nuI 6) (dnmI 6) z64 z32 z32 ++ (IW1 u2 cI cJ z32 z32 z32 z32 (rtI 6) (rtI 6) (rtI 6) ++ ([]))))) (w1 := IW0 u3 cI cJ z32 z32) hP hD [16] [0, 1, 2, 3, 4, 5, 6, 7, 8, 9, 10, 11, 12, 13, 14, 15] rfl rfl (by decide) (by decide) hk1 hFc hP1 hD1
  generalize H1 = H at hP2 hS ⊢
  obtain rfl : u3 0 = q3 := hw
  have hP := hP2
  have hD := hD2
  have hP : va_P D vwCl ((b0, .inr (3, [.ref (u1 0), .ref (u2 0), .null, .null, .null, .int 0])) :: (IW2 u1 cI cJ z32 (nuI 6) (dnmI 6) z64 z32 z32 ++ (IW1 u2 cI cJ z32 z32 z32 z32 (rtI 6) (rtI 6) (rtI 6) ++ (IW0 u3 cI cJ z32 z32 ++ ([]))))) H := hP
  have hD : va_D A ((b0, .inr (3, [.ref (u1 0), .ref (u2 0), .null, .null, .null, .int 0])) :: (IW2 u1 cI cJ z32 (nuI 6) (dnmI 6) z64 z32 z32 ++ (IW1 u2 cI cJ z32 z32 z32 z32 (rtI 6) (rtI 6) (rtI 6) ++ (IW0 u3 cI cJ z32 z32 ++ ([]))))) := hD
  refine W.widen (k := 18) (n := 225) (Nat.le_of_ble_eq_true rfl) (Nat.le_of_ble_eq_true rfl) ?_
  refine va_putF (D := D) (ci := 3) (v := .ref (u3 0)) (ty := .object "Groupbooks$Balances") (C := RX3) (T := TX3) (N := 6) (Ts := wsX30) hx hb hinX3 (fun _ h9 => h9) tyX3 tyX3_ok nmX3 hown hK hP hD hS 0 rfl rfl 2 (by decide) (hts (.fieldLink RX3 26 "Groupbooks" "balances" "LGroupbooks$Balances;") (by decide +kernel)) (fun _ h9 => h9) rfl hini rfl (by decide +kernel) rfl rfl (Nat.le_of_ble_eq_true rfl) dX3_init_34 (fun H locs hP hD hS => ?_)
  have hP : va_P D vwCl ((b0, .inr (3, [.ref (u1 0), .ref (u2 0), .ref (u3 0), .null, .null, .int 0])) :: (IW2 u1 cI cJ z32 (nuI 6) (dnmI 6) z64 z32 z32 ++ (IW1 u2 cI cJ z32 z32 z32 z32 (rtI 6) (rtI 6) (rtI 6) ++ (IW0 u3 cI cJ z32 z32 ++ ([]))))) H := hP
  have hD : va_D A ((b0, .inr (3, [.ref (u1 0), .ref (u2 0), .ref (u3 0), .null, .null, .int 0])) :: (IW2 u1 cI cJ z32 (nuI 6) (dnmI 6) z64 z32 z32 ++ (IW1 u2 cI cJ z32 z32 z32 z32 (rtI 6) (rtI 6) (rtI 6) ++ (IW0 u3 cI cJ z32 z32 ++ ([]))))) := hD
  refine lv_aload_n hx hb dX3_init_37 rfl (lv_at hl 0 rfl) ?_
  refine lv_bipush (v := 6) hx hb dX3_init_38 (by decide) ?_
  refine b_newI (N := 6) hx hb (hts (.arrayClass .int) (by decide +kernel)) hK hP hD hS hA (by decide) (by decide) (by decide) (Nat.le_of_ble_eq_true rfl) (Nat.le_of_ble_eq_true rfl) dX3_init_40 (fun q4 H hP hD hS => ?_)
  have hP : va_P D vwCl ((b0, .inr (3, [.ref (u1 0), .ref (u2 0), .ref (u3 0), .null, .null, .int 0])) :: (IW2 u1 cI cJ z32 (nuI 6) (dnmI 6) z64 z32 z32 ++ (IW1 u2 cI cJ z32 z32 z32 z32 (rtI 6) (rtI 6) (rtI 6) ++ (IW0 u3 cI cJ z32 z32 ++ ([(q4, eI cI 6 z32)]))))) H := hP
  have hD : va_D A ((b0, .inr (3, [.ref (u1 0), .ref (u2 0), .ref (u3 0), .null, .null, .int 0])) :: (IW2 u1 cI cJ z32 (nuI 6) (dnmI 6) z64 z32 z32 ++ (IW1 u2 cI cJ z32 z32 z32 z32 (rtI 6) (rtI 6) (rtI 6) ++ (IW0 u3 cI cJ z32 z32 ++ ([(q4, eI cI 6 z32)]))))) := hD
  refine W.widen (k := 19) (n := 231) (Nat.le_of_ble_eq_true rfl) (Nat.le_of_ble_eq_true rfl) ?_
  refine va_putF (D := D) (ci := 3) (v := .ref q4) (ty := .array .int) (C := RX3) (T := TX3) (N := 6) (Ts := wsX30) hx hb hinX3 (fun _ h9 => h9) tyX3 tyX3_ok nmX3 hown hK hP hD hS 0 rfl rfl 3 (by decide) (hts (.fieldLink RX3 30 "Groupbooks" "goodwills" "[I") (by decide +kernel)) (fun _ h9 => h9) rfl hini rfl (by decide +kernel) rfl rfl (Nat.le_of_ble_eq_true rfl) dX3_init_42 (fun H locs hP hD hS => ?_)
  have hP : va_P D vwCl ((b0, .inr (3, [.ref (u1 0), .ref (u2 0), .ref (u3 0), .ref q4, .null, .int 0])) :: (IW2 u1 cI cJ z32 (nuI 6) (dnmI 6) z64 z32 z32 ++ (IW1 u2 cI cJ z32 z32 z32 z32 (rtI 6) (rtI 6) (rtI 6) ++ (IW0 u3 cI cJ z32 z32 ++ ([(q4, eI cI 6 z32)]))))) H := hP
  have hD : va_D A ((b0, .inr (3, [.ref (u1 0), .ref (u2 0), .ref (u3 0), .ref q4, .null, .int 0])) :: (IW2 u1 cI cJ z32 (nuI 6) (dnmI 6) z64 z32 z32 ++ (IW1 u2 cI cJ z32 z32 z32 z32 (rtI 6) (rtI 6) (rtI 6) ++ (IW0 u3 cI cJ z32 z32 ++ ([(q4, eI cI 6 z32)]))))) := hD
  refine lv_aload_n hx hb dX3_init_45 rfl (lv_at hl 0 rfl) ?_
  refine lv_bipush (v := 12) hx hb dX3_init_46 (by decide) ?_
  refine b_newI (N := 12) hx hb (hts (.arrayClass .int) (by decide +kernel)) hK hP hD hS hA (by decide) (by decide) (by decide) (Nat.le_of_ble_eq_true rfl) (Nat.le_of_ble_eq_true rfl) dX3_init_48 (fun q5 H hP hD hS => ?_)
  have hP : va_P D vwCl ((b0, .inr (3, [.ref (u1 0), .ref (u2 0), .ref (u3 0), .ref q4, .null, .int 0])) :: (IW2 u1 cI cJ z32 (nuI 6) (dnmI 6) z64 z32 z32 ++ (IW1 u2 cI cJ z32 z32 z32 z32 (rtI 6) (rtI 6) (rtI 6) ++ (IW0 u3 cI cJ z32 z32 ++ ([(q4, eI cI 6 z32), (q5, eI cI 12 z32)]))))) H := hP
  have hD : va_D A ((b0, .inr (3, [.ref (u1 0), .ref (u2 0), .ref (u3 0), .ref q4, .null, .int 0])) :: (IW2 u1 cI cJ z32 (nuI 6) (dnmI 6) z64 z32 z32 ++ (IW1 u2 cI cJ z32 z32 z32 z32 (rtI 6) (rtI 6) (rtI 6) ++ (IW0 u3 cI cJ z32 z32 ++ ([(q4, eI cI 6 z32), (q5, eI cI 12 z32)]))))) := hD
  refine W.widen (k := 20) (n := 243) (Nat.le_of_ble_eq_true rfl) (Nat.le_of_ble_eq_true rfl) ?_
  refine va_putF (D := D) (ci := 3) (v := .ref q5) (ty := .array .int) (C := RX3) (T := TX3) (N := 6) (Ts := wsX30) hx hb hinX3 (fun _ h9 => h9) tyX3 tyX3_ok nmX3 hown hK hP hD hS 0 rfl rfl 4 (by decide) (hts (.fieldLink RX3 34 "Groupbooks" "periodResults" "[I") (by decide +kernel)) (fun _ h9 => h9) rfl hini rfl (by decide +kernel) rfl rfl (Nat.le_of_ble_eq_true rfl) dX3_init_50 (fun H locs hP hD hS => ?_)
  have hP : va_P D vwCl ((b0, .inr (3, [.ref (u1 0), .ref (u2 0), .ref (u3 0), .ref q4, .ref q5, .int 0])) :: (IW2 u1 cI cJ z32 (nuI 6) (dnmI 6) z64 z32 z32 ++ (IW1 u2 cI cJ z32 z32 z32 z32 (rtI 6) (rtI 6) (rtI 6) ++ (IW0 u3 cI cJ z32 z32 ++ ([(q4, eI cI 6 z32), (q5, eI cI 12 z32)]))))) H := hP
  have hD : va_D A ((b0, .inr (3, [.ref (u1 0), .ref (u2 0), .ref (u3 0), .ref q4, .ref q5, .int 0])) :: (IW2 u1 cI cJ z32 (nuI 6) (dnmI 6) z64 z32 z32 ++ (IW1 u2 cI cJ z32 z32 z32 z32 (rtI 6) (rtI 6) (rtI 6) ++ (IW0 u3 cI cJ z32 z32 ++ ([(q4, eI cI 6 z32), (q5, eI cI 12 z32)]))))) := hD
  refine lv_aload_n hx hb dX3_init_53 rfl (lv_at hl 0 rfl) ?_
  refine lv_iconst (v := 0) hx hb dX3_init_54 (by decide) ?_
  refine va_put (D := D) (ci := 3) (v := .int 0) (ty := .int) (C := RX3) (T := TX3) (N := 6) (Ts := wsX30) hx hb hinX3 (fun _ h9 => h9) tyX3 tyX3_ok nmX3 hown hK hP hD hS 0 rfl rfl 5 (by decide) (hts (.fieldLink RX3 37 "Groupbooks" "closedPeriods" "I") (by decide +kernel)) (fun _ h9 => h9) rfl (by decide +kernel) rfl rfl (Nat.le_of_ble_eq_true rfl) dX3_init_55 (fun H locs hP hD hS => ?_)
  have hP : va_P D vwCl ((b0, .inr (3, [.ref (u1 0), .ref (u2 0), .ref (u3 0), .ref q4, .ref q5, .int 0])) :: (IW2 u1 cI cJ z32 (nuI 6) (dnmI 6) z64 z32 z32 ++ (IW1 u2 cI cJ z32 z32 z32 z32 (rtI 6) (rtI 6) (rtI 6) ++ (IW0 u3 cI cJ z32 z32 ++ ([(q4, eI cI 6 z32), (q5, eI cI 12 z32)]))))) H := hP
  have hD : va_D A ((b0, .inr (3, [.ref (u1 0), .ref (u2 0), .ref (u3 0), .ref q4, .ref q5, .int 0])) :: (IW2 u1 cI cJ z32 (nuI 6) (dnmI 6) z64 z32 z32 ++ (IW1 u2 cI cJ z32 z32 z32 z32 (rtI 6) (rtI 6) (rtI 6) ++ (IW0 u3 cI cJ z32 z32 ++ ([(q4, eI cI 6 z32), (q5, eI cI 12 z32)]))))) := hD
  have hP : va_P D vwCl (GW (fun k => ([b0, u1 0, u2 0, u3 0, q4, q5, u1 1, u1 2, u1 3, u1 4, u1 5, u1 6, u2 1, u2 2, u2 3, u2 4, u2 5, u2 6, u2 7, u3 1, u3 2].getD k 0)) cI cJ z32 (nuI 6) (dnmI 6) z64 z32 z32 z32 z32 z32 z32 (rtI 6) (rtI 6) (rtI 6) z32 z32 z32 z32 0) H := hP.sub [0, 1, 8, 16, 19, 20, 2, 3, 4, 5, 6, 7, 9, 10, 11, 12, 13, 14, 15, 17, 18] rfl
  have hD : va_D A (GW (fun k => ([b0, u1 0, u2 0, u3 0, q4, q5, u1 1, u1 2, u1 3, u1 4, u1 5, u1 6, u2 1, u2 2, u2 3, u2 4, u2 5, u2 6, u2 7, u3 1, u3 2].getD k 0)) cI cJ z32 (nuI 6) (dnmI 6) z64 z32 z32 z32 z32 z32 z32 (rtI 6) (rtI 6) (rtI 6) z32 z32 z32 z32 0) := hD.sub [0, 1, 8, 16, 19, 20, 2, 3, 4, 5, 6, 7, 9, 10, 11, 12, 13, 14, 15, 17, 18] (by decide) rfl
  exact W.vret hx hb hr (fun t ht hW => ⟨⟨(fun k => ([b0, u1 0, u2 0, u3 0, q4, q5, u1 1, u1 2, u1 3, u1 4, u1 5, u1 6, u2 1, u2 2, u2 3, u2 4, u2 5, u2 6, u2 7, u3 1, u3 2].getD k 0)), rfl, rfl, by rw [ht]; exact hP, va_K.moved hW.alike hK, hD⟩, hS.F ht⟩) hS.2.2 dX3_init_58
