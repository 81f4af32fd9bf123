abbrev rmL_hold : Room := ({ frames := 6, cells := 0, slots := 0, locals := 154 } : Room)
set_option maxHeartbeats 4000000 in
set_option maxRecDepth 100000 in
theorem c_L_hold (ll : Launch) (D : va_G) (a : Nat → Nat) (cI cJ : ClassId) (sz : Nat) (p : Nat → Int32) (nu de eq : Nat → Int64) (am nx oA oD oE oP cR aR hR cl ad gw pr : Nat → Int32) (n : Int32) (o0 : Nat) (ou : Nat → Int64) (o c : Nat) (x : Int32) (ho : o < 6) (hc : c < 6) (hpr : prB (nI o) (nI c) = true) (hqx : inB x 0 100 = true) (htk : tkOK p eq o c x) : Met ll yL_hold wsL_hold rmL_hold (va_Pc [.ref (a 0), .int (nI (o)), .int (nI (c)), .int (x), .ref (o0)] (PY D (tyG cI cJ) (GW a cI cJ p nu de eq am nx oA oD oE oP cR aR hR cl ad gw pr n ++ [(o0, eJ cJ 1 ou)]) sz)) (va_Qi (fun (rr : Int32) (u : Nat → Int64) => rr = 0) (fun (u : Nat → Int64) t => AW D (tyG cI cJ) (va_A (GW a cI cJ p nu de eq am nx oA oD oE oP cR aR hR cl ad gw pr n ++ [(o0, eJ cJ 1 ou)]) sz) (GW a cI cJ (upd p (6 * o + c) x) (ksN (ds (weO (upd p (6 * o + c) x) eq 5) 5).1 (ds (weO (upd p (6 * o + c) x) eq 5) 5).2 nu 5) (ksD (ds (weO (upd p (6 * o + c) x) eq 5) 5).1 (ds (weO (upd p (6 * o + c) x) eq 5) 5).2 de 5) u am nx oA oD oE oP cR aR hR cl ad gw pr n ++ [(o0, eJ cJ 1 (vp_updL ou 0 (p (6 * o + c)).toInt64))]) t) (va_A (GW a cI cJ p nu de eq am nx oA oD oE oP cR aR hR cl ad gw pr n ++ [(o0, eJ cJ 1 ou)]) sz)) 0 0 (va_A (GW a cI cJ p nu de eq am nx oA oD oE oP cR aR hR cl ad gw pr n ++ [(o0, eJ cJ 1 ou)]) sz) := by
  refine ofWC (cc := cL_hold) (maxL := 6) (ret := (some .int)) (hh := [(0, 12, 15, 13), (0, 12, 19, 15)]) (by decide) rfl ?_
  intro pp ee ss mm ar bel mth cde s₁ B hml htab hv
  obtain ⟨rfl, ⟨hsz, hP, hK, hD0, hE, hV⟩, hDC⟩ := hv
  have hx := B.exec
  have hb := B.bytes
  have hr := B.returns
  have hts := atoms_spec (ws := wsL_hold) B.pre
  have hown : ss.vm.findClass RL = some mm.cls := findClass_of_methodNamed B.named
  have hlocks := B.notSynchronized
  subst hsz
  have hD := hD0.self (sz := ss.heap.size)
  generalize hAe : va_A (GW a cI cJ p nu de eq am nx oA oD oE oP cR aR hR cl ad gw pr n ++ [(o0, eJ cJ 1 ou)]) ss.heap.size = A at hD hV ⊢
  have hA : ∀ q : Nat, ss.heap.size ≤ q → A q := fun q h => by rw [← hAe]; exact Or.inr h
  have hS : va_S A ss.heap ss.heap [] := va_S.rf
  have hl := lv_entry [.ref (a 0), .int (nI (o)), .int (nI (c)), .int (x), .ref (o0)] (n := 6) (Nat.le_of_ble_eq_true rfl)
  rw [lg_entry_eq]
  generalize (lg_sl [.ref (a 0), .int (nI (o)), .int (nI (c)), .int (x), .ref (o0)] ++ List.replicate (6 - (lg_sl [.ref (a 0), .int (nI (o)), .int (nI (c)), .int (x), .ref (o0)]).length) Slot.unset).toArray = ls at hl ⊢
  have hl : lv_has ls 6 [(0, .ref (a 0)), (1, .int (nI (o))), (2, .int (nI (c))), (3, .int (x)), (4, .ref (o0))] := hl
  refine lv_aload hx hb dL_hold_0 (lv_at hl 4 rfl) ?_
  refine lv_iconst (v := 0) hx hb dL_hold_2 (by decide) ?_
  refine lv_aload_n hx hb dL_hold_3 rfl (lv_at hl 0 rfl) ?_
  refine lv_iload_n hx hb dL_hold_4 rfl (lv_at hl 1 rfl) ?_
  refine lv_iload_n hx hb dL_hold_5 rfl (lv_at hl 2 rfl) ?_
  refine lv_iload_n hx hb dL_hold_6 rfl (lv_at hl 3 rfl) ?_
  refine b_calliP (S := Nat → Int64) (wc := GW a cI cJ p nu de eq am nx oA oD oE oP cR aR hR cl ad gw pr n) (wr := [(o0, eJ cJ 1 ou)]) (w' := fun u => GW a cI cJ (upd p (6 * o + c) x) (ksN (ds (weO (upd p (6 * o + c) x) eq 5) 5).1 (ds (weO (upd p (6 * o + c) x) eq 5) 5).2 nu 5) (ksD (ds (weO (upd p (6 * o + c) x) eq 5) 5).1 (ds (weO (upd p (6 * o + c) x) eq 5) 5).2 de 5) u am nx oA oD oE oP cR aR hR cl ad gw pr n) hP hD hS hA (va_runV (As := [.int (nI (o)), .int (nI (c)), .int (x)]) (rest := [.int (0), .ref (o0)]) ⟨hx, hb, hml, hown, hts⟩ (c_X3_hold ll D a cI cJ _ p nu de eq am nx oA oD oE oP cR aR hR cl ad gw pr n o c x ho hc hpr hqx htk) (cwV 3 hts gL_hold_X3_hold rfl rfl rfl (by decide +kernel) ⟨Nat.le_of_ble_eq_true rfl, Nat.le_of_ble_eq_true rfl⟩) ⟨PW.blind, va_recv hK hP (ci := 3) (q0 := 0) rfl rfl, PW.goP (wr := [(o0, eJ cJ 1 ou)]) hP hK hD hE⟩ rfl rfl hl.1 rfl (lv_room (Nat.le_of_ble_eq_true rfl)) dL_hold_7 ⟨Nat.le_of_ble_eq_true rfl, Nat.le_of_ble_eq_true rfl⟩) (fun r9 u H locs hu hP hD hS => ?_)
  obtain rfl : r9 = p (6 * o + c) := hu
  refine lv_i2l (v := (p (6 * o + c)).toInt64) hx hb dL_hold_10 rfl ?_
  refine b_last (w' := GW a cI cJ (upd p (6 * o + c) x) (ksN (ds (weO (upd p (6 * o + c) x) eq 5) 5).1 (ds (weO (upd p (6 * o + c) x) eq 5) 5).2 nu 5) (ksD (ds (weO (upd p (6 * o + c) x) eq 5) 5).1 (ds (weO (upd p (6 * o + c) x) eq 5) 5).2 de 5) u am nx oA oD oE oP cR aR hR cl ad gw pr n ++ [(o0, eJ cJ 1 (vp_updL ou 0 (p (6 * o + c)).toInt64))]) hx hb hK hP hD hS 21 1 (f := ou) rfl rfl (j := 0) (by omega) (by decide) rfl dL_hold_11 (fun H locs hP hD hS => ?_)
  refine lv_goto (tgt := 23) hx hb dL_hold_12 (by decide) ?_
  refine lv_iconst (v := 0) hx hb dL_hold_23 (by decide) ?_
  exact W.iret hx hb hr (fun t ht hW => ⟨⟨_, u, rfl, rfl, (by rw [ht]; exact hP), va_K.moved hW.alike hK, hD⟩, hS.F ht⟩) hS.2.2 dL_hold_24

abbrev rmL_hold_no : Room := ({ frames := 8, cells := 1, slots := 6, locals := 154 } : Room)
set_option maxHeartbeats 4000000 in
set_option maxRecDepth 100000 in
theorem c_L_hold_no (ll : Launch) (hst : ll.stackTraces = false) (D : va_G) (a : Nat → Nat) (cI cJ : ClassId) (sz : Nat) (p : Nat → Int32) (nu de eq : Nat → Int64) (am nx oA oD oE oP cR aR hR cl ad gw pr : Nat → Int32) (n : Int32) (o0 : Nat) (ou : Nat → Int64) (o c : Nat) (x : Int32) (ho : o < 6) (hc : c < 6) (hpr : prB (nI o) (nI c) = true) (hqx : inB x 0 100 = true) (htk : ¬ tkOK p eq o c x) : Met ll yL_hold wsL_hold rmL_hold_no (va_Pc [.ref (a 0), .int (nI (o)), .int (nI (c)), .int (x), .ref (o0)] (fun U => PY D (tyG cI cJ) (GW a cI cJ p nu de eq am nx oA oD oE oP cR aR hR cl ad gw pr n ++ [(o0, eJ cJ 1 ou)]) sz U ∧ va_Nc RIS RIA U)) (va_Qi (fun (rr : Int32) (u : Nat → Int64) => rr = 2) (fun (u : Nat → Int64) t => AW D (tyG cI cJ) (va_A (GW a cI cJ p nu de eq am nx oA oD oE oP cR aR hR cl ad gw pr n ++ [(o0, eJ cJ 1 ou)]) sz) (GW a cI cJ p nu de u am nx oA oD oE oP cR aR hR cl ad gw pr n ++ [(o0, eJ cJ 1 ou)]) t) (va_A (GW a cI cJ p nu de eq am nx oA oD oE oP cR aR hR cl ad gw pr n ++ [(o0, eJ cJ 1 ou)]) sz)) 1 6 (va_A (GW a cI cJ p nu de eq am nx oA oD oE oP cR aR hR cl ad gw pr n ++ [(o0, eJ cJ 1 ou)]) sz) := by
  refine ofWC (cc := cL_hold) (maxL := 6) (ret := (some .int)) (hh := [(0, 12, 15, 13), (0, 12, 19, 15)]) (by decide) rfl ?_
  intro pp ee ss mm ar bel mth cde s₁ B hml htab hv
  obtain ⟨rfl, ⟨⟨hsz, hP, hK, hD0, hE, hV⟩, hDC⟩, hNc⟩ := hv
  have hx := B.exec
  have hb := B.bytes
  have hr := B.returns
  have hts := atoms_spec (ws := wsL_hold) B.pre
  have hown : ss.vm.findClass RL = some mm.cls := findClass_of_methodNamed B.named
  have hlocks := B.notSynchronized
  subst hsz
  have hD := hD0.self (sz := ss.heap.size)
  generalize hAe : va_A (GW a cI cJ p nu de eq am nx oA oD oE oP cR aR hR cl ad gw pr n ++ [(o0, eJ cJ 1 ou)]) ss.heap.size = A at hD hV ⊢
  have hA : ∀ q : Nat, ss.heap.size ≤ q → A q := fun q h => by rw [← hAe]; exact Or.inr h
  have hS : va_S A ss.heap ss.heap [] := va_S.rf
  have hl := lv_entry [.ref (a 0), .int (nI (o)), .int (nI (c)), .int (x), .ref (o0)] (n := 6) (Nat.le_of_ble_eq_true rfl)
  rw [lg_entry_eq]
  generalize (lg_sl [.ref (a 0), .int (nI (o)), .int (nI (c)), .int (x), .ref (o0)] ++ List.replicate (6 - (lg_sl [.ref (a 0), .int (nI (o)), .int (nI (c)), .int (x), .ref (o0)]).length) Slot.unset).toArray = ls at hl ⊢
  have hl : lv_has ls 6 [(0, .ref (a 0)), (1, .int (nI (o))), (2, .int (nI (c))), (3, .int (x)), (4, .ref (o0))] := hl
  refine lv_aload hx hb dL_hold_0 (lv_at hl 4 rfl) ?_
  refine lv_iconst (v := 0) hx hb dL_hold_2 (by decide) ?_
  refine lv_aload_n hx hb dL_hold_3 rfl (lv_at hl 0 rfl) ?_
  refine lv_iload_n hx hb dL_hold_4 rfl (lv_at hl 1 rfl) ?_
  refine lv_iload_n hx hb dL_hold_5 rfl (lv_at hl 2 rfl) ?_
  refine lv_iload_n hx hb dL_hold_6 rfl (lv_at hl 3 rfl) ?_
  refine b_catch (wc := GW a cI cJ p nu de eq am nx oA oD oE oP cR aR hR cl ad gw pr n) (wr := [(o0, eJ cJ 1 ou)]) (S := Nat → Int64) (name := RIS) (E0 := RIS) hP hD hS hA (vx_runV (As := [.int (nI (o)), .int (nI (c)), .int (x)]) (rest := [.int (0), .ref (o0)]) ⟨hx, hb, hml, hown, hts⟩ (c_X3_hold_no ll hst D a cI cJ _ p nu de eq am nx oA oD oE oP cR aR hR cl ad gw pr n o c x ho hc hpr hqx htk) (cwV 3 hts gL_hold_X3_hold rfl rfl rfl (by decide +kernel) ⟨Nat.le_of_ble_eq_true rfl, Nat.le_of_ble_eq_true rfl⟩) ⟨PY.blind, va_recv hK hP (ci := 3) (q0 := 0) rfl rfl, PY.go hP hK hD hE hV hDC hS hA⟩ rfl rfl hl.1 rfl (lv_room (Nat.le_of_ble_eq_true rfl)) dL_hold_7 ⟨Nat.le_of_ble_eq_true rfl, Nat.le_of_ble_eq_true rfl⟩) (fun v st t h => by obtain ⟨⟨_, _, _, h9, _⟩, _⟩ := h; exact h9) hown [⟨0, 12, 15, 13⟩] ⟨0, 12, 19, 15⟩ [] htab (fun z hz => by cases List.mem_singleton.mp hz; exact Or.inr ⟨by decide, RIA, hts (.classLink RL 13 RIA) (by decide +kernel), hNc⟩) (by decide) (by decide) (hts (.classLink RL 15 RIS) (by decide +kernel)) (va_Nw.use rfl hE.2.2.1) (fun u q9 H locs hP hD hS => ?_)
  refine lv_astore (lv' := [(5, .ref (q9)), (0, .ref (a 0)), (1, .int (nI (o))), (2, .int (nI (c))), (3, .int (x)), (4, .ref (o0))]) hx hb dL_hold_19 hl (by decide) rfl (fun ls hl => ?_)
  refine lv_iconst (v := 2) hx hb dL_hold_21 (by decide) ?_
  exact W.iret hx hb hr (fun t ht hW => ⟨⟨_, u, rfl, rfl, (by rw [ht]; exact hP), va_K.moved hW.alike hK, hD⟩, hS.F ht⟩) hS.2.2 dL_hold_22

abbrev rmL_hold_bad : Room := ({ frames := 10, cells := 1, slots := 6, locals := 169 } : Room)
set_option maxHeartbeats 4000000 in
set_option maxRecDepth 100000 in
theorem c_L_hold_bad (ll : Launch) (hst : ll.stackTraces = false) (D : va_G) (a : Nat → Nat) (cI cJ : ClassId) (sz : Nat) (p : Nat → Int32) (nu de eq : Nat → Int64) (am nx oA oD oE oP cR aR hR cl ad gw pr : Nat → Int32) (n : Int32) (o0 : Nat) (ou : Nat → Int64) (x0 x1 x : Int32) (hbad : ¬ (prB x0 x1 = true ∧ inB x 0 100 = true)) : Met ll yL_hold wsL_hold rmL_hold_bad (va_Pc [.ref (a 0), .int (x0), .int (x1), .int (x), .ref (o0)] (PY D (tyG cI cJ) (GW a cI cJ p nu de eq am nx oA oD oE oP cR aR hR cl ad gw pr n ++ [(o0, eJ cJ 1 ou)]) sz)) (va_Qi (fun (rr : Int32) (u : Unit) => rr = 1) (fun (u : Unit) t => AW D (tyG cI cJ) (va_A (GW a cI cJ p nu de eq am nx oA oD oE oP cR aR hR cl ad gw pr n ++ [(o0, eJ cJ 1 ou)]) sz) (GW a cI cJ p nu de eq am nx oA oD oE oP cR aR hR cl ad gw pr n ++ [(o0, eJ cJ 1 ou)]) t) (va_A (GW a cI cJ p nu de eq am nx oA oD oE oP cR aR hR cl ad gw pr n ++ [(o0, eJ cJ 1 ou)]) sz)) 1 6 (va_A (GW a cI cJ p nu de eq am nx oA oD oE oP cR aR hR cl ad gw pr n ++ [(o0, eJ cJ 1 ou)]) sz) := by
  refine ofWC (cc := cL_hold) (maxL := 6) (ret := (some .int)) (hh := [(0, 12, 15, 13), (0, 12, 19, 15)]) (by decide) rfl ?_
  intro pp ee ss mm ar bel mth cde s₁ B hml htab hv
  obtain ⟨rfl, ⟨hsz, hP, hK, hD0, hE, hV⟩, hDC⟩ := hv
  have hx := B.exec
  have hb := B.bytes
  have hr := B.returns
  have hts := atoms_spec (ws := wsL_hold) B.pre
  have hown : ss.vm.findClass RL = some mm.cls := findClass_of_methodNamed B.named
  have hlocks := B.notSynchronized
  subst hsz
  have hD := hD0.self (sz := ss.heap.size)
  generalize hAe : va_A (GW a cI cJ p nu de eq am nx oA oD oE oP cR aR hR cl ad gw pr n ++ [(o0, eJ cJ 1 ou)]) ss.heap.size = A at hD hV ⊢
  have hA : ∀ q : Nat, ss.heap.size ≤ q → A q := fun q h => by rw [← hAe]; exact Or.inr h
  have hS : va_S A ss.heap ss.heap [] := va_S.rf
  have hl := lv_entry [.ref (a 0), .int (x0), .int (x1), .int (x), .ref (o0)] (n := 6) (Nat.le_of_ble_eq_true rfl)
  rw [lg_entry_eq]
  generalize (lg_sl [.ref (a 0), .int (x0), .int (x1), .int (x), .ref (o0)] ++ List.replicate (6 - (lg_sl [.ref (a 0), .int (x0), .int (x1), .int (x), .ref (o0)]).length) Slot.unset).toArray = ls at hl ⊢
  have hl : lv_has ls 6 [(0, .ref (a 0)), (1, .int (x0)), (2, .int (x1)), (3, .int (x)), (4, .ref (o0))] := hl
  refine lv_aload hx hb dL_hold_0 (lv_at hl 4 rfl) ?_
  refine lv_iconst (v := 0) hx hb dL_hold_2 (by decide) ?_
  refine lv_aload_n hx hb dL_hold_3 rfl (lv_at hl 0 rfl) ?_
  refine lv_iload_n hx hb dL_hold_4 rfl (lv_at hl 1 rfl) ?_
  refine lv_iload_n hx hb dL_hold_5 rfl (lv_at hl 2 rfl) ?_
  refine lv_iload_n hx hb dL_hold_6 rfl (lv_at hl 3 rfl) ?_
  refine b_catch (wc := GW a cI cJ p nu de eq am nx oA oD oE oP cR aR hR cl ad gw pr n) (wr := [(o0, eJ cJ 1 ou)]) (S := Unit) (name := RIA) (E0 := RIA) hP hD hS hA (vx_runV (As := [.int (x0), .int (x1), .int (x)]) (rest := [.int (0), .ref (o0)]) ⟨hx, hb, hml, hown, hts⟩ (c_X3_hold_bad ll hst D a cI cJ _ p nu de eq am nx oA oD oE oP cR aR hR cl ad gw pr n x0 x1 x hbad) (cwV 3 hts gL_hold_X3_hold rfl rfl rfl (by decide +kernel) ⟨Nat.le_of_ble_eq_true rfl, Nat.le_of_ble_eq_true rfl⟩) ⟨PY.blind, va_recv hK hP (ci := 3) (q0 := 0) rfl rfl, PY.go hP hK hD hE hV hDC hS hA⟩ rfl rfl hl.1 rfl (lv_room (Nat.le_of_ble_eq_true rfl)) dL_hold_7 ⟨Nat.le_of_ble_eq_true rfl, Nat.le_of_ble_eq_true rfl⟩) (fun v st t h => by obtain ⟨⟨_, _, _, h9, _⟩, _⟩ := h; exact h9) hown [] ⟨0, 12, 15, 13⟩ [⟨0, 12, 19, 15⟩] htab (fun z hz => by cases hz) (by decide) (by decide) (hts (.classLink RL 13 RIA) (by decide +kernel)) (va_Nw.use rfl hE.2.1) (fun u q9 H locs hP hD hS => ?_)
  refine lv_astore (lv' := [(5, .ref (q9)), (0, .ref (a 0)), (1, .int (x0)), (2, .int (x1)), (3, .int (x)), (4, .ref (o0))]) hx hb dL_hold_15 hl (by decide) rfl (fun ls hl => ?_)
  refine lv_iconst (v := 1) hx hb dL_hold_17 (by decide) ?_
  exact W.iret hx hb hr (fun t ht hW => ⟨⟨_, u, rfl, rfl, (by rw [ht]; exact hP), va_K.moved hW.alike hK, hD⟩, hS.F ht⟩) hS.2.2 dL_hold_18

abbrev rmL_acquire : Room := ({ frames := 6, cells := 0, slots := 0, locals := 155 } : Room)
set_option maxHeartbeats 4000000 in
set_option maxRecDepth 100000 in
theorem c_L_acquire (ll : Launch) (D : va_G) (a : Nat → Nat) (cI cJ : ClassId) (sz : Nat) (p : Nat → Int32) (nu de eq : Nat → Int64) (am nx oA oD oE oP cR aR hR cl ad gw pr : Nat → Int32) (n : Int32) (o0 : Nat) (ou : Nat → Int64) (o c : Nat) (x pz : Int32) (ho : o < 6) (hc : c < 6) (hpr : prB (nI o) (nI c) = true) (hqx : inB x 1 100 = true) (hz : inB pz 0 1000000 = true) (htk : tkOK p eq o c (p (6 * o + c) + x)) : Met ll yL_acquire wsL_acquire rmL_acquire (va_Pc [.ref (a 0), .int (nI (o)), .int (nI (c)), .int (x), .int (pz), .ref (o0)] (PY D (tyG cI cJ) (GW a cI cJ p nu de eq am nx oA oD oE oP cR aR hR cl ad gw pr n ++ [(o0, eJ cJ 1 ou)]) sz)) (va_Qi (fun (rr : Int32) (u : Nat → Int64) => rr = 0) (fun (u : Nat → Int64) t => AW D (tyG cI cJ) (va_A (GW a cI cJ p nu de eq am nx oA oD oE oP cR aR hR cl ad gw pr n ++ [(o0, eJ cJ 1 ou)]) sz) (GW a cI cJ (upd p (6 * o + c) (p (6 * o + c) + x)) (ksN (ds (weO (upd p (6 * o + c) (p (6 * o + c) + x)) eq 5) 5).1 (ds (weO (upd p (6 * o + c) (p (6 * o + c) + x)) eq 5) 5).2 nu 5) (ksD (ds (weO (upd p (6 * o + c) (p (6 * o + c) + x)) eq 5) 5).1 (ds (weO (upd p (6 * o + c) (p (6 * o + c) + x)) eq 5) 5).2 de 5) u am nx oA oD oE oP cR aR hR cl ad (upd gw c (gw c + (pz - fdI (x * (tr (oA c) (cR c) - tr (oD c) (cR c))) 100))) pr n ++ [(o0, eJ cJ 1 (vp_updL ou 0 ((p (6 * o + c)) + (x)).toInt64))]) t) (va_A (GW a cI cJ p nu de eq am nx oA oD oE oP cR aR hR cl ad gw pr n ++ [(o0, eJ cJ 1 ou)]) sz)) 0 0 (va_A (GW a cI cJ p nu de eq am nx oA oD oE oP cR aR hR cl ad gw pr n ++ [(o0, eJ cJ 1 ou)]) sz) := by
  refine ofWC (cc := cL_acquire) (maxL := 7) (ret := (some .int)) (hh := [(0, 14, 17, 13), (0, 14, 21, 15)]) (by decide) rfl ?_
  intro pp ee ss mm ar bel mth cde s₁ B hml htab hv
  obtain ⟨rfl, ⟨hsz, hP, hK, hD0, hE, hV⟩, hDC⟩ := hv
  have hx := B.exec
  have hb := B.bytes
  have hr := B.returns
  have hts := atoms_spec (ws := wsL_acquire) B.pre
  have hown : ss.vm.findClass RL = some mm.cls := findClass_of_methodNamed B.named
  have hlocks := B.notSynchronized
  subst hsz
  have hD := hD0.self (sz := ss.heap.size)
  generalize hAe : va_A (GW a cI cJ p nu de eq am nx oA oD oE oP cR aR hR cl ad gw pr n ++ [(o0, eJ cJ 1 ou)]) ss.heap.size = A at hD hV ⊢
  have hA : ∀ q : Nat, ss.heap.size ≤ q → A q := fun q h => by rw [← hAe]; exact Or.inr h
  have hS : va_S A ss.heap ss.heap [] := va_S.rf
  have hl := lv_entry [.ref (a 0), .int (nI (o)), .int (nI (c)), .int (x), .int (pz), .ref (o0)] (n := 7) (Nat.le_of_ble_eq_true rfl)
  rw [lg_entry_eq]
  generalize (lg_sl [.ref (a 0), .int (nI (o)), .int (nI (c)), .int (x), .int (pz), .ref (o0)] ++ List.replicate (7 - (lg_sl [.ref (a 0), .int (nI (o)), .int (nI (c)), .int (x), .int (pz), .ref (o0)]).length) Slot.unset).toArray = ls at hl ⊢
  have hl : lv_has ls 7 [(0, .ref (a 0)), (1, .int (nI (o))), (2, .int (nI (c))), (3, .int (x)), (4, .int (pz)), (5, .ref (o0))] := hl
  refine lv_aload hx hb dL_acquire_0 (lv_at hl 5 rfl) ?_
  refine lv_iconst (v := 0) hx hb dL_acquire_2 (by decide) ?_
  refine lv_aload_n hx hb dL_acquire_3 rfl (lv_at hl 0 rfl) ?_
  refine lv_iload_n hx hb dL_acquire_4 rfl (lv_at hl 1 rfl) ?_
  refine lv_iload_n hx hb dL_acquire_5 rfl (lv_at hl 2 rfl) ?_
  refine lv_iload_n hx hb dL_acquire_6 rfl (lv_at hl 3 rfl) ?_
  refine lv_iload hx hb dL_acquire_7 (lv_at hl 4 rfl) ?_
  refine b_calliP (S := Nat → Int64) (wc := GW a cI cJ p nu de eq am nx oA oD oE oP cR aR hR cl ad gw pr n) (wr := [(o0, eJ cJ 1 ou)]) (w' := fun u => GW a cI cJ (upd p (6 * o + c) (p (6 * o + c) + x)) (ksN (ds (weO (upd p (6 * o + c) (p (6 * o + c) + x)) eq 5) 5).1 (ds (weO (upd p (6 * o + c) (p (6 * o + c) + x)) eq 5) 5).2 nu 5) (ksD (ds (weO (upd p (6 * o + c) (p (6 * o + c) + x)) eq 5) 5).1 (ds (weO (upd p (6 * o + c) (p (6 * o + c) + x)) eq 5) 5).2 de 5) u am nx oA oD oE oP cR aR hR cl ad (upd gw c (gw c + (pz - fdI (x * (tr (oA c) (cR c) - tr (oD c) (cR c))) 100))) pr n) hP hD hS hA (va_runV (As := [.int (nI (o)), .int (nI (c)), .int (x), .int (pz)]) (rest := [.int (0), .ref (o0)]) ⟨hx, hb, hml, hown, hts⟩ (c_X3_acquire ll D a cI cJ _ p nu de eq am nx oA oD oE oP cR aR hR cl ad gw pr n o c x pz ho hc hpr hqx hz htk) (cwV 4 hts gL_acquire_X3_acquire rfl rfl rfl (by decide +kernel) ⟨Nat.le_of_ble_eq_true rfl, Nat.le_of_ble_eq_true rfl⟩) ⟨PW.blind, va_recv hK hP (ci := 3) (q0 := 0) rfl rfl, PW.goP (wr := [(o0, eJ cJ 1 ou)]) hP hK hD hE⟩ rfl rfl hl.1 rfl (lv_room (Nat.le_of_ble_eq_true rfl)) dL_acquire_9 ⟨Nat.le_of_ble_eq_true rfl, Nat.le_of_ble_eq_true rfl⟩) (fun r9 u H locs hu hP hD hS => ?_)
  obtain rfl : r9 = (p (6 * o + c)) + (x) := hu
  refine lv_i2l (v := ((p (6 * o + c)) + (x)).toInt64) hx hb dL_acquire_12 rfl ?_
  refine b_last (w' := GW a cI cJ (upd p (6 * o + c) (p (6 * o + c) + x)) (ksN (ds (weO (upd p (6 * o + c) (p (6 * o + c) + x)) eq 5) 5).1 (ds (weO (upd p (6 * o + c) (p (6 * o + c) + x)) eq 5) 5).2 nu 5) (ksD (ds (weO (upd p (6 * o + c) (p (6 * o + c) + x)) eq 5) 5).1 (ds (weO (upd p (6 * o + c) (p (6 * o + c) + x)) eq 5) 5).2 de 5) u am nx oA oD oE oP cR aR hR cl ad (upd gw c (gw c + (pz - fdI (x * (tr (oA c) (cR c) - tr (oD c) (cR c))) 100))) pr n ++ [(o0, eJ cJ 1 (vp_updL ou 0 ((p (6 * o + c)) + (x)).toInt64))]) hx hb hK hP hD hS 21 1 (f := ou) rfl rfl (j := 0) (by omega) (by decide) rfl dL_acquire_13 (fun H locs hP hD hS => ?_)
  refine lv_goto (tgt := 25) hx hb dL_acquire_14 (by decide) ?_
  refine lv_iconst (v := 0) hx hb dL_acquire_25 (by decide) ?_
  exact W.iret hx hb hr (fun t ht hW => ⟨⟨_, u, rfl, rfl, (by rw [ht]; exact hP), va_K.moved hW.alike hK, hD⟩, hS.F ht⟩) hS.2.2 dL_acquire_26

abbrev rmL_acquire_no : Room := ({ frames := 8, cells := 1, slots := 6, locals := 155 } : Room)
set_option maxHeartbeats 4000000 in
set_option maxRecDepth 100000 in
theorem c_L_acquire_no (ll : Launch) (hst : ll.stackTraces = false) (D : va_G) (a : Nat → Nat) (cI cJ : ClassId) (sz : Nat) (p : Nat → Int32) (nu de eq : Nat → Int64) (am nx oA oD oE oP cR aR hR cl ad gw pr : Nat → Int32) (n : Int32) (o0 : Nat) (ou : Nat → Int64) (o c : Nat) (x pz : Int32) (ho : o < 6) (hc : c < 6) (hpr : prB (nI o) (nI c) = true) (hqx : inB x 1 100 = true) (hz : inB pz 0 1000000 = true) (htk : ¬ tkOK p eq o c (p (6 * o + c) + x)) : Met ll yL_acquire wsL_acquire rmL_acquire_no (va_Pc [.ref (a 0), .int (nI (o)), .int (nI (c)), .int (x), .int (pz), .ref (o0)] (fun U => PY D (tyG cI cJ) (GW a cI cJ p nu de eq am nx oA oD oE oP cR aR hR cl ad gw pr n ++ [(o0, eJ cJ 1 ou)]) sz U ∧ va_Nc RIS RIA U)) (va_Qi (fun (rr : Int32) (u : Nat → Int64) => rr = 2) (fun (u : Nat → Int64) t => AW D (tyG cI cJ) (va_A (GW a cI cJ p nu de eq am nx oA oD oE oP cR aR hR cl ad gw pr n ++ [(o0, eJ cJ 1 ou)]) sz) (GW a cI cJ p nu de u am nx oA oD oE oP cR aR hR cl ad gw pr n ++ [(o0, eJ cJ 1 ou)]) t) (va_A (GW a cI cJ p nu de eq am nx oA oD oE oP cR aR hR cl ad gw pr n ++ [(o0, eJ cJ 1 ou)]) sz)) 1 6 (va_A (GW a cI cJ p nu de eq am nx oA oD oE oP cR aR hR cl ad gw pr n ++ [(o0, eJ cJ 1 ou)]) sz) := by
  refine ofWC (cc := cL_acquire) (maxL := 7) (ret := (some .int)) (hh := [(0, 14, 17, 13), (0, 14, 21, 15)]) (by decide) rfl ?_
  intro pp ee ss mm ar bel mth cde s₁ B hml htab hv
  obtain ⟨rfl, ⟨⟨hsz, hP, hK, hD0, hE, hV⟩, hDC⟩, hNc⟩ := hv
  have hx := B.exec
  have hb := B.bytes
  have hr := B.returns
  have hts := atoms_spec (ws := wsL_acquire) B.pre
  have hown : ss.vm.findClass RL = some mm.cls := findClass_of_methodNamed B.named
  have hlocks := B.notSynchronized
  subst hsz
  have hD := hD0.self (sz := ss.heap.size)
  generalize hAe : va_A (GW a cI cJ p nu de eq am nx oA oD oE oP cR aR hR cl ad gw pr n ++ [(o0, eJ cJ 1 ou)]) ss.heap.size = A at hD hV ⊢
  have hA : ∀ q : Nat, ss.heap.size ≤ q → A q := fun q h => by rw [← hAe]; exact Or.inr h
  have hS : va_S A ss.heap ss.heap [] := va_S.rf
  have hl := lv_entry [.ref (a 0), .int (nI (o)), .int (nI (c)), .int (x), .int (pz), .ref (o0)] (n := 7) (Nat.le_of_ble_eq_true rfl)
  rw [lg_entry_eq]
  generalize (lg_sl [.ref (a 0), .int (nI (o)), .int (nI (c)), .int (x), .int (pz), .ref (o0)] ++ List.replicate (7 - (lg_sl [.ref (a 0), .int (nI (o)), .int (nI (c)), .int (x), .int (pz), .ref (o0)]).length) Slot.unset).toArray = ls at hl ⊢
  have hl : lv_has ls 7 [(0, .ref (a 0)), (1, .int (nI (o))), (2, .int (nI (c))), (3, .int (x)), (4, .int (pz)), (5, .ref (o0))] := hl
  refine lv_aload hx hb dL_acquire_0 (lv_at hl 5 rfl) ?_
  refine lv_iconst (v := 0) hx hb dL_acquire_2 (by decide) ?_
  refine lv_aload_n hx hb dL_acquire_3 rfl (lv_at hl 0 rfl) ?_
  refine lv_iload_n hx hb dL_acquire_4 rfl (lv_at hl 1 rfl) ?_
  refine lv_iload_n hx hb dL_acquire_5 rfl (lv_at hl 2 rfl) ?_
  refine lv_iload_n hx hb dL_acquire_6 rfl (lv_at hl 3 rfl) ?_
  refine lv_iload hx hb dL_acquire_7 (lv_at hl 4 rfl) ?_
  refine b_catch (wc := GW a cI cJ p nu de eq am nx oA oD oE oP cR aR hR cl ad gw pr n) (wr := [(o0, eJ cJ 1 ou)]) (S := Nat → Int64) (name := RIS) (E0 := RIS) hP hD hS hA (vx_runV (As := [.int (nI (o)), .int (nI (c)), .int (x), .int (pz)]) (rest := [.int (0), .ref (o0)]) ⟨hx, hb, hml, hown, hts⟩ (c_X3_acquire_no ll hst D a cI cJ _ p nu de eq am nx oA oD oE oP cR aR hR cl ad gw pr n o c x pz ho hc hpr hqx hz htk) (cwV 4 hts gL_acquire_X3_acquire rfl rfl rfl (by decide +kernel) ⟨Nat.le_of_ble_eq_true rfl, Nat.le_of_ble_eq_true rfl⟩) ⟨PY.blind, va_recv hK hP (ci := 3) (q0 := 0) rfl rfl, PY.go hP hK hD hE hV hDC hS hA⟩ rfl rfl hl.1 rfl (lv_room (Nat.le_of_ble_eq_true rfl)) dL_acquire_9 ⟨Nat.le_of_ble_eq_true rfl, Nat.le_of_ble_eq_true rfl⟩) (fun v st t h => by obtain ⟨⟨_, _, _, h9, _⟩, _⟩ := h; exact h9) hown [⟨0, 14, 17, 13⟩] ⟨0, 14, 21, 15⟩ [] htab (fun z hz => by cases List.mem_singleton.mp hz; exact Or.inr ⟨by decide, RIA, hts (.classLink RL 13 RIA) (by decide +kernel), hNc⟩) (by decide) (by decide) (hts (.classLink RL 15 RIS) (by decide +kernel)) (va_Nw.use rfl hE.2.2.1) (fun u q9 H locs hP hD hS => ?_)
  refine lv_astore (lv' := [(6, .ref (q9)), (0, .ref (a 0)), (1, .int (nI (o))), (2, .int (nI (c))), (3, .int (x)), (4, .int (pz)), (5, .ref (o0))]) hx hb dL_acquire_21 hl (by decide) rfl (fun ls hl => ?_)
  refine lv_iconst (v := 2) hx hb dL_acquire_23 (by decide) ?_
  exact W.iret hx hb hr (fun t ht hW => ⟨⟨_, u, rfl, rfl, (by rw [ht]; exact hP), va_K.moved hW.alike hK, hD⟩, hS.F ht⟩) hS.2.2 dL_acquire_24

abbrev rmL_acquire_bad : Room := ({ frames := 10, cells := 1, slots := 6, locals := 170 } : Room)
set_option maxHeartbeats 4000000 in
set_option maxRecDepth 100000 in
theorem c_L_acquire_bad (ll : Launch) (hst : ll.stackTraces = false) (D : va_G) (a : Nat → Nat) (cI cJ : ClassId) (sz : Nat) (p : Nat → Int32) (nu de eq : Nat → Int64) (am nx oA oD oE oP cR aR hR cl ad gw pr : Nat → Int32) (n : Int32) (o0 : Nat) (ou : Nat → Int64) (x0 x1 x pz : Int32) (hbad : ¬ (prB x0 x1 = true ∧ inB x 1 100 = true ∧ inB pz 0 1000000 = true)) : Met ll yL_acquire wsL_acquire rmL_acquire_bad (va_Pc [.ref (a 0), .int (x0), .int (x1), .int (x), .int (pz), .ref (o0)] (PY D (tyG cI cJ) (GW a cI cJ p nu de eq am nx oA oD oE oP cR aR hR cl ad gw pr n ++ [(o0, eJ cJ 1 ou)]) sz)) (va_Qi (fun (rr : Int32) (u : Unit) => rr = 1) (fun (u : Unit) t => AW D (tyG cI cJ) (va_A (GW a cI cJ p nu de eq am nx oA oD oE oP cR aR hR cl ad gw pr n ++ [(o0, eJ cJ 1 ou)]) sz) (GW a cI cJ p nu de eq am nx oA oD oE oP cR aR hR cl ad gw pr n ++ [(o0, eJ cJ 1 ou)]) t) (va_A (GW a cI cJ p nu de eq am nx oA oD oE oP cR aR hR cl ad gw pr n ++ [(o0, eJ cJ 1 ou)]) sz)) 1 6 (va_A (GW a cI cJ p nu de eq am nx oA oD oE oP cR aR hR cl ad gw pr n ++ [(o0, eJ cJ 1 ou)]) sz) := by
  refine ofWC (cc := cL_acquire) (maxL := 7) (ret := (some .int)) (hh := [(0, 14, 17, 13), (0, 14, 21, 15)]) (by decide) rfl ?_
  intro pp ee ss mm ar bel mth cde s₁ B hml htab hv
  obtain ⟨rfl, ⟨hsz, hP, hK, hD0, hE, hV⟩, hDC⟩ := hv
  have hx := B.exec
  have hb := B.bytes
  have hr := B.returns
  have hts := atoms_spec (ws := wsL_acquire) B.pre
  have hown : ss.vm.findClass RL = some mm.cls := findClass_of_methodNamed B.named
  have hlocks := B.notSynchronized
  subst hsz
  have hD := hD0.self (sz := ss.heap.size)
  generalize hAe : va_A (GW a cI cJ p nu de eq am nx oA oD oE oP cR aR hR cl ad gw pr n ++ [(o0, eJ cJ 1 ou)]) ss.heap.size = A at hD hV ⊢
  have hA : ∀ q : Nat, ss.heap.size ≤ q → A q := fun q h => by rw [← hAe]; exact Or.inr h
  have hS : va_S A ss.heap ss.heap [] := va_S.rf
  have hl := lv_entry [.ref (a 0), .int (x0), .int (x1), .int (x), .int (pz), .ref (o0)] (n := 7) (Nat.le_of_ble_eq_true rfl)
  rw [lg_entry_eq]
  generalize (lg_sl [.ref (a 0), .int (x0), .int (x1), .int (x), .int (pz), .ref (o0)] ++ List.replicate (7 - (lg_sl [.ref (a 0), .int (x0), .int (x1), .int (x), .int (pz), .ref (o0)]).length) Slot.unset).toArray = ls at hl ⊢
  have hl : lv_has ls 7 [(0, .ref (a 0)), (1, .int (x0)), (2, .int (x1)), (3, .int (x)), (4, .int (pz)), (5, .ref (o0))] := hl
  refine lv_aload hx hb dL_acquire_0 (lv_at hl 5 rfl) ?_
  refine lv_iconst (v := 0) hx hb dL_acquire_2 (by decide) ?_
  refine lv_aload_n hx hb dL_acquire_3 rfl (lv_at hl 0 rfl) ?_
  refine lv_iload_n hx hb dL_acquire_4 rfl (lv_at hl 1 rfl) ?_
  refine lv_iload_n hx hb dL_acquire_5 rfl (lv_at hl 2 rfl) ?_
  refine lv_iload_n hx hb dL_acquire_6 rfl (lv_at hl 3 rfl) ?_
  refine lv_iload hx hb dL_acquire_7 (lv_at hl 4 rfl) ?_
  refine b_catch (wc := GW a cI cJ p nu de eq am nx oA oD oE oP cR aR hR cl ad gw pr n) (wr := [(o0, eJ cJ 1 ou)]) (S := Unit) (name := RIA) (E0 := RIA) hP hD hS hA (vx_runV (As := [.int (x0), .int (x1), .int (x), .int (pz)]) (rest := [.int (0), .ref (o0)]) ⟨hx, hb, hml, hown, hts⟩ (c_X3_acquire_bad ll hst D a cI cJ _ p nu de eq am nx oA oD oE oP cR aR hR cl ad gw pr n x0 x1 x pz hbad) (cwV 4 hts gL_acquire_X3_acquire rfl rfl rfl (by decide +kernel) ⟨Nat.le_of_ble_eq_true rfl, Nat.le_of_ble_eq_true rfl⟩) ⟨PY.blind, va_recv hK hP (ci := 3) (q0 := 0) rfl rfl, PY.go hP hK hD hE hV hDC hS hA⟩ rfl rfl hl.1 rfl (lv_room (Nat.le_of_ble_eq_true rfl)) dL_acquire_9 ⟨Nat.le_of_ble_eq_true rfl, Nat.le_of_ble_eq_true rfl⟩) (fun v st t h => by obtain ⟨⟨_, _, _, h9, _⟩, _⟩ := h; exact h9) hown [] ⟨0, 14, 17, 13⟩ [⟨0, 14, 21, 15⟩] htab (fun z hz => by cases hz) (by decide) (by decide) (hts (.classLink RL 13 RIA) (by decide +kernel)) (va_Nw.use rfl hE.2.1) (fun u q9 H locs hP hD hS => ?_)
  refine lv_astore (lv' := [(6, .ref (q9)), (0, .ref (a 0)), (1, .int (x0)), (2, .int (x1)), (3, .int (x)), (4, .int (pz)), (5, .ref (o0))]) hx hb dL_acquire_17 hl (by decide) rfl (fun ls hl => ?_)
  refine lv_iconst (v := 1) hx hb dL_acquire_19 (by decide) ?_
  exact W.iret hx hb hr (fun t ht hW => ⟨⟨_, u, rfl, rfl, (by rw [ht]; exact hP), va_K.moved hW.alike hK, hD⟩, hS.F ht⟩) hS.2.2 dL_acquire_20

abbrev rmL_held : Room := ({ frames := 3, cells := 0, slots := 0, locals := 65 } : Room)
set_option maxHeartbeats 4000000 in
set_option maxRecDepth 100000 in
theorem c_L_held (ll : Launch) (D : va_G) (a : Nat → Nat) (cI cJ : ClassId) (sz : Nat) (p : Nat → Int32) (nu de eq : Nat → Int64) (am nx oA oD oE oP cR aR hR cl ad gw pr : Nat → Int32) (n : Int32) (o0 : Nat) (ou : Nat → Int64) (o c : Nat) (ho : o < 6) (hc : c < 6) : Met ll yL_held wsL_held rmL_held (va_Pc [.ref (a 0), .int (nI (o)), .int (nI (c)), .ref (o0)] (PY D (tyG cI cJ) (GW a cI cJ p nu de eq am nx oA oD oE oP cR aR hR cl ad gw pr n ++ [(o0, eJ cJ 1 ou)]) sz)) (va_Qi (fun (rr : Int32) (u : Unit) => rr = 0) (fun (u : Unit) t => AW D (tyG cI cJ) (va_A (GW a cI cJ p nu de eq am nx oA oD oE oP cR aR hR cl ad gw pr n ++ [(o0, eJ cJ 1 ou)]) sz) (GW a cI cJ p nu de eq am nx oA oD oE oP cR aR hR cl ad gw pr n ++ [(o0, eJ cJ 1 (vp_updL ou 0 (p (6 * o + c)).toInt64))]) t) (va_A (GW a cI cJ p nu de eq am nx oA oD oE oP cR aR hR cl ad gw pr n ++ [(o0, eJ cJ 1 ou)]) sz)) 0 0 (va_A (GW a cI cJ p nu de eq am nx oA oD oE oP cR aR hR cl ad gw pr n ++ [(o0, eJ cJ 1 ou)]) sz) := by
  refine ofWC (cc := cL_held) (maxL := 5) (ret := (some .int)) (hh := [(0, 10, 13, 13)]) (by decide) rfl ?_
  intro pp ee ss mm ar bel mth cde s₁ B hml htab hv
  obtain ⟨rfl, ⟨hsz, hP, hK, hD0, hE, hV⟩, hDC⟩ := hv
  have hx := B.exec
  have hb := B.bytes
  have hr := B.returns
  have hts := atoms_spec (ws := wsL_held) B.pre
  have hown : ss.vm.findClass RL = some mm.cls := findClass_of_methodNamed B.named
  have hlocks := B.notSynchronized
  subst hsz
  have hD := hD0.self (sz := ss.heap.size)
  generalize hAe : va_A (GW a cI cJ p nu de eq am nx oA oD oE oP cR aR hR cl ad gw pr n ++ [(o0, eJ cJ 1 ou)]) ss.heap.size = A at hD hV ⊢
  have hA : ∀ q : Nat, ss.heap.size ≤ q → A q := fun q h => by rw [← hAe]; exact Or.inr h
  have hS : va_S A ss.heap ss.heap [] := va_S.rf
  have hl := lv_entry [.ref (a 0), .int (nI (o)), .int (nI (c)), .ref (o0)] (n := 5) (Nat.le_of_ble_eq_true rfl)
  rw [lg_entry_eq]
  generalize (lg_sl [.ref (a 0), .int (nI (o)), .int (nI (c)), .ref (o0)] ++ List.replicate (5 - (lg_sl [.ref (a 0), .int (nI (o)), .int (nI (c)), .ref (o0)]).length) Slot.unset).toArray = ls at hl ⊢
  have hl : lv_has ls 5 [(0, .ref (a 0)), (1, .int (nI (o))), (2, .int (nI (c))), (3, .ref (o0))] := hl
  refine lv_aload_n hx hb dL_held_0 rfl (lv_at hl 3 rfl) ?_
  refine lv_iconst (v := 0) hx hb dL_held_1 (by decide) ?_
  refine lv_aload_n hx hb dL_held_2 rfl (lv_at hl 0 rfl) ?_
  refine lv_iload_n hx hb dL_held_3 rfl (lv_at hl 1 rfl) ?_
  refine lv_iload_n hx hb dL_held_4 rfl (lv_at hl 2 rfl) ?_
  refine b_csi (v := p (6 * o + c)) (W.runV (As := [.int (nI (o)), .int (nI (c))]) (rest := [.int (0), .ref (o0)]) ⟨hx, hb, hml, hown, hts⟩ (c_X3_held ll D a cI cJ p nu de eq am nx oA oD oE oP cR aR hR cl ad gw pr n o c ho hc) (cwV 2 hts gL_held_X3_held rfl rfl rfl (by decide +kernel) ⟨Nat.le_of_ble_eq_true rfl, Nat.le_of_ble_eq_true rfl⟩) ⟨PR.blind, va_recv hK hP (ci := 3) (q0 := 0) rfl rfl, PR.goP (wr := [(o0, eJ cJ 1 ou)]) hP hK hE⟩ rfl rfl hl.1 rfl (lv_room (Nat.le_of_ble_eq_true rfl)) dL_held_5 ⟨Nat.le_of_ble_eq_true rfl, Nat.le_of_ble_eq_true rfl⟩) ?_
  refine lv_i2l (v := (p (6 * o + c)).toInt64) hx hb dL_held_8 rfl ?_
  refine b_last (w' := GW a cI cJ p nu de eq am nx oA oD oE oP cR aR hR cl ad gw pr n ++ [(o0, eJ cJ 1 (vp_updL ou 0 (p (6 * o + c)).toInt64))]) hx hb hK hP hD hS 21 1 (f := ou) rfl rfl (j := 0) (by omega) (by decide) rfl dL_held_9 (fun H locs hP hD hS => ?_)
  refine lv_goto (tgt := 17) hx hb dL_held_10 (by decide) ?_
  refine lv_iconst (v := 0) hx hb dL_held_17 (by decide) ?_
  exact W.iret hx hb hr (fun t ht hW => ⟨⟨_, (), rfl, rfl, (by rw [ht]; exact hP), va_K.moved hW.alike hK, hD⟩, hS.F ht⟩) hS.2.2 dL_held_18

abbrev rmL_held_bad : Room := ({ frames := 9, cells := 1, slots := 6, locals := 146 } : Room)
set_option maxHeartbeats 4000000 in
set_option maxRecDepth 100000 in
theorem c_L_held_bad (ll : Launch) (hst : ll.stackTraces = false) (D : va_G) (a : Nat → Nat) (cI cJ : ClassId) (sz : Nat) (p : Nat → Int32) (nu de eq : Nat → Int64) (am nx oA oD oE oP cR aR hR cl ad gw pr : Nat → Int32) (n : Int32) (o0 : Nat) (ou : Nat → Int64) (x0 x1 : Int32) (hbad : ¬ (inB x0 0 5 = true ∧ inB x1 0 5 = true)) : Met ll yL_held wsL_held rmL_held_bad (va_Pc [.ref (a 0), .int (x0), .int (x1), .ref (o0)] (PY D (tyG cI cJ) (GW a cI cJ p nu de eq am nx oA oD oE oP cR aR hR cl ad gw pr n ++ [(o0, eJ cJ 1 ou)]) sz)) (va_Qi (fun (rr : Int32) (u : Unit) => rr = 1) (fun (u : Unit) t => AW D (tyG cI cJ) (va_A (GW a cI cJ p nu de eq am nx oA oD oE oP cR aR hR cl ad gw pr n ++ [(o0, eJ cJ 1 ou)]) sz) (GW a cI cJ p nu de eq am nx oA oD oE oP cR aR hR cl ad gw pr n ++ [(o0, eJ cJ 1 ou)]) t) (va_A (GW a cI cJ p nu de eq am nx oA oD oE oP cR aR hR cl ad gw pr n ++ [(o0, eJ cJ 1 ou)]) sz)) 1 6 (va_A (GW a cI cJ p nu de eq am nx oA oD oE oP cR aR hR cl ad gw pr n ++ [(o0, eJ cJ 1 ou)]) sz) := by
  refine ofWC (cc := cL_held) (maxL := 5) (ret := (some .int)) (hh := [(0, 10, 13, 13)]) (by decide) rfl ?_
  intro pp ee ss mm ar bel mth cde s₁ B hml htab hv
  obtain ⟨rfl, ⟨hsz, hP, hK, hD0, hE, hV⟩, hDC⟩ := hv
  have hx := B.exec
  have hb := B.bytes
  have hr := B.returns
  have hts := atoms_spec (ws := wsL_held) B.pre
  have hown : ss.vm.findClass RL = some mm.cls := findClass_of_methodNamed B.named
  have hlocks := B.notSynchronized
  subst hsz
  have hD := hD0.self (sz := ss.heap.size)
  generalize hAe : va_A (GW a cI cJ p nu de eq am nx oA oD oE oP cR aR hR cl ad gw pr n ++ [(o0, eJ cJ 1 ou)]) ss.heap.size = A at hD hV ⊢
  have hA : ∀ q : Nat, ss.heap.size ≤ q → A q := fun q h => by rw [← hAe]; exact Or.inr h
  have hS : va_S A ss.heap ss.heap [] := va_S.rf
  have hl := lv_entry [.ref (a 0), .int (x0), .int (x1), .ref (o0)] (n := 5) (Nat.le_of_ble_eq_true rfl)
  rw [lg_entry_eq]
  generalize (lg_sl [.ref (a 0), .int (x0), .int (x1), .ref (o0)] ++ List.replicate (5 - (lg_sl [.ref (a 0), .int (x0), .int (x1), .ref (o0)]).length) Slot.unset).toArray = ls at hl ⊢
  have hl : lv_has ls 5 [(0, .ref (a 0)), (1, .int (x0)), (2, .int (x1)), (3, .ref (o0))] := hl
  refine lv_aload_n hx hb dL_held_0 rfl (lv_at hl 3 rfl) ?_
  refine lv_iconst (v := 0) hx hb dL_held_1 (by decide) ?_
  refine lv_aload_n hx hb dL_held_2 rfl (lv_at hl 0 rfl) ?_
  refine lv_iload_n hx hb dL_held_3 rfl (lv_at hl 1 rfl) ?_
  refine lv_iload_n hx hb dL_held_4 rfl (lv_at hl 2 rfl) ?_
  refine b_catch (wc := GW a cI cJ p nu de eq am nx oA oD oE oP cR aR hR cl ad gw pr n) (wr := [(o0, eJ cJ 1 ou)]) (S := Unit) (name := RIA) (E0 := RIA) hP hD hS hA (vx_runV (As := [.int (x0), .int (x1)]) (rest := [.int (0), .ref (o0)]) ⟨hx, hb, hml, hown, hts⟩ (c_X3_held_bad ll hst D a cI cJ _ p nu de eq am nx oA oD oE oP cR aR hR cl ad gw pr n x0 x1 hbad) (cwV 2 hts gL_held_X3_held rfl rfl rfl (by decide +kernel) ⟨Nat.le_of_ble_eq_true rfl, Nat.le_of_ble_eq_true rfl⟩) ⟨PY.blind, va_recv hK hP (ci := 3) (q0 := 0) rfl rfl, PY.go hP hK hD hE hV hDC hS hA⟩ rfl rfl hl.1 rfl (lv_room (Nat.le_of_ble_eq_true rfl)) dL_held_5 ⟨Nat.le_of_ble_eq_true rfl, Nat.le_of_ble_eq_true rfl⟩) (fun v st t h => by obtain ⟨⟨_, _, _, h9, _⟩, _⟩ := h; exact h9) hown [] ⟨0, 10, 13, 13⟩ [] htab (fun z hz => by cases hz) (by decide) (by decide) (hts (.classLink RL 13 RIA) (by decide +kernel)) (va_Nw.use rfl hE.2.1) (fun u q9 H locs hP hD hS => ?_)
  refine lv_astore (lv' := [(4, .ref (q9)), (0, .ref (a 0)), (1, .int (x0)), (2, .int (x1)), (3, .ref (o0))]) hx hb dL_held_13 hl (by decide) rfl (fun ls hl => ?_)
  refine lv_iconst (v := 1) hx hb dL_held_15 (by decide) ?_
  exact W.iret hx hb hr (fun t ht hW => ⟨⟨_, u, rfl, rfl, (by rw [ht]; exact hP), va_K.moved hW.alike hK, hD⟩, hS.F ht⟩) hS.2.2 dL_held_16

abbrev rmL_shareNumerator : Room := ({ frames := 3, cells := 0, slots := 0, locals := 63 } : Room)
set_option maxHeartbeats 4000000 in
set_option maxRecDepth 100000 in
theorem c_L_shareNumerator (ll : Launch) (D : va_G) (a : Nat → Nat) (cI cJ : ClassId) (sz : Nat) (p : Nat → Int32) (nu de eq : Nat → Int64) (am nx oA oD oE oP cR aR hR cl ad gw pr : Nat → Int32) (n : Int32) (o0 : Nat) (ou : Nat → Int64) (c : Nat) (hc : c < 6) : Met ll yL_shareNumerator wsL_shareNumerator rmL_shareNumerator (va_Pc [.ref (a 0), .int (nI (c)), .ref (o0)] (PY D (tyG cI cJ) (GW a cI cJ p nu de eq am nx oA oD oE oP cR aR hR cl ad gw pr n ++ [(o0, eJ cJ 1 ou)]) sz)) (va_Qi (fun (rr : Int32) (u : Unit) => rr = 0) (fun (u : Unit) t => AW D (tyG cI cJ) (va_A (GW a cI cJ p nu de eq am nx oA oD oE oP cR aR hR cl ad gw pr n ++ [(o0, eJ cJ 1 ou)]) sz) (GW a cI cJ p nu de eq am nx oA oD oE oP cR aR hR cl ad gw pr n ++ [(o0, eJ cJ 1 (vp_updL ou 0 (nu c)))]) t) (va_A (GW a cI cJ p nu de eq am nx oA oD oE oP cR aR hR cl ad gw pr n ++ [(o0, eJ cJ 1 ou)]) sz)) 0 0 (va_A (GW a cI cJ p nu de eq am nx oA oD oE oP cR aR hR cl ad gw pr n ++ [(o0, eJ cJ 1 ou)]) sz) := by
  refine ofWC (cc := cL_shareNumerator) (maxL := 4) (ret := (some .int)) (hh := [(0, 8, 11, 13)]) (by decide) rfl ?_
  intro pp ee ss mm ar bel mth cde s₁ B hml htab hv
  obtain ⟨rfl, ⟨hsz, hP, hK, hD0, hE, hV⟩, hDC⟩ := hv
  have hx := B.exec
  have hb := B.bytes
  have hr := B.returns
  have hts := atoms_spec (ws := wsL_shareNumerator) B.pre
  have hown : ss.vm.findClass RL = some mm.cls := findClass_of_methodNamed B.named
  have hlocks := B.notSynchronized
  subst hsz
  have hD := hD0.self (sz := ss.heap.size)
  generalize hAe : va_A (GW a cI cJ p nu de eq am nx oA oD oE oP cR aR hR cl ad gw pr n ++ [(o0, eJ cJ 1 ou)]) ss.heap.size = A at hD hV ⊢
  have hA : ∀ q : Nat, ss.heap.size ≤ q → A q := fun q h => by rw [← hAe]; exact Or.inr h
  have hS : va_S A ss.heap ss.heap [] := va_S.rf
  have hl := lv_entry [.ref (a 0), .int (nI (c)), .ref (o0)] (n := 4) (Nat.le_of_ble_eq_true rfl)
  rw [lg_entry_eq]
  generalize (lg_sl [.ref (a 0), .int (nI (c)), .ref (o0)] ++ List.replicate (4 - (lg_sl [.ref (a 0), .int (nI (c)), .ref (o0)]).length) Slot.unset).toArray = ls at hl ⊢
  have hl : lv_has ls 4 [(0, .ref (a 0)), (1, .int (nI (c))), (2, .ref (o0))] := hl
  refine lv_aload_n hx hb dL_shareNumerator_0 rfl (lv_at hl 2 rfl) ?_
  refine lv_iconst (v := 0) hx hb dL_shareNumerator_1 (by decide) ?_
  refine lv_aload_n hx hb dL_shareNumerator_2 rfl (lv_at hl 0 rfl) ?_
  refine lv_iload_n hx hb dL_shareNumerator_3 rfl (lv_at hl 1 rfl) ?_
  refine b_csl (v := nu c) (W.runV (As := [.int (nI (c))]) (rest := [.int (0), .ref (o0)]) ⟨hx, hb, hml, hown, hts⟩ (c_X3_shareNumerator ll D a cI cJ p nu de eq am nx oA oD oE oP cR aR hR cl ad gw pr n c hc) (cwV 1 hts gL_shareNumerator_X3_shareNumerator rfl rfl rfl (by decide +kernel) ⟨Nat.le_of_ble_eq_true rfl, Nat.le_of_ble_eq_true rfl⟩) ⟨PR.blind, va_recv hK hP (ci := 3) (q0 := 0) rfl rfl, PR.goP (wr := [(o0, eJ cJ 1 ou)]) hP hK hE⟩ rfl rfl hl.1 rfl (lv_room (Nat.le_of_ble_eq_true rfl)) dL_shareNumerator_4 ⟨Nat.le_of_ble_eq_true rfl, Nat.le_of_ble_eq_true rfl⟩) ?_
  refine b_last (w' := GW a cI cJ p nu de eq am nx oA oD oE oP cR aR hR cl ad gw pr n ++ [(o0, eJ cJ 1 (vp_updL ou 0 (nu c)))]) hx hb hK hP hD hS 21 1 (f := ou) rfl rfl (j := 0) (by omega) (by decide) rfl dL_shareNumerator_7 (fun H locs hP hD hS => ?_)
  refine lv_goto (tgt := 14) hx hb dL_shareNumerator_8 (by decide) ?_
  refine lv_iconst (v := 0) hx hb dL_shareNumerator_14 (by decide) ?_
  exact W.iret hx hb hr (fun t ht hW => ⟨⟨_, (), rfl, rfl, (by rw [ht]; exact hP), va_K.moved hW.alike hK, hD⟩, hS.F ht⟩) hS.2.2 dL_shareNumerator_15

abbrev rmL_shareNumerator_bad : Room := ({ frames := 9, cells := 1, slots := 6, locals := 145 } : Room)
set_option maxHeartbeats 4000000 in
set_option maxRecDepth 100000 in
theorem c_L_shareNumerator_bad (ll : Launch) (hst : ll.stackTraces = false) (D : va_G) (a : Nat → Nat) (cI cJ : ClassId) (sz : Nat) (p : Nat → Int32) (nu de eq : Nat → Int64) (am nx oA oD oE oP cR aR hR cl ad gw pr : Nat → Int32) (n : Int32) (o0 : Nat) (ou : Nat → Int64) (x0 : Int32) (hbad : ¬ inB x0 0 5 = true) : Met ll yL_shareNumerator wsL_shareNumerator rmL_shareNumerator_bad (va_Pc [.ref (a 0), .int (x0), .ref (o0)] (PY D (tyG cI cJ) (GW a cI cJ p nu de eq am nx oA oD oE oP cR aR hR cl ad gw pr n ++ [(o0, eJ cJ 1 ou)]) sz)) (va_Qi (fun (rr : Int32) (u : Unit) => rr = 1) (fun (u : Unit) t => AW D (tyG cI cJ) (va_A (GW a cI cJ p nu de eq am nx oA oD oE oP cR aR hR cl ad gw pr n ++ [(o0, eJ cJ 1 ou)]) sz) (GW a cI cJ p nu de eq am nx oA oD oE oP cR aR hR cl ad gw pr n ++ [(o0, eJ cJ 1 ou)]) t) (va_A (GW a cI cJ p nu de eq am nx oA oD oE oP cR aR hR cl ad gw pr n ++ [(o0, eJ cJ 1 ou)]) sz)) 1 6 (va_A (GW a cI cJ p nu de eq am nx oA oD oE oP cR aR hR cl ad gw pr n ++ [(o0, eJ cJ 1 ou)]) sz) := by
  refine ofWC (cc := cL_shareNumerator) (maxL := 4) (ret := (some .int)) (hh := [(0, 8, 11, 13)]) (by decide) rfl ?_
  intro pp ee ss mm ar bel mth cde s₁ B hml htab hv
  obtain ⟨rfl, ⟨hsz, hP, hK, hD0, hE, hV⟩, hDC⟩ := hv
  have hx := B.exec
  have hb := B.bytes
  have hr := B.returns
  have hts := atoms_spec (ws := wsL_shareNumerator) B.pre
  have hown : ss.vm.findClass RL = some mm.cls := findClass_of_methodNamed B.named
  have hlocks := B.notSynchronized
  subst hsz
  have hD := hD0.self (sz := ss.heap.size)
  generalize hAe : va_A (GW a cI cJ p nu de eq am nx oA oD oE oP cR aR hR cl ad gw pr n ++ [(o0, eJ cJ 1 ou)]) ss.heap.size = A at hD hV ⊢
  have hA : ∀ q : Nat, ss.heap.size ≤ q → A q := fun q h => by rw [← hAe]; exact Or.inr h
  have hS : va_S A ss.heap ss.heap [] := va_S.rf
  have hl := lv_entry [.ref (a 0), .int (x0), .ref (o0)] (n := 4) (Nat.le_of_ble_eq_true rfl)
  rw [lg_entry_eq]
  generalize (lg_sl [.ref (a 0), .int (x0), .ref (o0)] ++ List.replicate (4 - (lg_sl [.ref (a 0), .int (x0), .ref (o0)]).length) Slot.unset).toArray = ls at hl ⊢
  have hl : lv_has ls 4 [(0, .ref (a 0)), (1, .int (x0)), (2, .ref (o0))] := hl
  refine lv_aload_n hx hb dL_shareNumerator_0 rfl (lv_at hl 2 rfl) ?_
  refine lv_iconst (v := 0) hx hb dL_shareNumerator_1 (by decide) ?_
  refine lv_aload_n hx hb dL_shareNumerator_2 rfl (lv_at hl 0 rfl) ?_
  refine lv_iload_n hx hb dL_shareNumerator_3 rfl (lv_at hl 1 rfl) ?_
  refine b_catch (wc := GW a cI cJ p nu de eq am nx oA oD oE oP cR aR hR cl ad gw pr n) (wr := [(o0, eJ cJ 1 ou)]) (S := Unit) (name := RIA) (E0 := RIA) hP hD hS hA (vx_runV (As := [.int (x0)]) (rest := [.int (0), .ref (o0)]) ⟨hx, hb, hml, hown, hts⟩ (c_X3_shareNumerator_bad ll hst D a cI cJ _ p nu de eq am nx oA oD oE oP cR aR hR cl ad gw pr n x0 hbad) (cwV 1 hts gL_shareNumerator_X3_shareNumerator rfl rfl rfl (by decide +kernel) ⟨Nat.le_of_ble_eq_true rfl, Nat.le_of_ble_eq_true rfl⟩) ⟨PY.blind, va_recv hK hP (ci := 3) (q0 := 0) rfl rfl, PY.go hP hK hD hE hV hDC hS hA⟩ rfl rfl hl.1 rfl (lv_room (Nat.le_of_ble_eq_true rfl)) dL_shareNumerator_4 ⟨Nat.le_of_ble_eq_true rfl, Nat.le_of_ble_eq_true rfl⟩) (fun v st t h => by obtain ⟨⟨_, _, _, h9, _⟩, _⟩ := h; exact h9) hown [] ⟨0, 8, 11, 13⟩ [] htab (fun z hz => by cases hz) (by decide) (by decide) (hts (.classLink RL 13 RIA) (by decide +kernel)) (va_Nw.use rfl hE.2.1) (fun u q9 H locs hP hD hS => ?_)
  refine lv_astore_n (lv' := [(3, .ref (q9)), (0, .ref (a 0)), (1, .int (x0)), (2, .ref (o0))]) hx hb dL_shareNumerator_11 rfl hl (by decide) rfl (fun ls hl => ?_)
  refine lv_iconst (v := 1) hx hb dL_shareNumerator_12 (by decide) ?_
  exact W.iret hx hb hr (fun t ht hW => ⟨⟨_, u, rfl, rfl, (by rw [ht]; exact hP), va_K.moved hW.alike hK, hD⟩, hS.F ht⟩) hS.2.2 dL_shareNumerator_13

abbrev rmL_shareDenominator : Room := ({ frames := 3, cells := 0, slots := 0, locals := 63 } : Room)
set_option maxHeartbeats 4000000 in
set_option maxRecDepth 100000 in
theorem c_L_shareDenominator (ll : Launch) (D : va_G) (a : Nat → Nat) (cI cJ : ClassId) (sz : Nat) (p : Nat → Int32) (nu de eq : Nat → Int64) (am nx oA oD oE oP cR aR hR cl ad gw pr : Nat → Int32) (n : Int32) (o0 : Nat) (ou : Nat → Int64) (c : Nat) (hc : c < 6) : Met ll yL_shareDenominator wsL_shareDenominator rmL_shareDenominator (va_Pc [.ref (a 0), .int (nI (c)), .ref (o0)] (PY D (tyG cI cJ) (GW a cI cJ p nu de eq am nx oA oD oE oP cR aR hR cl ad gw pr n ++ [(o0, eJ cJ 1 ou)]) sz)) (va_Qi (fun (rr : Int32) (u : Unit) => rr = 0) (fun (u : Unit) t => AW D (tyG cI cJ) (va_A (GW a cI cJ p nu de eq am nx oA oD oE oP cR aR hR cl ad gw pr n ++ [(o0, eJ cJ 1 ou)]) sz) (GW a cI cJ p nu de eq am nx oA oD oE oP cR aR hR cl ad gw pr n ++ [(o0, eJ cJ 1 (vp_updL ou 0 (de c)))]) t) (va_A (GW a cI cJ p nu de eq am nx oA oD oE oP cR aR hR cl ad gw pr n ++ [(o0, eJ cJ 1 ou)]) sz)) 0 0 (va_A (GW a cI cJ p nu de eq am nx oA oD oE oP cR aR hR cl ad gw pr n ++ [(o0, eJ cJ 1 ou)]) sz) := by
  refine ofWC (cc := cL_shareDenominator) (maxL := 4) (ret := (some .int)) (hh := [(0, 8, 11, 13)]) (by decide) rfl ?_
  intro pp ee ss mm ar bel mth cde s₁ B hml htab hv
  obtain ⟨rfl, ⟨hsz, hP, hK, hD0, hE, hV⟩, hDC⟩ := hv
  have hx := B.exec
  have hb := B.bytes
  have hr := B.returns
  have hts := atoms_spec (ws := wsL_shareDenominator) B.pre
  have hown : ss.vm.findClass RL = some mm.cls := findClass_of_methodNamed B.named
  have hlocks := B.notSynchronized
  subst hsz
  have hD := hD0.self (sz := ss.heap.size)
  generalize hAe : va_A (GW a cI cJ p nu de eq am nx oA oD oE oP cR aR hR cl ad gw pr n ++ [(o0, eJ cJ 1 ou)]) ss.heap.size = A at hD hV ⊢
  have hA : ∀ q : Nat, ss.heap.size ≤ q → A q := fun q h => by rw [← hAe]; exact Or.inr h
  have hS : va_S A ss.heap ss.heap [] := va_S.rf
  have hl := lv_entry [.ref (a 0), .int (nI (c)), .ref (o0)] (n := 4) (Nat.le_of_ble_eq_true rfl)
  rw [lg_entry_eq]
  generalize (lg_sl [.ref (a 0), .int (nI (c)), .ref (o0)] ++ List.replicate (4 - (lg_sl [.ref (a 0), .int (nI (c)), .ref (o0)]).length) Slot.unset).toArray = ls at hl ⊢
  have hl : lv_has ls 4 [(0, .ref (a 0)), (1, .int (nI (c))), (2, .ref (o0))] := hl
  refine lv_aload_n hx hb dL_shareDenominator_0 rfl (lv_at hl 2 rfl) ?_
  refine lv_iconst (v := 0) hx hb dL_shareDenominator_1 (by decide) ?_
  refine lv_aload_n hx hb dL_shareDenominator_2 rfl (lv_at hl 0 rfl) ?_
  refine lv_iload_n hx hb dL_shareDenominator_3 rfl (lv_at hl 1 rfl) ?_
  refine b_csl (v := de c) (W.runV (As := [.int (nI (c))]) (rest := [.int (0), .ref (o0)]) ⟨hx, hb, hml, hown, hts⟩ (c_X3_shareDenominator ll D a cI cJ p nu de eq am nx oA oD oE oP cR aR hR cl ad gw pr n c hc) (cwV 1 hts gL_shareDenominator_X3_shareDenominator rfl rfl rfl (by decide +kernel) ⟨Nat.le_of_ble_eq_true rfl, Nat.le_of_ble_eq_true rfl⟩) ⟨PR.blind, va_recv hK hP (ci := 3) (q0 := 0) rfl rfl, PR.goP (wr := [(o0, eJ cJ 1 ou)]) hP hK hE⟩ rfl rfl hl.1 rfl (lv_room (Nat.le_of_ble_eq_true rfl)) dL_shareDenominator_4 ⟨Nat.le_of_ble_eq_true rfl, Nat.le_of_ble_eq_true rfl⟩) ?_
  refine b_last (w' := GW a cI cJ p nu de eq am nx oA oD oE oP cR aR hR cl ad gw pr n ++ [(o0, eJ cJ 1 (vp_updL ou 0 (de c)))]) hx hb hK hP hD hS 21 1 (f := ou) rfl rfl (j := 0) (by omega) (by decide) rfl dL_shareDenominator_7 (fun H locs hP hD hS => ?_)
  refine lv_goto (tgt := 14) hx hb dL_shareDenominator_8 (by decide) ?_
  refine lv_iconst (v := 0) hx hb dL_shareDenominator_14 (by decide) ?_
  exact W.iret hx hb hr (fun t ht hW => ⟨⟨_, (), rfl, rfl, (by rw [ht]; exact hP), va_K.moved hW.alike hK, hD⟩, hS.F ht⟩) hS.2.2 dL_shareDenominator_15

abbrev rmL_shareDenominator_bad : Room := ({ frames := 9, cells := 1, slots := 6, locals := 145 } : Room)
set_option maxHeartbeats 4000000 in
set_option maxRecDepth 100000 in
theorem c_L_shareDenominator_bad (ll : Launch) (hst : ll.stackTraces = false) (D : va_G) (a : Nat → Nat) (cI cJ : ClassId) (sz : Nat) (p : Nat → Int32) (nu de eq : Nat → Int64) (am nx oA oD oE oP cR aR hR cl ad gw pr : Nat → Int32) (n : Int32) (o0 : Nat) (ou : Nat → Int64) (x0 : Int32) (hbad : ¬ inB x0 0 5 = true) : Met ll yL_shareDenominator wsL_shareDenominator rmL_shareDenominator_bad (va_Pc [.ref (a 0), .int (x0), .ref (o0)] (PY D (tyG cI cJ) (GW a cI cJ p nu de eq am nx oA oD oE oP cR aR hR cl ad gw pr n ++ [(o0, eJ cJ 1 ou)]) sz)) (va_Qi (fun (rr : Int32) (u : Unit) => rr = 1) (fun (u : Unit) t => AW D (tyG cI cJ) (va_A (GW a cI cJ p nu de eq am nx oA oD oE oP cR aR hR cl ad gw pr n ++ [(o0, eJ cJ 1 ou)]) sz) (GW a cI cJ p nu de eq am nx oA oD oE oP cR aR hR cl ad gw pr n ++ [(o0, eJ cJ 1 ou)]) t) (va_A (GW a cI cJ p nu de eq am nx oA oD oE oP cR aR hR cl ad gw pr n ++ [(o0, eJ cJ 1 ou)]) sz)) 1 6 (va_A (GW a cI cJ p nu de eq am nx oA oD oE oP cR aR hR cl ad gw pr n ++ [(o0, eJ cJ 1 ou)]) sz) := by
  refine ofWC (cc := cL_shareDenominator) (maxL := 4) (ret := (some .int)) (hh := [(0, 8, 11, 13)]) (by decide) rfl ?_
  intro pp ee ss mm ar bel mth cde s₁ B hml htab hv
  obtain ⟨rfl, ⟨hsz, hP, hK, hD0, hE, hV⟩, hDC⟩ := hv
  have hx := B.exec
  have hb := B.bytes
  have hr := B.returns
  have hts := atoms_spec (ws := wsL_shareDenominator) B.pre
  have hown : ss.vm.findClass RL = some mm.cls := findClass_of_methodNamed B.named
  have hlocks := B.notSynchronized
  subst hsz
  have hD := hD0.self (sz := ss.heap.size)
  generalize hAe : va_A (GW a cI cJ p nu de eq am nx oA oD oE oP cR aR hR cl ad gw pr n ++ [(o0, eJ cJ 1 ou)]) ss.heap.size = A at hD hV ⊢
  have hA : ∀ q : Nat, ss.heap.size ≤ q → A q := fun q h => by rw [← hAe]; exact Or.inr h
  have hS : va_S A ss.heap ss.heap [] := va_S.rf
  have hl := lv_entry [.ref (a 0), .int (x0), .ref (o0)] (n := 4) (Nat.le_of_ble_eq_true rfl)
  rw [lg_entry_eq]
  generalize (lg_sl [.ref (a 0), .int (x0), .ref (o0)] ++ List.replicate (4 - (lg_sl [.ref (a 0), .int (x0), .ref (o0)]).length) Slot.unset).toArray = ls at hl ⊢
  have hl : lv_has ls 4 [(0, .ref (a 0)), (1, .int (x0)), (2, .ref (o0))] := hl
  refine lv_aload_n hx hb dL_shareDenominator_0 rfl (lv_at hl 2 rfl) ?_
  refine lv_iconst (v := 0) hx hb dL_shareDenominator_1 (by decide) ?_
  refine lv_aload_n hx hb dL_shareDenominator_2 rfl (lv_at hl 0 rfl) ?_
  refine lv_iload_n hx hb dL_shareDenominator_3 rfl (lv_at hl 1 rfl) ?_
  refine b_catch (wc := GW a cI cJ p nu de eq am nx oA oD oE oP cR aR hR cl ad gw pr n) (wr := [(o0, eJ cJ 1 ou)]) (S := Unit) (name := RIA) (E0 := RIA) hP hD hS hA (vx_runV (As := [.int (x0)]) (rest := [.int (0), .ref (o0)]) ⟨hx, hb, hml, hown, hts⟩ (c_X3_shareDenominator_bad ll hst D a cI cJ _ p nu de eq am nx oA oD oE oP cR aR hR cl ad gw pr n x0 hbad) (cwV 1 hts gL_shareDenominator_X3_shareDenominator rfl rfl rfl (by decide +kernel) ⟨Nat.le_of_ble_eq_true rfl, Nat.le_of_ble_eq_true rfl⟩) ⟨PY.blind, va_recv hK hP (ci := 3) (q0 := 0) rfl rfl, PY.go hP hK hD hE hV hDC hS hA⟩ rfl rfl hl.1 rfl (lv_room (Nat.le_of_ble_eq_true rfl)) dL_shareDenominator_4 ⟨Nat.le_of_ble_eq_true rfl, Nat.le_of_ble_eq_true rfl⟩) (fun v st t h => by obtain ⟨⟨_, _, _, h9, _⟩, _⟩ := h; exact h9) hown [] ⟨0, 8, 11, 13⟩ [] htab (fun z hz => by cases hz) (by decide) (by decide) (hts (.classLink RL 13 RIA) (by decide +kernel)) (va_Nw.use rfl hE.2.1) (fun u q9 H locs hP hD hS => ?_)
  refine lv_astore_n (lv' := [(3, .ref (q9)), (0, .ref (a 0)), (1, .int (x0)), (2, .ref (o0))]) hx hb dL_shareDenominator_11 rfl hl (by decide) rfl (fun ls hl => ?_)
  refine lv_iconst (v := 1) hx hb dL_shareDenominator_12 (by decide) ?_
  exact W.iret hx hb hr (fun t ht hW => ⟨⟨_, u, rfl, rfl, (by rw [ht]; exact hP), va_K.moved hW.alike hK, hD⟩, hS.F ht⟩) hS.2.2 dL_shareDenominator_13

abbrev rmL_shareByRounds : Room := ({ frames := 4, cells := 0, slots := 0, locals := 89 } : Room)
set_option maxHeartbeats 4000000 in
set_option maxRecDepth 100000 in
theorem c_L_shareByRounds (ll : Launch) (D : va_G) (a : Nat → Nat) (cI cJ : ClassId) (sz : Nat) (p : Nat → Int32) (nu de eq : Nat → Int64) (am nx oA oD oE oP cR aR hR cl ad gw pr : Nat → Int32) (n : Int32) (o0 : Nat) (ou : Nat → Int64) (c nr : Nat) (hc : c < 6) (hn : nr ≤ 200) (hqn : inB (nI nr) 0 200 = true) : Met ll yL_shareByRounds wsL_shareByRounds rmL_shareByRounds (va_Pc [.ref (a 0), .int (nI (c)), .int (nI (nr)), .ref (o0)] (PY D (tyG cI cJ) (GW a cI cJ p nu de eq am nx oA oD oE oP cR aR hR cl ad gw pr n ++ [(o0, eJ cJ 1 ou)]) sz)) (va_Qi (fun (rr : Int32) (u : Unit) => rr = 0) (fun (u : Unit) t => AW D (tyG cI cJ) (va_A (GW a cI cJ p nu de eq am nx oA oD oE oP cR aR hR cl ad gw pr n ++ [(o0, eJ cJ 1 ou)]) sz) (GW a cI cJ p nu de eq ((mr p am nx nr).1) ((mr p am nx nr).2) oA oD oE oP cR aR hR cl ad gw pr n ++ [(o0, eJ cJ 1 (vp_updL ou 0 ((mr p am nx nr).1 c).toInt64))]) t) (va_A (GW a cI cJ p nu de eq am nx oA oD oE oP cR aR hR cl ad gw pr n ++ [(o0, eJ cJ 1 ou)]) sz)) 0 0 (va_A (GW a cI cJ p nu de eq am nx oA oD oE oP cR aR hR cl ad gw pr n ++ [(o0, eJ cJ 1 ou)]) sz) := by
  refine ofWC (cc := cL_shareByRounds) (maxL := 5) (ret := (some .int)) (hh := [(0, 10, 13, 13)]) (by decide) rfl ?_
  intro pp ee ss mm ar bel mth cde s₁ B hml htab hv
  obtain ⟨rfl, ⟨hsz, hP, hK, hD0, hE, hV⟩, hDC⟩ := hv
  have hx := B.exec
  have hb := B.bytes
  have hr := B.returns
  have hts := atoms_spec (ws := wsL_shareByRounds) B.pre
  have hown : ss.vm.findClass RL = some mm.cls := findClass_of_methodNamed B.named
  have hlocks := B.notSynchronized
  subst hsz
  have hD := hD0.self (sz := ss.heap.size)
  generalize hAe : va_A (GW a cI cJ p nu de eq am nx oA oD oE oP cR aR hR cl ad gw pr n ++ [(o0, eJ cJ 1 ou)]) ss.heap.size = A at hD hV ⊢
  have hA : ∀ q : Nat, ss.heap.size ≤ q → A q := fun q h => by rw [← hAe]; exact Or.inr h
  have hS : va_S A ss.heap ss.heap [] := va_S.rf
  have hl := lv_entry [.ref (a 0), .int (nI (c)), .int (nI (nr)), .ref (o0)] (n := 5) (Nat.le_of_ble_eq_true rfl)
  rw [lg_entry_eq]
  generalize (lg_sl [.ref (a 0), .int (nI (c)), .int (nI (nr)), .ref (o0)] ++ List.replicate (5 - (lg_sl [.ref (a 0), .int (nI (c)), .int (nI (nr)), .ref (o0)]).length) Slot.unset).toArray = ls at hl ⊢
  have hl : lv_has ls 5 [(0, .ref (a 0)), (1, .int (nI (c))), (2, .int (nI (nr))), (3, .ref (o0))] := hl
  refine lv_aload_n hx hb dL_shareByRounds_0 rfl (lv_at hl 3 rfl) ?_
  refine lv_iconst (v := 0) hx hb dL_shareByRounds_1 (by decide) ?_
  refine lv_aload_n hx hb dL_shareByRounds_2 rfl (lv_at hl 0 rfl) ?_
  refine lv_iload_n hx hb dL_shareByRounds_3 rfl (lv_at hl 1 rfl) ?_
  refine lv_iload_n hx hb dL_shareByRounds_4 rfl (lv_at hl 2 rfl) ?_
  refine b_calliP (S := Unit) (wc := GW a cI cJ p nu de eq am nx oA oD oE oP cR aR hR cl ad gw pr n) (wr := [(o0, eJ cJ 1 ou)]) (w' := fun u => GW a cI cJ p nu de eq ((mr p am nx nr).1) ((mr p am nx nr).2) oA oD oE oP cR aR hR cl ad gw pr n) hP hD hS hA (va_runV (As := [.int (nI (c)), .int (nI (nr))]) (rest := [.int (0), .ref (o0)]) ⟨hx, hb, hml, hown, hts⟩ (c_X3_shareByRounds ll D a cI cJ _ p nu de eq am nx oA oD oE oP cR aR hR cl ad gw pr n c nr hc hn hqn) (cwV 2 hts gL_shareByRounds_X3_shareByRounds rfl rfl rfl (by decide +kernel) ⟨Nat.le_of_ble_eq_true rfl, Nat.le_of_ble_eq_true rfl⟩) ⟨PW.blind, va_recv hK hP (ci := 3) (q0 := 0) rfl rfl, PW.goP (wr := [(o0, eJ cJ 1 ou)]) hP hK hD hE⟩ rfl rfl hl.1 rfl (lv_room (Nat.le_of_ble_eq_true rfl)) dL_shareByRounds_5 ⟨Nat.le_of_ble_eq_true rfl, Nat.le_of_ble_eq_true rfl⟩) (fun r9 u H locs hu hP hD hS => ?_)
  obtain rfl : r9 = (mr p am nx nr).1 c := hu
  refine lv_i2l (v := ((mr p am nx nr).1 c).toInt64) hx hb dL_shareByRounds_8 rfl ?_
  refine b_last (w' := GW a cI cJ p nu de eq ((mr p am nx nr).1) ((mr p am nx nr).2) oA oD oE oP cR aR hR cl ad gw pr n ++ [(o0, eJ cJ 1 (vp_updL ou 0 ((mr p am nx nr).1 c).toInt64))]) hx hb hK hP hD hS 21 1 (f := ou) rfl rfl (j := 0) (by omega) (by decide) rfl dL_shareByRounds_9 (fun H locs hP hD hS => ?_)
  refine lv_goto (tgt := 17) hx hb dL_shareByRounds_10 (by decide) ?_
  refine lv_iconst (v := 0) hx hb dL_shareByRounds_17 (by decide) ?_
  exact W.iret hx hb hr (fun t ht hW => ⟨⟨_, u, rfl, rfl, (by rw [ht]; exact hP), va_K.moved hW.alike hK, hD⟩, hS.F ht⟩) hS.2.2 dL_shareByRounds_18

abbrev rmL_shareByRounds_bad : Room := ({ frames := 9, cells := 1, slots := 6, locals := 146 } : Room)
set_option maxHeartbeats 4000000 in
set_option maxRecDepth 100000 in
theorem c_L_shareByRounds_bad (ll : Launch) (hst : ll.stackTraces = false) (D : va_G) (a : Nat → Nat) (cI cJ : ClassId) (sz : Nat) (p : Nat → Int32) (nu de eq : Nat → Int64) (am nx oA oD oE oP cR aR hR cl ad gw pr : Nat → Int32) (n : Int32) (o0 : Nat) (ou : Nat → Int64) (x0 x1 : Int32) (hbad : ¬ (inB x0 0 5 = true ∧ inB x1 0 200 = true)) : Met ll yL_shareByRounds wsL_shareByRounds rmL_shareByRounds_bad (va_Pc [.ref (a 0), .int (x0), .int (x1), .ref (o0)] (PY D (tyG cI cJ) (GW a cI cJ p nu de eq am nx oA oD oE oP cR aR hR cl ad gw pr n ++ [(o0, eJ cJ 1 ou)]) sz)) (va_Qi (fun (rr : Int32) (u : Unit) => rr = 1) (fun (u : Unit) t => AW D (tyG cI cJ) (va_A (GW a cI cJ p nu de eq am nx oA oD oE oP cR aR hR cl ad gw pr n ++ [(o0, eJ cJ 1 ou)]) sz) (GW a cI cJ p nu de eq am nx oA oD oE oP cR aR hR cl ad gw pr n ++ [(o0, eJ cJ 1 ou)]) t) (va_A (GW a cI cJ p nu de eq am nx oA oD oE oP cR aR hR cl ad gw pr n ++ [(o0, eJ cJ 1 ou)]) sz)) 1 6 (va_A (GW a cI cJ p nu de eq am nx oA oD oE oP cR aR hR cl ad gw pr n ++ [(o0, eJ cJ 1 ou)]) sz) := by
  refine ofWC (cc := cL_shareByRounds) (maxL := 5) (ret := (some .int)) (hh := [(0, 10, 13, 13)]) (by decide) rfl ?_
  intro pp ee ss mm ar bel mth cde s₁ B hml htab hv
  obtain ⟨rfl, ⟨hsz, hP, hK, hD0, hE, hV⟩, hDC⟩ := hv
  have hx := B.exec
  have hb := B.bytes
  have hr := B.returns
  have hts := atoms_spec (ws := wsL_shareByRounds) B.pre
  have hown : ss.vm.findClass RL = some mm.cls := findClass_of_methodNamed B.named
  have hlocks := B.notSynchronized
  subst hsz
  have hD := hD0.self (sz := ss.heap.size)
  generalize hAe : va_A (GW a cI cJ p nu de eq am nx oA oD oE oP cR aR hR cl ad gw pr n ++ [(o0, eJ cJ 1 ou)]) ss.heap.size = A at hD hV ⊢
  have hA : ∀ q : Nat, ss.heap.size ≤ q → A q := fun q h => by rw [← hAe]; exact Or.inr h
  have hS : va_S A ss.heap ss.heap [] := va_S.rf
  have hl := lv_entry [.ref (a 0), .int (x0), .int (x1), .ref (o0)] (n := 5) (Nat.le_of_ble_eq_true rfl)
  rw [lg_entry_eq]
  generalize (lg_sl [.ref (a 0), .int (x0), .int (x1), .ref (o0)] ++ List.replicate (5 - (lg_sl [.ref (a 0), .int (x0), .int (x1), .ref (o0)]).length) Slot.unset).toArray = ls at hl ⊢
  have hl : lv_has ls 5 [(0, .ref (a 0)), (1, .int (x0)), (2, .int (x1)), (3, .ref (o0))] := hl
  refine lv_aload_n hx hb dL_shareByRounds_0 rfl (lv_at hl 3 rfl) ?_
  refine lv_iconst (v := 0) hx hb dL_shareByRounds_1 (by decide) ?_
  refine lv_aload_n hx hb dL_shareByRounds_2 rfl (lv_at hl 0 rfl) ?_
  refine lv_iload_n hx hb dL_shareByRounds_3 rfl (lv_at hl 1 rfl) ?_
  refine lv_iload_n hx hb dL_shareByRounds_4 rfl (lv_at hl 2 rfl) ?_
  refine b_catch (wc := GW a cI cJ p nu de eq am nx oA oD oE oP cR aR hR cl ad gw pr n) (wr := [(o0, eJ cJ 1 ou)]) (S := Unit) (name := RIA) (E0 := RIA) hP hD hS hA (vx_runV (As := [.int (x0), .int (x1)]) (rest := [.int (0), .ref (o0)]) ⟨hx, hb, hml, hown, hts⟩ (c_X3_shareByRounds_bad ll hst D a cI cJ _ p nu de eq am nx oA oD oE oP cR aR hR cl ad gw pr n x0 x1 hbad) (cwV 2 hts gL_shareByRounds_X3_shareByRounds rfl rfl rfl (by decide +kernel) ⟨Nat.le_of_ble_eq_true rfl, Nat.le_of_ble_eq_true rfl⟩) ⟨PY.blind, va_recv hK hP (ci := 3) (q0 := 0) rfl rfl, PY.go hP hK hD hE hV hDC hS hA⟩ rfl rfl hl.1 rfl (lv_room (Nat.le_of_ble_eq_true rfl)) dL_shareByRounds_5 ⟨Nat.le_of_ble_eq_true rfl, Nat.le_of_ble_eq_true rfl⟩) (fun v st t h => by obtain ⟨⟨_, _, _, h9, _⟩, _⟩ := h; exact h9) hown [] ⟨0, 10, 13, 13⟩ [] htab (fun z hz => by cases hz) (by decide) (by decide) (hts (.classLink RL 13 RIA) (by decide +kernel)) (va_Nw.use rfl hE.2.1) (fun u q9 H locs hP hD hS => ?_)
  refine lv_astore (lv' := [(4, .ref (q9)), (0, .ref (a 0)), (1, .int (x0)), (2, .int (x1)), (3, .ref (o0))]) hx hb dL_shareByRounds_13 hl (by decide) rfl (fun ls hl => ?_)
  refine lv_iconst (v := 1) hx hb dL_shareByRounds_15 (by decide) ?_
  exact W.iret hx hb hr (fun t ht hW => ⟨⟨_, u, rfl, rfl, (by rw [ht]; exact hP), va_K.moved hW.alike hK, hD⟩, hS.F ht⟩) hS.2.2 dL_shareByRounds_16

abbrev rmL_goodwill : Room := ({ frames := 3, cells := 0, slots := 0, locals := 63 } : Room)
set_option maxHeartbeats 4000000 in
set_option maxRecDepth 100000 in
theorem c_L_goodwill (ll : Launch) (D : va_G) (a : Nat → Nat) (cI cJ : ClassId) (sz : Nat) (p : Nat → Int32) (nu de eq : Nat → Int64) (am nx oA oD oE oP cR aR hR cl ad gw pr : Nat → Int32) (n : Int32) (o0 : Nat) (ou : Nat → Int64) (c : Nat) (hc : c < 6) : Met ll yL_goodwill wsL_goodwill rmL_goodwill (va_Pc [.ref (a 0), .int (nI (c)), .ref (o0)] (PY D (tyG cI cJ) (GW a cI cJ p nu de eq am nx oA oD oE oP cR aR hR cl ad gw pr n ++ [(o0, eJ cJ 1 ou)]) sz)) (va_Qi (fun (rr : Int32) (u : Unit) => rr = 0) (fun (u : Unit) t => AW D (tyG cI cJ) (va_A (GW a cI cJ p nu de eq am nx oA oD oE oP cR aR hR cl ad gw pr n ++ [(o0, eJ cJ 1 ou)]) sz) (GW a cI cJ p nu de eq am nx oA oD oE oP cR aR hR cl ad gw pr n ++ [(o0, eJ cJ 1 (vp_updL ou 0 (gw c).toInt64))]) t) (va_A (GW a cI cJ p nu de eq am nx oA oD oE oP cR aR hR cl ad gw pr n ++ [(o0, eJ cJ 1 ou)]) sz)) 0 0 (va_A (GW a cI cJ p nu de eq am nx oA oD oE oP cR aR hR cl ad gw pr n ++ [(o0, eJ cJ 1 ou)]) sz) := by
  refine ofWC (cc := cL_goodwill) (maxL := 4) (ret := (some .int)) (hh := [(0, 9, 12, 13)]) (by decide) rfl ?_
  intro pp ee ss mm ar bel mth cde s₁ B hml htab hv
  obtain ⟨rfl, ⟨hsz, hP, hK, hD0, hE, hV⟩, hDC⟩ := hv
  have hx := B.exec
  have hb := B.bytes
  have hr := B.returns
  have hts := atoms_spec (ws := wsL_goodwill) B.pre
  have hown : ss.vm.findClass RL = some mm.cls := findClass_of_methodNamed B.named
  have hlocks := B.notSynchronized
  subst hsz
  have hD := hD0.self (sz := ss.heap.size)
  generalize hAe : va_A (GW a cI cJ p nu de eq am nx oA oD oE oP cR aR hR cl ad gw pr n ++ [(o0, eJ cJ 1 ou)]) ss.heap.size = A at hD hV ⊢
  have hA : ∀ q : Nat, ss.heap.size ≤ q → A q := fun q h => by rw [← hAe]; exact Or.inr h
  have hS : va_S A ss.heap ss.heap [] := va_S.rf
  have hl := lv_entry [.ref (a 0), .int (nI (c)), .ref (o0)] (n := 4) (Nat.le_of_ble_eq_true rfl)
  rw [lg_entry_eq]
  generalize (lg_sl [.ref (a 0), .int (nI (c)), .ref (o0)] ++ List.replicate (4 - (lg_sl [.ref (a 0), .int (nI (c)), .ref (o0)]).length) Slot.unset).toArray = ls at hl ⊢
  have hl : lv_has ls 4 [(0, .ref (a 0)), (1, .int (nI (c))), (2, .ref (o0))] := hl
  refine lv_aload_n hx hb dL_goodwill_0 rfl (lv_at hl 2 rfl) ?_
  refine lv_iconst (v := 0) hx hb dL_goodwill_1 (by decide) ?_
  refine lv_aload_n hx hb dL_goodwill_2 rfl (lv_at hl 0 rfl) ?_
  refine lv_iload_n hx hb dL_goodwill_3 rfl (lv_at hl 1 rfl) ?_
  refine b_csi (v := gw c) (W.runV (As := [.int (nI (c))]) (rest := [.int (0), .ref (o0)]) ⟨hx, hb, hml, hown, hts⟩ (c_X3_goodwill ll D a cI cJ p nu de eq am nx oA oD oE oP cR aR hR cl ad gw pr n c hc) (cwV 1 hts gL_goodwill_X3_goodwill rfl rfl rfl (by decide +kernel) ⟨Nat.le_of_ble_eq_true rfl, Nat.le_of_ble_eq_true rfl⟩) ⟨PR.blind, va_recv hK hP (ci := 3) (q0 := 0) rfl rfl, PR.goP (wr := [(o0, eJ cJ 1 ou)]) hP hK hE⟩ rfl rfl hl.1 rfl (lv_room (Nat.le_of_ble_eq_true rfl)) dL_goodwill_4 ⟨Nat.le_of_ble_eq_true rfl, Nat.le_of_ble_eq_true rfl⟩) ?_
  refine lv_i2l (v := (gw c).toInt64) hx hb dL_goodwill_7 rfl ?_
  refine b_last (w' := GW a cI cJ p nu de eq am nx oA oD oE oP cR aR hR cl ad gw pr n ++ [(o0, eJ cJ 1 (vp_updL ou 0 (gw c).toInt64))]) hx hb hK hP hD hS 21 1 (f := ou) rfl rfl (j := 0) (by omega) (by decide) rfl dL_goodwill_8 (fun H locs hP hD hS => ?_)
  refine lv_goto (tgt := 15) hx hb dL_goodwill_9 (by decide) ?_
  refine lv_iconst (v := 0) hx hb dL_goodwill_15 (by decide) ?_
  exact W.iret hx hb hr (fun t ht hW => ⟨⟨_, (), rfl, rfl, (by rw [ht]; exact hP), va_K.moved hW.alike hK, hD⟩, hS.F ht⟩) hS.2.2 dL_goodwill_16

abbrev rmL_goodwill_bad : Room := ({ frames := 9, cells := 1, slots := 6, locals := 145 } : Room)
set_option maxHeartbeats 4000000 in
set_option maxRecDepth 100000 in
theorem c_L_goodwill_bad (ll : Launch) (hst : ll.stackTraces = false) (D : va_G) (a : Nat → Nat) (cI cJ : ClassId) (sz : Nat) (p : Nat → Int32) (nu de eq : Nat → Int64) (am nx oA oD oE oP cR aR hR cl ad gw pr : Nat → Int32) (n : Int32) (o0 : Nat) (ou : Nat → Int64) (x0 : Int32) (hbad : ¬ inB x0 0 5 = true) : Met ll yL_goodwill wsL_goodwill rmL_goodwill_bad (va_Pc [.ref (a 0), .int (x0), .ref (o0)] (PY D (tyG cI cJ) (GW a cI cJ p nu de eq am nx oA oD oE oP cR aR hR cl ad gw pr n ++ [(o0, eJ cJ 1 ou)]) sz)) (va_Qi (fun (rr : Int32) (u : Unit) => rr = 1) (fun (u : Unit) t => AW D (tyG cI cJ) (va_A (GW a cI cJ p nu de eq am nx oA oD oE oP cR aR hR cl ad gw pr n ++ [(o0, eJ cJ 1 ou)]) sz) (GW a cI cJ p nu de eq am nx oA oD oE oP cR aR hR cl ad gw pr n ++ [(o0, eJ cJ 1 ou)]) t) (va_A (GW a cI cJ p nu de eq am nx oA oD oE oP cR aR hR cl ad gw pr n ++ [(o0, eJ cJ 1 ou)]) sz)) 1 6 (va_A (GW a cI cJ p nu de eq am nx oA oD oE oP cR aR hR cl ad gw pr n ++ [(o0, eJ cJ 1 ou)]) sz) := by
  refine ofWC (cc := cL_goodwill) (maxL := 4) (ret := (some .int)) (hh := [(0, 9, 12, 13)]) (by decide) rfl ?_
  intro pp ee ss mm ar bel mth cde s₁ B hml htab hv
  obtain ⟨rfl, ⟨hsz, hP, hK, hD0, hE, hV⟩, hDC⟩ := hv
  have hx := B.exec
  have hb := B.bytes
  have hr := B.returns
  have hts := atoms_spec (ws := wsL_goodwill) B.pre
  have hown : ss.vm.findClass RL = some mm.cls := findClass_of_methodNamed B.named
  have hlocks := B.notSynchronized
  subst hsz
  have hD := hD0.self (sz := ss.heap.size)
  generalize hAe : va_A (GW a cI cJ p nu de eq am nx oA oD oE oP cR aR hR cl ad gw pr n ++ [(o0, eJ cJ 1 ou)]) ss.heap.size = A at hD hV ⊢
  have hA : ∀ q : Nat, ss.heap.size ≤ q → A q := fun q h => by rw [← hAe]; exact Or.inr h
  have hS : va_S A ss.heap ss.heap [] := va_S.rf
  have hl := lv_entry [.ref (a 0), .int (x0), .ref (o0)] (n := 4) (Nat.le_of_ble_eq_true rfl)
  rw [lg_entry_eq]
  generalize (lg_sl [.ref (a 0), .int (x0), .ref (o0)] ++ List.replicate (4 - (lg_sl [.ref (a 0), .int (x0), .ref (o0)]).length) Slot.unset).toArray = ls at hl ⊢
  have hl : lv_has ls 4 [(0, .ref (a 0)), (1, .int (x0)), (2, .ref (o0))] := hl
  refine lv_aload_n hx hb dL_goodwill_0 rfl (lv_at hl 2 rfl) ?_
  refine lv_iconst (v := 0) hx hb dL_goodwill_1 (by decide) ?_
  refine lv_aload_n hx hb dL_goodwill_2 rfl (lv_at hl 0 rfl) ?_
  refine lv_iload_n hx hb dL_goodwill_3 rfl (lv_at hl 1 rfl) ?_
  refine b_catch (wc := GW a cI cJ p nu de eq am nx oA oD oE oP cR aR hR cl ad gw pr n) (wr := [(o0, eJ cJ 1 ou)]) (S := Unit) (name := RIA) (E0 := RIA) hP hD hS hA (vx_runV (As := [.int (x0)]) (rest := [.int (0), .ref (o0)]) ⟨hx, hb, hml, hown, hts⟩ (c_X3_goodwill_bad ll hst D a cI cJ _ p nu de eq am nx oA oD oE oP cR aR hR cl ad gw pr n x0 hbad) (cwV 1 hts gL_goodwill_X3_goodwill rfl rfl rfl (by decide +kernel) ⟨Nat.le_of_ble_eq_true rfl, Nat.le_of_ble_eq_true rfl⟩) ⟨PY.blind, va_recv hK hP (ci := 3) (q0 := 0) rfl rfl, PY.go hP hK hD hE hV hDC hS hA⟩ rfl rfl hl.1 rfl (lv_room (Nat.le_of_ble_eq_true rfl)) dL_goodwill_4 ⟨Nat.le_of_ble_eq_true rfl, Nat.le_of_ble_eq_true rfl⟩) (fun v st t h => by obtain ⟨⟨_, _, _, h9, _⟩, _⟩ := h; exact h9) hown [] ⟨0, 9, 12, 13⟩ [] htab (fun z hz => by cases hz) (by decide) (by decide) (hts (.classLink RL 13 RIA) (by decide +kernel)) (va_Nw.use rfl hE.2.1) (fun u q9 H locs hP hD hS => ?_)
  refine lv_astore_n (lv' := [(3, .ref (q9)), (0, .ref (a 0)), (1, .int (x0)), (2, .ref (o0))]) hx hb dL_goodwill_12 rfl hl (by decide) rfl (fun ls hl => ?_)
  refine lv_iconst (v := 1) hx hb dL_goodwill_13 (by decide) ?_
  exact W.iret hx hb hr (fun t ht hW => ⟨⟨_, u, rfl, rfl, (by rw [ht]; exact hP), va_K.moved hW.alike hK, hD⟩, hS.F ht⟩) hS.2.2 dL_goodwill_14

abbrev rmL_setBooks : Room := ({ frames := 3, cells := 0, slots := 0, locals := 67 } : Room)
set_option maxHeartbeats 4000000 in
set_option maxRecDepth 100000 in
theorem c_L_setBooks (ll : Launch) (D : va_G) (a : Nat → Nat) (cI cJ : ClassId) (sz : Nat) (p : Nat → Int32) (nu de eq : Nat → Int64) (am nx oA oD oE oP cR aR hR cl ad gw pr : Nat → Int32) (n : Int32) (o0 : Nat) (ou : Nat → Int64) (c : Nat) (x1 x2 x3 x4 : Int32) (hc : c < 6) (h1 : inB x1 0 1000000 = true) (h2 : inB x2 0 1000000 = true) (h3 : inB x3 (-1000000) 1000000 = true) (h4 : inB x4 (-1000000) 1000000 = true) (h5 : x1 = x2 + x3 + x4) : Met ll yL_setBooks wsL_setBooks rmL_setBooks (va_Pc [.ref (a 0), .int (nI (c)), .int (x1), .int (x2), .int (x3), .int (x4)] (PY D (tyG cI cJ) (GW a cI cJ p nu de eq am nx oA oD oE oP cR aR hR cl ad gw pr n ++ [(o0, eJ cJ 1 ou)]) sz)) (va_Qi (fun (rr : Int32) (u : Unit) => rr = 0) (fun (u : Unit) t => AW D (tyG cI cJ) (va_A (GW a cI cJ p nu de eq am nx oA oD oE oP cR aR hR cl ad gw pr n ++ [(o0, eJ cJ 1 ou)]) sz) (GW a cI cJ p nu de eq am nx (upd oA c x1) (upd oD c x2) (upd oE c x3) (upd oP c x4) cR aR hR cl ad gw pr n ++ [(o0, eJ cJ 1 ou)]) t) (va_A (GW a cI cJ p nu de eq am nx oA oD oE oP cR aR hR cl ad gw pr n ++ [(o0, eJ cJ 1 ou)]) sz)) 0 0 (va_A (GW a cI cJ p nu de eq am nx oA oD oE oP cR aR hR cl ad gw pr n ++ [(o0, eJ cJ 1 ou)]) sz) := by
  refine ofWC (cc := cL_setBooks) (maxL := 7) (ret := (some .int)) (hh := [(0, 11, 14, 13)]) (by decide) rfl ?_
  intro pp ee ss mm ar bel mth cde s₁ B hml htab hv
  obtain ⟨rfl, ⟨hsz, hP, hK, hD0, hE, hV⟩, hDC⟩ := hv
  have hx := B.exec
  have hb := B.bytes
  have hr := B.returns
  have hts := atoms_spec (ws := wsL_setBooks) B.pre
  have hown : ss.vm.findClass RL = some mm.cls := findClass_of_methodNamed B.named
  have hlocks := B.notSynchronized
  subst hsz
  have hD := hD0.self (sz := ss.heap.size)
  generalize hAe : va_A (GW a cI cJ p nu de eq am nx oA oD oE oP cR aR hR cl ad gw pr n ++ [(o0, eJ cJ 1 ou)]) ss.heap.size = A at hD hV ⊢
  have hA : ∀ q : Nat, ss.heap.size ≤ q → A q := fun q h => by rw [← hAe]; exact Or.inr h
  have hS : va_S A ss.heap ss.heap [] := va_S.rf
  have hl := lv_entry [.ref (a 0), .int (nI (c)), .int (x1), .int (x2), .int (x3), .int (x4)] (n := 7) (Nat.le_of_ble_eq_true rfl)
  rw [lg_entry_eq]
  generalize (lg_sl [.ref (a 0), .int (nI (c)), .int (x1), .int (x2), .int (x3), .int (x4)] ++ List.replicate (7 - (lg_sl [.ref (a 0), .int (nI (c)), .int (x1), .int (x2), .int (x3), .int (x4)]).length) Slot.unset).toArray = ls at hl ⊢
  have hl : lv_has ls 7 [(0, .ref (a 0)), (1, .int (nI (c))), (2, .int (x1)), (3, .int (x2)), (4, .int (x3)), (5, .int (x4))] := hl
  refine lv_aload_n hx hb dL_setBooks_0 rfl (lv_at hl 0 rfl) ?_
  refine lv_iload_n hx hb dL_setBooks_1 rfl (lv_at hl 1 rfl) ?_
  refine lv_iload_n hx hb dL_setBooks_2 rfl (lv_at hl 2 rfl) ?_
  refine lv_iload_n hx hb dL_setBooks_3 rfl (lv_at hl 3 rfl) ?_
  refine lv_iload hx hb dL_setBooks_4 (lv_at hl 4 rfl) ?_
  refine lv_iload hx hb dL_setBooks_6 (lv_at hl 5 rfl) ?_
  refine b_callvP (S := Unit) (wc := GW a cI cJ p nu de eq am nx oA oD oE oP cR aR hR cl ad gw pr n) (wr := [(o0, eJ cJ 1 ou)]) (w' := fun u => GW a cI cJ p nu de eq am nx (upd oA c x1) (upd oD c x2) (upd oE c x3) (upd oP c x4) cR aR hR cl ad gw pr n) hP hD hS hA (va_runV (As := [.int (nI (c)), .int (x1), .int (x2), .int (x3), .int (x4)]) (rest := []) ⟨hx, hb, hml, hown, hts⟩ (c_X3_setBooks ll D a cI cJ _ p nu de eq am nx oA oD oE oP cR aR hR cl ad gw pr n c x1 x2 x3 x4 hc h1 h2 h3 h4 h5) (cwV 5 hts gL_setBooks_X3_setBooks rfl rfl rfl (by decide +kernel) ⟨Nat.le_of_ble_eq_true rfl, Nat.le_of_ble_eq_true rfl⟩) ⟨PW.blind, va_recv hK hP (ci := 3) (q0 := 0) rfl rfl, PW.goP (wr := [(o0, eJ cJ 1 ou)]) hP hK hD hE⟩ rfl rfl hl.1 rfl (lv_room (Nat.le_of_ble_eq_true rfl)) dL_setBooks_8 ⟨Nat.le_of_ble_eq_true rfl, Nat.le_of_ble_eq_true rfl⟩) (fun u H locs hu hP hD hS => ?_)
  refine lv_goto (tgt := 18) hx hb dL_setBooks_11 (by decide) ?_
  refine lv_iconst (v := 0) hx hb dL_setBooks_18 (by decide) ?_
  exact W.iret hx hb hr (fun t ht hW => ⟨⟨_, u, rfl, rfl, (by rw [ht]; exact hP), va_K.moved hW.alike hK, hD⟩, hS.F ht⟩) hS.2.2 dL_setBooks_19

abbrev rmL_setBooks_bad : Room := ({ frames := 9, cells := 1, slots := 6, locals := 149 } : Room)
set_option maxHeartbeats 4000000 in
set_option maxRecDepth 100000 in
theorem c_L_setBooks_bad (ll : Launch) (hst : ll.stackTraces = false) (D : va_G) (a : Nat → Nat) (cI cJ : ClassId) (sz : Nat) (p : Nat → Int32) (nu de eq : Nat → Int64) (am nx oA oD oE oP cR aR hR cl ad gw pr : Nat → Int32) (n : Int32) (o0 : Nat) (ou : Nat → Int64) (x0 x1 x2 x3 x4 : Int32) (hbad : ¬ (inB x0 0 5 = true ∧ inB x1 0 1000000 = true ∧ inB x2 0 1000000 = true ∧ inB x3 (-1000000) 1000000 = true ∧ inB x4 (-1000000) 1000000 = true ∧ x1 = x2 + x3 + x4)) : Met ll yL_setBooks wsL_setBooks rmL_setBooks_bad (va_Pc [.ref (a 0), .int (x0), .int (x1), .int (x2), .int (x3), .int (x4)] (PY D (tyG cI cJ) (GW a cI cJ p nu de eq am nx oA oD oE oP cR aR hR cl ad gw pr n ++ [(o0, eJ cJ 1 ou)]) sz)) (va_Qi (fun (rr : Int32) (u : Unit) => rr = 1) (fun (u : Unit) t => AW D (tyG cI cJ) (va_A (GW a cI cJ p nu de eq am nx oA oD oE oP cR aR hR cl ad gw pr n ++ [(o0, eJ cJ 1 ou)]) sz) (GW a cI cJ p nu de eq am nx oA oD oE oP cR aR hR cl ad gw pr n ++ [(o0, eJ cJ 1 ou)]) t) (va_A (GW a cI cJ p nu de eq am nx oA oD oE oP cR aR hR cl ad gw pr n ++ [(o0, eJ cJ 1 ou)]) sz)) 1 6 (va_A (GW a cI cJ p nu de eq am nx oA oD oE oP cR aR hR cl ad gw pr n ++ [(o0, eJ cJ 1 ou)]) sz) := by
  refine ofWC (cc := cL_setBooks) (maxL := 7) (ret := (some .int)) (hh := [(0, 11, 14, 13)]) (by decide) rfl ?_
  intro pp ee ss mm ar bel mth cde s₁ B hml htab hv
  obtain ⟨rfl, ⟨hsz, hP, hK, hD0, hE, hV⟩, hDC⟩ := hv
  have hx := B.exec
  have hb := B.bytes
  have hr := B.returns
  have hts := atoms_spec (ws := wsL_setBooks) B.pre
  have hown : ss.vm.findClass RL = some mm.cls := findClass_of_methodNamed B.named
  have hlocks := B.notSynchronized
  subst hsz
  have hD := hD0.self (sz := ss.heap.size)
  generalize hAe : va_A (GW a cI cJ p nu de eq am nx oA oD oE oP cR aR hR cl ad gw pr n ++ [(o0, eJ cJ 1 ou)]) ss.heap.size = A at hD hV ⊢
  have hA : ∀ q : Nat, ss.heap.size ≤ q → A q := fun q h => by rw [← hAe]; exact Or.inr h
  have hS : va_S A ss.heap ss.heap [] := va_S.rf
  have hl := lv_entry [.ref (a 0), .int (x0), .int (x1), .int (x2), .int (x3), .int (x4)] (n := 7) (Nat.le_of_ble_eq_true rfl)
  rw [lg_entry_eq]
  generalize (lg_sl [.ref (a 0), .int (x0), .int (x1), .int (x2), .int (x3), .int (x4)] ++ List.replicate (7 - (lg_sl [.ref (a 0), .int (x0), .int (x1), .int (x2), .int (x3), .int (x4)]).length) Slot.unset).toArray = ls at hl ⊢
  have hl : lv_has ls 7 [(0, .ref (a 0)), (1, .int (x0)), (2, .int (x1)), (3, .int (x2)), (4, .int (x3)), (5, .int (x4))] := hl
  refine lv_aload_n hx hb dL_setBooks_0 rfl (lv_at hl 0 rfl) ?_
  refine lv_iload_n hx hb dL_setBooks_1 rfl (lv_at hl 1 rfl) ?_
  refine lv_iload_n hx hb dL_setBooks_2 rfl (lv_at hl 2 rfl) ?_
  refine lv_iload_n hx hb dL_setBooks_3 rfl (lv_at hl 3 rfl) ?_
  refine lv_iload hx hb dL_setBooks_4 (lv_at hl 4 rfl) ?_
  refine lv_iload hx hb dL_setBooks_6 (lv_at hl 5 rfl) ?_
  refine b_catch (wc := GW a cI cJ p nu de eq am nx oA oD oE oP cR aR hR cl ad gw pr n) (wr := [(o0, eJ cJ 1 ou)]) (S := Unit) (name := RIA) (E0 := RIA) hP hD hS hA (vx_runV (As := [.int (x0), .int (x1), .int (x2), .int (x3), .int (x4)]) (rest := []) ⟨hx, hb, hml, hown, hts⟩ (c_X3_setBooks_bad ll hst D a cI cJ _ p nu de eq am nx oA oD oE oP cR aR hR cl ad gw pr n x0 x1 x2 x3 x4 hbad) (cwV 5 hts gL_setBooks_X3_setBooks rfl rfl rfl (by decide +kernel) ⟨Nat.le_of_ble_eq_true rfl, Nat.le_of_ble_eq_true rfl⟩) ⟨PY.blind, va_recv hK hP (ci := 3) (q0 := 0) rfl rfl, PY.go hP hK hD hE hV hDC hS hA⟩ rfl rfl hl.1 rfl (lv_room (Nat.le_of_ble_eq_true rfl)) dL_setBooks_8 ⟨Nat.le_of_ble_eq_true rfl, Nat.le_of_ble_eq_true rfl⟩) (fun v st t h => by obtain ⟨⟨_, _, h9, _⟩, _⟩ := h; exact h9) hown [] ⟨0, 11, 14, 13⟩ [] htab (fun z hz => by cases hz) (by decide) (by decide) (hts (.classLink RL 13 RIA) (by decide +kernel)) (va_Nw.use rfl hE.2.1) (fun u q9 H locs hP hD hS => ?_)
  refine lv_astore (lv' := [(6, .ref (q9)), (0, .ref (a 0)), (1, .int (x0)), (2, .int (x1)), (3, .int (x2)), (4, .int (x3)), (5, .int (x4))]) hx hb dL_setBooks_14 hl (by decide) rfl (fun ls hl => ?_)
  refine lv_iconst (v := 1) hx hb dL_setBooks_16 (by decide) ?_
  exact W.iret hx hb hr (fun t ht hW => ⟨⟨_, u, rfl, rfl, (by rw [ht]; exact hP), va_K.moved hW.alike hK, hD⟩, hS.F ht⟩) hS.2.2 dL_setBooks_17

abbrev rmL_setRates : Room := ({ frames := 3, cells := 0, slots := 0, locals := 66 } : Room)
set_option maxHeartbeats 4000000 in
set_option maxRecDepth 100000 in
theorem c_L_setRates (ll : Launch) (D : va_G) (a : Nat → Nat) (cI cJ : ClassId) (sz : Nat) (p : Nat → Int32) (nu de eq : Nat → Int64) (am nx oA oD oE oP cR aR hR cl ad gw pr : Nat → Int32) (n : Int32) (o0 : Nat) (ou : Nat → Int64) (c : Nat) (x1 x2 x3 : Int32) (hc : c < 6) (h1 : inB x1 1 1000 = true) (h2 : inB x2 1 1000 = true) (h3 : inB x3 1 1000 = true) : Met ll yL_setRates wsL_setRates rmL_setRates (va_Pc [.ref (a 0), .int (nI (c)), .int (x1), .int (x2), .int (x3)] (PY D (tyG cI cJ) (GW a cI cJ p nu de eq am nx oA oD oE oP cR aR hR cl ad gw pr n ++ [(o0, eJ cJ 1 ou)]) sz)) (va_Qi (fun (rr : Int32) (u : Unit) => rr = 0) (fun (u : Unit) t => AW D (tyG cI cJ) (va_A (GW a cI cJ p nu de eq am nx oA oD oE oP cR aR hR cl ad gw pr n ++ [(o0, eJ cJ 1 ou)]) sz) (GW a cI cJ p nu de eq am nx oA oD oE oP (upd cR c x1) (upd aR c x2) (upd hR c x3) cl ad gw pr n ++ [(o0, eJ cJ 1 ou)]) t) (va_A (GW a cI cJ p nu de eq am nx oA oD oE oP cR aR hR cl ad gw pr n ++ [(o0, eJ cJ 1 ou)]) sz)) 0 0 (va_A (GW a cI cJ p nu de eq am nx oA oD oE oP cR aR hR cl ad gw pr n ++ [(o0, eJ cJ 1 ou)]) sz) := by
  refine ofWC (cc := cL_setRates) (maxL := 6) (ret := (some .int)) (hh := [(0, 9, 12, 13)]) (by decide) rfl ?_
  intro pp ee ss mm ar bel mth cde s₁ B hml htab hv
  obtain ⟨rfl, ⟨hsz, hP, hK, hD0, hE, hV⟩, hDC⟩ := hv
  have hx := B.exec
  have hb := B.bytes
  have hr := B.returns
  have hts := atoms_spec (ws := wsL_setRates) B.pre
  have hown : ss.vm.findClass RL = some mm.cls := findClass_of_methodNamed B.named
  have hlocks := B.notSynchronized
  subst hsz
  have hD := hD0.self (sz := ss.heap.size)
  generalize hAe : va_A (GW a cI cJ p nu de eq am nx oA oD oE oP cR aR hR cl ad gw pr n ++ [(o0, eJ cJ 1 ou)]) ss.heap.size = A at hD hV ⊢
  have hA : ∀ q : Nat, ss.heap.size ≤ q → A q := fun q h => by rw [← hAe]; exact Or.inr h
  have hS : va_S A ss.heap ss.heap [] := va_S.rf
  have hl := lv_entry [.ref (a 0), .int (nI (c)), .int (x1), .int (x2), .int (x3)] (n := 6) (Nat.le_of_ble_eq_true rfl)
  rw [lg_entry_eq]
  generalize (lg_sl [.ref (a 0), .int (nI (c)), .int (x1), .int (x2), .int (x3)] ++ List.replicate (6 - (lg_sl [.ref (a 0), .int (nI (c)), .int (x1), .int (x2), .int (x3)]).length) Slot.unset).toArray = ls at hl ⊢
  have hl : lv_has ls 6 [(0, .ref (a 0)), (1, .int (nI (c))), (2, .int (x1)), (3, .int (x2)), (4, .int (x3))] := hl
  refine lv_aload_n hx hb dL_setRates_0 rfl (lv_at hl 0 rfl) ?_
  refine lv_iload_n hx hb dL_setRates_1 rfl (lv_at hl 1 rfl) ?_
  refine lv_iload_n hx hb dL_setRates_2 rfl (lv_at hl 2 rfl) ?_
  refine lv_iload_n hx hb dL_setRates_3 rfl (lv_at hl 3 rfl) ?_
  refine lv_iload hx hb dL_setRates_4 (lv_at hl 4 rfl) ?_
  refine b_callvP (S := Unit) (wc := GW a cI cJ p nu de eq am nx oA oD oE oP cR aR hR cl ad gw pr n) (wr := [(o0, eJ cJ 1 ou)]) (w' := fun u => GW a cI cJ p nu de eq am nx oA oD oE oP (upd cR c x1) (upd aR c x2) (upd hR c x3) cl ad gw pr n) hP hD hS hA (va_runV (As := [.int (nI (c)), .int (x1), .int (x2), .int (x3)]) (rest := []) ⟨hx, hb, hml, hown, hts⟩ (c_X3_setRates ll D a cI cJ _ p nu de eq am nx oA oD oE oP cR aR hR cl ad gw pr n c x1 x2 x3 hc h1 h2 h3) (cwV 4 hts gL_setRates_X3_setRates rfl rfl rfl (by decide +kernel) ⟨Nat.le_of_ble_eq_true rfl, Nat.le_of_ble_eq_true rfl⟩) ⟨PW.blind, va_recv hK hP (ci := 3) (q0 := 0) rfl rfl, PW.goP (wr := [(o0, eJ cJ 1 ou)]) hP hK hD hE⟩ rfl rfl hl.1 rfl (lv_room (Nat.le_of_ble_eq_true rfl)) dL_setRates_6 ⟨Nat.le_of_ble_eq_true rfl, Nat.le_of_ble_eq_true rfl⟩) (fun u H locs hu hP hD hS => ?_)
  refine lv_goto (tgt := 16) hx hb dL_setRates_9 (by decide) ?_
  refine lv_iconst (v := 0) hx hb dL_setRates_16 (by decide) ?_
  exact W.iret hx hb hr (fun t ht hW => ⟨⟨_, u, rfl, rfl, (by rw [ht]; exact hP), va_K.moved hW.alike hK, hD⟩, hS.F ht⟩) hS.2.2 dL_setRates_17

abbrev rmL_setRates_bad : Room := ({ frames := 9, cells := 1, slots := 6, locals := 148 } : Room)
set_option maxHeartbeats 4000000 in
set_option maxRecDepth 100000 in
theorem c_L_setRates_bad (ll : Launch) (hst : ll.stackTraces = false) (D : va_G) (a : Nat → Nat) (cI cJ : ClassId) (sz : Nat) (p : Nat → Int32) (nu de eq : Nat → Int64) (am nx oA oD oE oP cR aR hR cl ad gw pr : Nat → Int32) (n : Int32) (o0 : Nat) (ou : Nat → Int64) (x0 x1 x2 x3 : Int32) (hbad : ¬ (inB x0 0 5 = true ∧ inB x1 1 1000 = true ∧ inB x2 1 1000 = true ∧ inB x3 1 1000 = true)) : Met ll yL_setRates wsL_setRates rmL_setRates_bad (va_Pc [.ref (a 0), .int (x0), .int (x1), .int (x2), .int (x3)] (PY D (tyG cI cJ) (GW a cI cJ p nu de eq am nx oA oD oE oP cR aR hR cl ad gw pr n ++ [(o0, eJ cJ 1 ou)]) sz)) (va_Qi (fun (rr : Int32) (u : Unit) => rr = 1) (fun (u : Unit) t => AW D (tyG cI cJ) (va_A (GW a cI cJ p nu de eq am nx oA oD oE oP cR aR hR cl ad gw pr n ++ [(o0, eJ cJ 1 ou)]) sz) (GW a cI cJ p nu de eq am nx oA oD oE oP cR aR hR cl ad gw pr n ++ [(o0, eJ cJ 1 ou)]) t) (va_A (GW a cI cJ p nu de eq am nx oA oD oE oP cR aR hR cl ad gw pr n ++ [(o0, eJ cJ 1 ou)]) sz)) 1 6 (va_A (GW a cI cJ p nu de eq am nx oA oD oE oP cR aR hR cl ad gw pr n ++ [(o0, eJ cJ 1 ou)]) sz) := by
  refine ofWC (cc := cL_setRates) (maxL := 6) (ret := (some .int)) (hh := [(0, 9, 12, 13)]) (by decide) rfl ?_
  intro pp ee ss mm ar bel mth cde s₁ B hml htab hv
  obtain ⟨rfl, ⟨hsz, hP, hK, hD0, hE, hV⟩, hDC⟩ := hv
  have hx := B.exec
  have hb := B.bytes
  have hr := B.returns
  have hts := atoms_spec (ws := wsL_setRates) B.pre
  have hown : ss.vm.findClass RL = some mm.cls := findClass_of_methodNamed B.named
  have hlocks := B.notSynchronized
  subst hsz
  have hD := hD0.self (sz := ss.heap.size)
  generalize hAe : va_A (GW a cI cJ p nu de eq am nx oA oD oE oP cR aR hR cl ad gw pr n ++ [(o0, eJ cJ 1 ou)]) ss.heap.size = A at hD hV ⊢
  have hA : ∀ q : Nat, ss.heap.size ≤ q → A q := fun q h => by rw [← hAe]; exact Or.inr h
  have hS : va_S A ss.heap ss.heap [] := va_S.rf
  have hl := lv_entry [.ref (a 0), .int (x0), .int (x1), .int (x2), .int (x3)] (n := 6) (Nat.le_of_ble_eq_true rfl)
  rw [lg_entry_eq]
  generalize (lg_sl [.ref (a 0), .int (x0), .int (x1), .int (x2), .int (x3)] ++ List.replicate (6 - (lg_sl [.ref (a 0), .int (x0), .int (x1), .int (x2), .int (x3)]).length) Slot.unset).toArray = ls at hl ⊢
  have hl : lv_has ls 6 [(0, .ref (a 0)), (1, .int (x0)), (2, .int (x1)), (3, .int (x2)), (4, .int (x3))] := hl
  refine lv_aload_n hx hb dL_setRates_0 rfl (lv_at hl 0 rfl) ?_
  refine lv_iload_n hx hb dL_setRates_1 rfl (lv_at hl 1 rfl) ?_
  refine lv_iload_n hx hb dL_setRates_2 rfl (lv_at hl 2 rfl) ?_
  refine lv_iload_n hx hb dL_setRates_3 rfl (lv_at hl 3 rfl) ?_
  refine lv_iload hx hb dL_setRates_4 (lv_at hl 4 rfl) ?_
  refine b_catch (wc := GW a cI cJ p nu de eq am nx oA oD oE oP cR aR hR cl ad gw pr n) (wr := [(o0, eJ cJ 1 ou)]) (S := Unit) (name := RIA) (E0 := RIA) hP hD hS hA (vx_runV (As := [.int (x0), .int (x1), .int (x2), .int (x3)]) (rest := []) ⟨hx, hb, hml, hown, hts⟩ (c_X3_setRates_bad ll hst D a cI cJ _ p nu de eq am nx oA oD oE oP cR aR hR cl ad gw pr n x0 x1 x2 x3 hbad) (cwV 4 hts gL_setRates_X3_setRates rfl rfl rfl (by decide +kernel) ⟨Nat.le_of_ble_eq_true rfl, Nat.le_of_ble_eq_true rfl⟩) ⟨PY.blind, va_recv hK hP (ci := 3) (q0 := 0) rfl rfl, PY.go hP hK hD hE hV hDC hS hA⟩ rfl rfl hl.1 rfl (lv_room (Nat.le_of_ble_eq_true rfl)) dL_setRates_6 ⟨Nat.le_of_ble_eq_true rfl, Nat.le_of_ble_eq_true rfl⟩) (fun v st t h => by obtain ⟨⟨_, _, h9, _⟩, _⟩ := h; exact h9) hown [] ⟨0, 9, 12, 13⟩ [] htab (fun z hz => by cases hz) (by decide) (by decide) (hts (.classLink RL 13 RIA) (by decide +kernel)) (va_Nw.use rfl hE.2.1) (fun u q9 H locs hP hD hS => ?_)
  refine lv_astore (lv' := [(5, .ref (q9)), (0, .ref (a 0)), (1, .int (x0)), (2, .int (x1)), (3, .int (x2)), (4, .int (x3))]) hx hb dL_setRates_12 hl (by decide) rfl (fun ls hl => ?_)
  refine lv_iconst (v := 1) hx hb dL_setRates_14 (by decide) ?_
  exact W.iret hx hb hr (fun t ht hW => ⟨⟨_, u, rfl, rfl, (by rw [ht]; exact hP), va_K.moved hW.alike hK, hD⟩, hS.F ht⟩) hS.2.2 dL_setRates_15

abbrev rmL_netValue : Room := ({ frames := 5, cells := 0, slots := 0, locals := 106 } : Room)
set_option maxHeartbeats 4000000 in
set_option maxRecDepth 100000 in
theorem c_L_netValue (ll : Launch) (D : va_G) (a : Nat → Nat) (cI cJ : ClassId) (sz : Nat) (p : Nat → Int32) (nu de eq : Nat → Int64) (am nx oA oD oE oP cR aR hR cl ad gw pr : Nat → Int32) (n : Int32) (o0 : Nat) (ou : Nat → Int64) (c : Nat) (hc : c < 6) : Met ll yL_netValue wsL_netValue rmL_netValue (va_Pc [.ref (a 0), .int (nI (c)), .ref (o0)] (PY D (tyG cI cJ) (GW a cI cJ p nu de eq am nx oA oD oE oP cR aR hR cl ad gw pr n ++ [(o0, eJ cJ 1 ou)]) sz)) (va_Qi (fun (rr : Int32) (u : Unit) => rr = 0) (fun (u : Unit) t => AW D (tyG cI cJ) (va_A (GW a cI cJ p nu de eq am nx oA oD oE oP cR aR hR cl ad gw pr n ++ [(o0, eJ cJ 1 ou)]) sz) (GW a cI cJ p nu de eq am nx oA oD oE oP cR aR hR cl ad gw pr n ++ [(o0, eJ cJ 1 (vp_updL ou 0 (tr (oA c) (cR c) - tr (oD c) (cR c)).toInt64))]) t) (va_A (GW a cI cJ p nu de eq am nx oA oD oE oP cR aR hR cl ad gw pr n ++ [(o0, eJ cJ 1 ou)]) sz)) 0 0 (va_A (GW a cI cJ p nu de eq am nx oA oD oE oP cR aR hR cl ad gw pr n ++ [(o0, eJ cJ 1 ou)]) sz) := by
  refine ofWC (cc := cL_netValue) (maxL := 4) (ret := (some .int)) (hh := [(0, 9, 12, 13)]) (by decide) rfl ?_
  intro pp ee ss mm ar bel mth cde s₁ B hml htab hv
  obtain ⟨rfl, ⟨hsz, hP, hK, hD0, hE, hV⟩, hDC⟩ := hv
  have hx := B.exec
  have hb := B.bytes
  have hr := B.returns
  have hts := atoms_spec (ws := wsL_netValue) B.pre
  have hown : ss.vm.findClass RL = some mm.cls := findClass_of_methodNamed B.named
  have hlocks := B.notSynchronized
  subst hsz
  have hD := hD0.self (sz := ss.heap.size)
  generalize hAe : va_A (GW a cI cJ p nu de eq am nx oA oD oE oP cR aR hR cl ad gw pr n ++ [(o0, eJ cJ 1 ou)]) ss.heap.size = A at hD hV ⊢
  have hA : ∀ q : Nat, ss.heap.size ≤ q → A q := fun q h => by rw [← hAe]; exact Or.inr h
  have hS : va_S A ss.heap ss.heap [] := va_S.rf
  have hl := lv_entry [.ref (a 0), .int (nI (c)), .ref (o0)] (n := 4) (Nat.le_of_ble_eq_true rfl)
  rw [lg_entry_eq]
  generalize (lg_sl [.ref (a 0), .int (nI (c)), .ref (o0)] ++ List.replicate (4 - (lg_sl [.ref (a 0), .int (nI (c)), .ref (o0)]).length) Slot.unset).toArray = ls at hl ⊢
  have hl : lv_has ls 4 [(0, .ref (a 0)), (1, .int (nI (c))), (2, .ref (o0))] := hl
  refine lv_aload_n hx hb dL_netValue_0 rfl (lv_at hl 2 rfl) ?_
  refine lv_iconst (v := 0) hx hb dL_netValue_1 (by decide) ?_
  refine lv_aload_n hx hb dL_netValue_2 rfl (lv_at hl 0 rfl) ?_
  refine lv_iload_n hx hb dL_netValue_3 rfl (lv_at hl 1 rfl) ?_
  refine b_csi (v := tr (oA c) (cR c) - tr (oD c) (cR c)) (W.runV (As := [.int (nI (c))]) (rest := [.int (0), .ref (o0)]) ⟨hx, hb, hml, hown, hts⟩ (c_X3_netValue ll D a cI cJ p nu de eq am nx oA oD oE oP cR aR hR cl ad gw pr n c hc) (cwV 1 hts gL_netValue_X3_netValue rfl rfl rfl (by decide +kernel) ⟨Nat.le_of_ble_eq_true rfl, Nat.le_of_ble_eq_true rfl⟩) ⟨PR.blind, va_recv hK hP (ci := 3) (q0 := 0) rfl rfl, PR.goP (wr := [(o0, eJ cJ 1 ou)]) hP hK hE⟩ rfl rfl hl.1 rfl (lv_room (Nat.le_of_ble_eq_true rfl)) dL_netValue_4 ⟨Nat.le_of_ble_eq_true rfl, Nat.le_of_ble_eq_true rfl⟩) ?_
  refine lv_i2l (v := (tr (oA c) (cR c) - tr (oD c) (cR c)).toInt64) hx hb dL_netValue_7 rfl ?_
  refine b_last (w' := GW a cI cJ p nu de eq am nx oA oD oE oP cR aR hR cl ad gw pr n ++ [(o0, eJ cJ 1 (vp_updL ou 0 (tr (oA c) (cR c) - tr (oD c) (cR c)).toInt64))]) hx hb hK hP hD hS 21 1 (f := ou) rfl rfl (j := 0) (by omega) (by decide) rfl dL_netValue_8 (fun H locs hP hD hS => ?_)
  refine lv_goto (tgt := 15) hx hb dL_netValue_9 (by decide) ?_
  refine lv_iconst (v := 0) hx hb dL_netValue_15 (by decide) ?_
  exact W.iret hx hb hr (fun t ht hW => ⟨⟨_, (), rfl, rfl, (by rw [ht]; exact hP), va_K.moved hW.alike hK, hD⟩, hS.F ht⟩) hS.2.2 dL_netValue_16

abbrev rmL_netValue_bad : Room := ({ frames := 9, cells := 1, slots := 6, locals := 145 } : Room)
set_option maxHeartbeats 4000000 in
set_option maxRecDepth 100000 in
theorem c_L_netValue_bad (ll : Launch) (hst : ll.stackTraces = false) (D : va_G) (a : Nat → Nat) (cI cJ : ClassId) (sz : Nat) (p : Nat → Int32) (nu de eq : Nat → Int64) (am nx oA oD oE oP cR aR hR cl ad gw pr : Nat → Int32) (n : Int32) (o0 : Nat) (ou : Nat → Int64) (x0 : Int32) (hbad : ¬ inB x0 0 5 = true) : Met ll yL_netValue wsL_netValue rmL_netValue_bad (va_Pc [.ref (a 0), .int (x0), .ref (o0)] (PY D (tyG cI cJ) (GW a cI cJ p nu de eq am nx oA oD oE oP cR aR hR cl ad gw pr n ++ [(o0, eJ cJ 1 ou)]) sz)) (va_Qi (fun (rr : Int32) (u : Unit) => rr = 1) (fun (u : Unit) t => AW D (tyG cI cJ) (va_A (GW a cI cJ p nu de eq am nx oA oD oE oP cR aR hR cl ad gw pr n ++ [(o0, eJ cJ 1 ou)]) sz) (GW a cI cJ p nu de eq am nx oA oD oE oP cR aR hR cl ad gw pr n ++ [(o0, eJ cJ 1 ou)]) t) (va_A (GW a cI cJ p nu de eq am nx oA oD oE oP cR aR hR cl ad gw pr n ++ [(o0, eJ cJ 1 ou)]) sz)) 1 6 (va_A (GW a cI cJ p nu de eq am nx oA oD oE oP cR aR hR cl ad gw pr n ++ [(o0, eJ cJ 1 ou)]) sz) := by
  refine ofWC (cc := cL_netValue) (maxL := 4) (ret := (some .int)) (hh := [(0, 9, 12, 13)]) (by decide) rfl ?_
  intro pp ee ss mm ar bel mth cde s₁ B hml htab hv
  obtain ⟨rfl, ⟨hsz, hP, hK, hD0, hE, hV⟩, hDC⟩ := hv
  have hx := B.exec
  have hb := B.bytes
  have hr := B.returns
  have hts := atoms_spec (ws := wsL_netValue) B.pre
  have hown : ss.vm.findClass RL = some mm.cls := findClass_of_methodNamed B.named
  have hlocks := B.notSynchronized
  subst hsz
  have hD := hD0.self (sz := ss.heap.size)
  generalize hAe : va_A (GW a cI cJ p nu de eq am nx oA oD oE oP cR aR hR cl ad gw pr n ++ [(o0, eJ cJ 1 ou)]) ss.heap.size = A at hD hV ⊢
  have hA : ∀ q : Nat, ss.heap.size ≤ q → A q := fun q h => by rw [← hAe]; exact Or.inr h
  have hS : va_S A ss.heap ss.heap [] := va_S.rf
  have hl := lv_entry [.ref (a 0), .int (x0), .ref (o0)] (n := 4) (Nat.le_of_ble_eq_true rfl)
  rw [lg_entry_eq]
  generalize (lg_sl [.ref (a 0), .int (x0), .ref (o0)] ++ List.replicate (4 - (lg_sl [.ref (a 0), .int (x0), .ref (o0)]).length) Slot.unset).toArray = ls at hl ⊢
  have hl : lv_has ls 4 [(0, .ref (a 0)), (1, .int (x0)), (2, .ref (o0))] := hl
  refine lv_aload_n hx hb dL_netValue_0 rfl (lv_at hl 2 rfl) ?_
  refine lv_iconst (v := 0) hx hb dL_netValue_1 (by decide) ?_
  refine lv_aload_n hx hb dL_netValue_2 rfl (lv_at hl 0 rfl) ?_
  refine lv_iload_n hx hb dL_netValue_3 rfl (lv_at hl 1 rfl) ?_
  refine b_catch (wc := GW a cI cJ p nu de eq am nx oA oD oE oP cR aR hR cl ad gw pr n) (wr := [(o0, eJ cJ 1 ou)]) (S := Unit) (name := RIA) (E0 := RIA) hP hD hS hA (vx_runV (As := [.int (x0)]) (rest := [.int (0), .ref (o0)]) ⟨hx, hb, hml, hown, hts⟩ (c_X3_netValue_bad ll hst D a cI cJ _ p nu de eq am nx oA oD oE oP cR aR hR cl ad gw pr n x0 hbad) (cwV 1 hts gL_netValue_X3_netValue rfl rfl rfl (by decide +kernel) ⟨Nat.le_of_ble_eq_true rfl, Nat.le_of_ble_eq_true rfl⟩) ⟨PY.blind, va_recv hK hP (ci := 3) (q0 := 0) rfl rfl, PY.go hP hK hD hE hV hDC hS hA⟩ rfl rfl hl.1 rfl (lv_room (Nat.le_of_ble_eq_true rfl)) dL_netValue_4 ⟨Nat.le_of_ble_eq_true rfl, Nat.le_of_ble_eq_true rfl⟩) (fun v st t h => by obtain ⟨⟨_, _, _, h9, _⟩, _⟩ := h; exact h9) hown [] ⟨0, 9, 12, 13⟩ [] htab (fun z hz => by cases hz) (by decide) (by decide) (hts (.classLink RL 13 RIA) (by decide +kernel)) (va_Nw.use rfl hE.2.1) (fun u q9 H locs hP hD hS => ?_)
  refine lv_astore_n (lv' := [(3, .ref (q9)), (0, .ref (a 0)), (1, .int (x0)), (2, .ref (o0))]) hx hb dL_netValue_12 rfl hl (by decide) rfl (fun ls hl => ?_)
  refine lv_iconst (v := 1) hx hb dL_netValue_13 (by decide) ?_
  exact W.iret hx hb hr (fun t ht hW => ⟨⟨_, u, rfl, rfl, (by rw [ht]; exact hP), va_K.moved hW.alike hK, hD⟩, hS.F ht⟩) hS.2.2 dL_netValue_14

abbrev rmL_translatedEquity : Room := ({ frames := 4, cells := 0, slots := 0, locals := 85 } : Room)
set_option maxHeartbeats 4000000 in
set_option maxRecDepth 100000 in
theorem c_L_translatedEquity (ll : Launch) (D : va_G) (a : Nat → Nat) (cI cJ : ClassId) (sz : Nat) (p : Nat → Int32) (nu de eq : Nat → Int64) (am nx oA oD oE oP cR aR hR cl ad gw pr : Nat → Int32) (n : Int32) (o0 : Nat) (ou : Nat → Int64) (c : Nat) (hc : c < 6) : Met ll yL_translatedEquity wsL_translatedEquity rmL_translatedEquity (va_Pc [.ref (a 0), .int (nI (c)), .ref (o0)] (PY D (tyG cI cJ) (GW a cI cJ p nu de eq am nx oA oD oE oP cR aR hR cl ad gw pr n ++ [(o0, eJ cJ 1 ou)]) sz)) (va_Qi (fun (rr : Int32) (u : Unit) => rr = 0) (fun (u : Unit) t => AW D (tyG cI cJ) (va_A (GW a cI cJ p nu de eq am nx oA oD oE oP cR aR hR cl ad gw pr n ++ [(o0, eJ cJ 1 ou)]) sz) (GW a cI cJ p nu de eq am nx oA oD oE oP cR aR hR cl ad gw pr n ++ [(o0, eJ cJ 1 (vp_updL ou 0 (tr (oE c) (hR c)).toInt64))]) t) (va_A (GW a cI cJ p nu de eq am nx oA oD oE oP cR aR hR cl ad gw pr n ++ [(o0, eJ cJ 1 ou)]) sz)) 0 0 (va_A (GW a cI cJ p nu de eq am nx oA oD oE oP cR aR hR cl ad gw pr n ++ [(o0, eJ cJ 1 ou)]) sz) := by
  refine ofWC (cc := cL_translatedEquity) (maxL := 4) (ret := (some .int)) (hh := [(0, 9, 12, 13)]) (by decide) rfl ?_
  intro pp ee ss mm ar bel mth cde s₁ B hml htab hv
  obtain ⟨rfl, ⟨hsz, hP, hK, hD0, hE, hV⟩, hDC⟩ := hv
  have hx := B.exec
  have hb := B.bytes
  have hr := B.returns
  have hts := atoms_spec (ws := wsL_translatedEquity) B.pre
  have hown : ss.vm.findClass RL = some mm.cls := findClass_of_methodNamed B.named
  have hlocks := B.notSynchronized
  subst hsz
  have hD := hD0.self (sz := ss.heap.size)
  generalize hAe : va_A (GW a cI cJ p nu de eq am nx oA oD oE oP cR aR hR cl ad gw pr n ++ [(o0, eJ cJ 1 ou)]) ss.heap.size = A at hD hV ⊢
  have hA : ∀ q : Nat, ss.heap.size ≤ q → A q := fun q h => by rw [← hAe]; exact Or.inr h
  have hS : va_S A ss.heap ss.heap [] := va_S.rf
  have hl := lv_entry [.ref (a 0), .int (nI (c)), .ref (o0)] (n := 4) (Nat.le_of_ble_eq_true rfl)
  rw [lg_entry_eq]
  generalize (lg_sl [.ref (a 0), .int (nI (c)), .ref (o0)] ++ List.replicate (4 - (lg_sl [.ref (a 0), .int (nI (c)), .ref (o0)]).length) Slot.unset).toArray = ls at hl ⊢
  have hl : lv_has ls 4 [(0, .ref (a 0)), (1, .int (nI (c))), (2, .ref (o0))] := hl
  refine lv_aload_n hx hb dL_translatedEquity_0 rfl (lv_at hl 2 rfl) ?_
  refine lv_iconst (v := 0) hx hb dL_translatedEquity_1 (by decide) ?_
  refine lv_aload_n hx hb dL_translatedEquity_2 rfl (lv_at hl 0 rfl) ?_
  refine lv_iload_n hx hb dL_translatedEquity_3 rfl (lv_at hl 1 rfl) ?_
  refine b_csi (v := tr (oE c) (hR c)) (W.runV (As := [.int (nI (c))]) (rest := [.int (0), .ref (o0)]) ⟨hx, hb, hml, hown, hts⟩ (c_X3_translatedEquity ll D a cI cJ p nu de eq am nx oA oD oE oP cR aR hR cl ad gw pr n c hc) (cwV 1 hts gL_translatedEquity_X3_translatedEquity rfl rfl rfl (by decide +kernel) ⟨Nat.le_of_ble_eq_true rfl, Nat.le_of_ble_eq_true rfl⟩) ⟨PR.blind, va_recv hK hP (ci := 3) (q0 := 0) rfl rfl, PR.goP (wr := [(o0, eJ cJ 1 ou)]) hP hK hE⟩ rfl rfl hl.1 rfl (lv_room (Nat.le_of_ble_eq_true rfl)) dL_translatedEquity_4 ⟨Nat.le_of_ble_eq_true rfl, Nat.le_of_ble_eq_true rfl⟩) ?_
  refine lv_i2l (v := (tr (oE c) (hR c)).toInt64) hx hb dL_translatedEquity_7 rfl ?_
  refine b_last (w' := GW a cI cJ p nu de eq am nx oA oD oE oP cR aR hR cl ad gw pr n ++ [(o0, eJ cJ 1 (vp_updL ou 0 (tr (oE c) (hR c)).toInt64))]) hx hb hK hP hD hS 21 1 (f := ou) rfl rfl (j := 0) (by omega) (by decide) rfl dL_translatedEquity_8 (fun H locs hP hD hS => ?_)
  refine lv_goto (tgt := 15) hx hb dL_translatedEquity_9 (by decide) ?_
  refine lv_iconst (v := 0) hx hb dL_translatedEquity_15 (by decide) ?_
  exact W.iret hx hb hr (fun t ht hW => ⟨⟨_, (), rfl, rfl, (by rw [ht]; exact hP), va_K.moved hW.alike hK, hD⟩, hS.F ht⟩) hS.2.2 dL_translatedEquity_16

abbrev rmL_translatedEquity_bad : Room := ({ frames := 9, cells := 1, slots := 6, locals := 145 } : Room)
set_option maxHeartbeats 4000000 in
set_option maxRecDepth 100000 in
theorem c_L_translatedEquity_bad (ll : Launch) (hst : ll.stackTraces = false) (D : va_G) (a : Nat → Nat) (cI cJ : ClassId) (sz : Nat) (p : Nat → Int32) (nu de eq : Nat → Int64) (am nx oA oD oE oP cR aR hR cl ad gw pr : Nat → Int32) (n : Int32) (o0 : Nat) (ou : Nat → Int64) (x0 : Int32) (hbad : ¬ inB x0 0 5 = true) : Met ll yL_translatedEquity wsL_translatedEquity rmL_translatedEquity_bad (va_Pc [.ref (a 0), .int (x0), .ref (o0)] (PY D (tyG cI cJ) (GW a cI cJ p nu de eq am nx oA oD oE oP cR aR hR cl ad gw pr n ++ [(o0, eJ cJ 1 ou)]) sz)) (va_Qi (fun (rr : Int32) (u : Unit) => rr = 1) (fun (u : Unit) t => AW D (tyG cI cJ) (va_A (GW a cI cJ p nu de eq am nx oA oD oE oP cR aR hR cl ad gw pr n ++ [(o0, eJ cJ 1 ou)]) sz) (GW a cI cJ p nu de eq am nx oA oD oE oP cR aR hR cl ad gw pr n ++ [(o0, eJ cJ 1 ou)]) t) (va_A (GW a cI cJ p nu de eq am nx oA oD oE oP cR aR hR cl ad gw pr n ++ [(o0, eJ cJ 1 ou)]) sz)) 1 6 (va_A (GW a cI cJ p nu de eq am nx oA oD oE oP cR aR hR cl ad gw pr n ++ [(o0, eJ cJ 1 ou)]) sz) := by
  refine ofWC (cc := cL_translatedEquity) (maxL := 4) (ret := (some .int)) (hh := [(0, 9, 12, 13)]) (by decide) rfl ?_
  intro pp ee ss mm ar bel mth cde s₁ B hml htab hv
  obtain ⟨rfl, ⟨hsz, hP, hK, hD0, hE, hV⟩, hDC⟩ := hv
  have hx := B.exec
  have hb := B.bytes
  have hr := B.returns
  have hts := atoms_spec (ws := wsL_translatedEquity) B.pre
  have hown : ss.vm.findClass RL = some mm.cls := findClass_of_methodNamed B.named
  have hlocks := B.notSynchronized
  subst hsz
  have hD := hD0.self (sz := ss.heap.size)
  generalize hAe : va_A (GW a cI cJ p nu de eq am nx oA oD oE oP cR aR hR cl ad gw pr n ++ [(o0, eJ cJ 1 ou)]) ss.heap.size = A at hD hV ⊢
  have hA : ∀ q : Nat, ss.heap.size ≤ q → A q := fun q h => by rw [← hAe]; exact Or.inr h
  have hS : va_S A ss.heap ss.heap [] := va_S.rf
  have hl := lv_entry [.ref (a 0), .int (x0), .ref (o0)] (n := 4) (Nat.le_of_ble_eq_true rfl)
  rw [lg_entry_eq]
  generalize (lg_sl [.ref (a 0), .int (x0), .ref (o0)] ++ List.replicate (4 - (lg_sl [.ref (a 0), .int (x0), .ref (o0)]).length) Slot.unset).toArray = ls at hl ⊢
  have hl : lv_has ls 4 [(0, .ref (a 0)), (1, .int (x0)), (2, .ref (o0))] := hl
  refine lv_aload_n hx hb dL_translatedEquity_0 rfl (lv_at hl 2 rfl) ?_
  refine lv_iconst (v := 0) hx hb dL_translatedEquity_1 (by decide) ?_
  refine lv_aload_n hx hb dL_translatedEquity_2 rfl (lv_at hl 0 rfl) ?_
  refine lv_iload_n hx hb dL_translatedEquity_3 rfl (lv_at hl 1 rfl) ?_
  refine b_catch (wc := GW a cI cJ p nu de eq am nx oA oD oE oP cR aR hR cl ad gw pr n) (wr := [(o0, eJ cJ 1 ou)]) (S := Unit) (name := RIA) (E0 := RIA) hP hD hS hA (vx_runV (As := [.int (x0)]) (rest := [.int (0), .ref (o0)]) ⟨hx, hb, hml, hown, hts⟩ (c_X3_translatedEquity_bad ll hst D a cI cJ _ p nu de eq am nx oA oD oE oP cR aR hR cl ad gw pr n x0 hbad) (cwV 1 hts gL_translatedEquity_X3_translatedEquity rfl rfl rfl (by decide +kernel) ⟨Nat.le_of_ble_eq_true rfl, Nat.le_of_ble_eq_true rfl⟩) ⟨PY.blind, va_recv hK hP (ci := 3) (q0 := 0) rfl rfl, PY.go hP hK hD hE hV hDC hS hA⟩ rfl rfl hl.1 rfl (lv_room (Nat.le_of_ble_eq_true rfl)) dL_translatedEquity_4 ⟨Nat.le_of_ble_eq_true rfl, Nat.le_of_ble_eq_true rfl⟩) (fun v st t h => by obtain ⟨⟨_, _, _, h9, _⟩, _⟩ := h; exact h9) hown [] ⟨0, 9, 12, 13⟩ [] htab (fun z hz => by cases hz) (by decide) (by decide) (hts (.classLink RL 13 RIA) (by decide +kernel)) (va_Nw.use rfl hE.2.1) (fun u q9 H locs hP hD hS => ?_)
  refine lv_astore_n (lv' := [(3, .ref (q9)), (0, .ref (a 0)), (1, .int (x0)), (2, .ref (o0))]) hx hb dL_translatedEquity_12 rfl hl (by decide) rfl (fun ls hl => ?_)
  refine lv_iconst (v := 1) hx hb dL_translatedEquity_13 (by decide) ?_
  exact W.iret hx hb hr (fun t ht hW => ⟨⟨_, u, rfl, rfl, (by rw [ht]; exact hP), va_K.moved hW.alike hK, hD⟩, hS.F ht⟩) hS.2.2 dL_translatedEquity_14

abbrev rmL_translatedResult : Room := ({ frames := 4, cells := 0, slots := 0, locals := 85 } : Room)
set_option maxHeartbeats 4000000 in
set_option maxRecDepth 100000 in
theorem c_L_translatedResult (ll : Launch) (D : va_G) (a : Nat → Nat) (cI cJ : ClassId) (sz : Nat) (p : Nat → Int32) (nu de eq : Nat → Int64) (am nx oA oD oE oP cR aR hR cl ad gw pr : Nat → Int32) (n : Int32) (o0 : Nat) (ou : Nat → Int64) (c : Nat) (hc : c < 6) : Met ll yL_translatedResult wsL_translatedResult rmL_translatedResult (va_Pc [.ref (a 0), .int (nI (c)), .ref (o0)] (PY D (tyG cI cJ) (GW a cI cJ p nu de eq am nx oA oD oE oP cR aR hR cl ad gw pr n ++ [(o0, eJ cJ 1 ou)]) sz)) (va_Qi (fun (rr : Int32) (u : Unit) => rr = 0) (fun (u : Unit) t => AW D (tyG cI cJ) (va_A (GW a cI cJ p nu de eq am nx oA oD oE oP cR aR hR cl ad gw pr n ++ [(o0, eJ cJ 1 ou)]) sz) (GW a cI cJ p nu de eq am nx oA oD oE oP cR aR hR cl ad gw pr n ++ [(o0, eJ cJ 1 (vp_updL ou 0 (tr (oP c) (aR c)).toInt64))]) t) (va_A (GW a cI cJ p nu de eq am nx oA oD oE oP cR aR hR cl ad gw pr n ++ [(o0, eJ cJ 1 ou)]) sz)) 0 0 (va_A (GW a cI cJ p nu de eq am nx oA oD oE oP cR aR hR cl ad gw pr n ++ [(o0, eJ cJ 1 ou)]) sz) := by
  refine ofWC (cc := cL_translatedResult) (maxL := 4) (ret := (some .int)) (hh := [(0, 9, 12, 13)]) (by decide) rfl ?_
  intro pp ee ss mm ar bel mth cde s₁ B hml htab hv
  obtain ⟨rfl, ⟨hsz, hP, hK, hD0, hE, hV⟩, hDC⟩ := hv
  have hx := B.exec
  have hb := B.bytes
  have hr := B.returns
  have hts := atoms_spec (ws := wsL_translatedResult) B.pre
  have hown : ss.vm.findClass RL = some mm.cls := findClass_of_methodNamed B.named
  have hlocks := B.notSynchronized
  subst hsz
  have hD := hD0.self (sz := ss.heap.size)
  generalize hAe : va_A (GW a cI cJ p nu de eq am nx oA oD oE oP cR aR hR cl ad gw pr n ++ [(o0, eJ cJ 1 ou)]) ss.heap.size = A at hD hV ⊢
  have hA : ∀ q : Nat, ss.heap.size ≤ q → A q := fun q h => by rw [← hAe]; exact Or.inr h
  have hS : va_S A ss.heap ss.heap [] := va_S.rf
  have hl := lv_entry [.ref (a 0), .int (nI (c)), .ref (o0)] (n := 4) (Nat.le_of_ble_eq_true rfl)
  rw [lg_entry_eq]
  generalize (lg_sl [.ref (a 0), .int (nI (c)), .ref (o0)] ++ List.replicate (4 - (lg_sl [.ref (a 0), .int (nI (c)), .ref (o0)]).length) Slot.unset).toArray = ls at hl ⊢
  have hl : lv_has ls 4 [(0, .ref (a 0)), (1, .int (nI (c))), (2, .ref (o0))] := hl
  refine lv_aload_n hx hb dL_translatedResult_0 rfl (lv_at hl 2 rfl) ?_
  refine lv_iconst (v := 0) hx hb dL_translatedResult_1 (by decide) ?_
  refine lv_aload_n hx hb dL_translatedResult_2 rfl (lv_at hl 0 rfl) ?_
  refine lv_iload_n hx hb dL_translatedResult_3 rfl (lv_at hl 1 rfl) ?_
  refine b_csi (v := tr (oP c) (aR c)) (W.runV (As := [.int (nI (c))]) (rest := [.int (0), .ref (o0)]) ⟨hx, hb, hml, hown, hts⟩ (c_X3_translatedResult ll D a cI cJ p nu de eq am nx oA oD oE oP cR aR hR cl ad gw pr n c hc) (cwV 1 hts gL_translatedResult_X3_translatedResult rfl rfl rfl (by decide +kernel) ⟨Nat.le_of_ble_eq_true rfl, Nat.le_of_ble_eq_true rfl⟩) ⟨PR.blind, va_recv hK hP (ci := 3) (q0 := 0) rfl rfl, PR.goP (wr := [(o0, eJ cJ 1 ou)]) hP hK hE⟩ rfl rfl hl.1 rfl (lv_room (Nat.le_of_ble_eq_true rfl)) dL_translatedResult_4 ⟨Nat.le_of_ble_eq_true rfl, Nat.le_of_ble_eq_true rfl⟩) ?_
  refine lv_i2l (v := (tr (oP c) (aR c)).toInt64) hx hb dL_translatedResult_7 rfl ?_
  refine b_last (w' := GW a cI cJ p nu de eq am nx oA oD oE oP cR aR hR cl ad gw pr n ++ [(o0, eJ cJ 1 (vp_updL ou 0 (tr (oP c) (aR c)).toInt64))]) hx hb hK hP hD hS 21 1 (f := ou) rfl rfl (j := 0) (by omega) (by decide) rfl dL_translatedResult_8 (fun H locs hP hD hS => ?_)
  refine lv_goto (tgt := 15) hx hb dL_translatedResult_9 (by decide) ?_
  refine lv_iconst (v := 0) hx hb dL_translatedResult_15 (by decide) ?_
  exact W.iret hx hb hr (fun t ht hW => ⟨⟨_, (), rfl, rfl, (by rw [ht]; exact hP), va_K.moved hW.alike hK, hD⟩, hS.F ht⟩) hS.2.2 dL_translatedResult_16

abbrev rmL_translatedResult_bad : Room := ({ frames := 9, cells := 1, slots := 6, locals := 145 } : Room)
set_option maxHeartbeats 4000000 in
set_option maxRecDepth 100000 in
theorem c_L_translatedResult_bad (ll : Launch) (hst : ll.stackTraces = false) (D : va_G) (a : Nat → Nat) (cI cJ : ClassId) (sz : Nat) (p : Nat → Int32) (nu de eq : Nat → Int64) (am nx oA oD oE oP cR aR hR cl ad gw pr : Nat → Int32) (n : Int32) (o0 : Nat) (ou : Nat → Int64) (x0 : Int32) (hbad : ¬ inB x0 0 5 = true) : Met ll yL_translatedResult wsL_translatedResult rmL_translatedResult_bad (va_Pc [.ref (a 0), .int (x0), .ref (o0)] (PY D (tyG cI cJ) (GW a cI cJ p nu de eq am nx oA oD oE oP cR aR hR cl ad gw pr n ++ [(o0, eJ cJ 1 ou)]) sz)) (va_Qi (fun (rr : Int32) (u : Unit) => rr = 1) (fun (u : Unit) t => AW D (tyG cI cJ) (va_A (GW a cI cJ p nu de eq am nx oA oD oE oP cR aR hR cl ad gw pr n ++ [(o0, eJ cJ 1 ou)]) sz) (GW a cI cJ p nu de eq am nx oA oD oE oP cR aR hR cl ad gw pr n ++ [(o0, eJ cJ 1 ou)]) t) (va_A (GW a cI cJ p nu de eq am nx oA oD oE oP cR aR hR cl ad gw pr n ++ [(o0, eJ cJ 1 ou)]) sz)) 1 6 (va_A (GW a cI cJ p nu de eq am nx oA oD oE oP cR aR hR cl ad gw pr n ++ [(o0, eJ cJ 1 ou)]) sz) := by
  refine ofWC (cc := cL_translatedResult) (maxL := 4) (ret := (some .int)) (hh := [(0, 9, 12, 13)]) (by decide) rfl ?_
  intro pp ee ss mm ar bel mth cde s₁ B hml htab hv
  obtain ⟨rfl, ⟨hsz, hP, hK, hD0, hE, hV⟩, hDC⟩ := hv
  have hx := B.exec
  have hb := B.bytes
  have hr := B.returns
  have hts := atoms_spec (ws := wsL_translatedResult) B.pre
  have hown : ss.vm.findClass RL = some mm.cls := findClass_of_methodNamed B.named
  have hlocks := B.notSynchronized
  subst hsz
  have hD := hD0.self (sz := ss.heap.size)
  generalize hAe : va_A (GW a cI cJ p nu de eq am nx oA oD oE oP cR aR hR cl ad gw pr n ++ [(o0, eJ cJ 1 ou)]) ss.heap.size = A at hD hV ⊢
  have hA : ∀ q : Nat, ss.heap.size ≤ q → A q := fun q h => by rw [← hAe]; exact Or.inr h
  have hS : va_S A ss.heap ss.heap [] := va_S.rf
  have hl := lv_entry [.ref (a 0), .int (x0), .ref (o0)] (n := 4) (Nat.le_of_ble_eq_true rfl)
  rw [lg_entry_eq]
  generalize (lg_sl [.ref (a 0), .int (x0), .ref (o0)] ++ List.replicate (4 - (lg_sl [.ref (a 0), .int (x0), .ref (o0)]).length) Slot.unset).toArray = ls at hl ⊢
  have hl : lv_has ls 4 [(0, .ref (a 0)), (1, .int (x0)), (2, .ref (o0))] := hl
  refine lv_aload_n hx hb dL_translatedResult_0 rfl (lv_at hl 2 rfl) ?_
  refine lv_iconst (v := 0) hx hb dL_translatedResult_1 (by decide) ?_
  refine lv_aload_n hx hb dL_translatedResult_2 rfl (lv_at hl 0 rfl) ?_
  refine lv_iload_n hx hb dL_translatedResult_3 rfl (lv_at hl 1 rfl) ?_
  refine b_catch (wc := GW a cI cJ p nu de eq am nx oA oD oE oP cR aR hR cl ad gw pr n) (wr := [(o0, eJ cJ 1 ou)]) (S := Unit) (name := RIA) (E0 := RIA) hP hD hS hA (vx_runV (As := [.int (x0)]) (rest := [.int (0), .ref (o0)]) ⟨hx, hb, hml, hown, hts⟩ (c_X3_translatedResult_bad ll hst D a cI cJ _ p nu de eq am nx oA oD oE oP cR aR hR cl ad gw pr n x0 hbad) (cwV 1 hts gL_translatedResult_X3_translatedResult rfl rfl rfl (by decide +kernel) ⟨Nat.le_of_ble_eq_true rfl, Nat.le_of_ble_eq_true rfl⟩) ⟨PY.blind, va_recv hK hP (ci := 3) (q0 := 0) rfl rfl, PY.go hP hK hD hE hV hDC hS hA⟩ rfl rfl hl.1 rfl (lv_room (Nat.le_of_ble_eq_true rfl)) dL_translatedResult_4 ⟨Nat.le_of_ble_eq_true rfl, Nat.le_of_ble_eq_true rfl⟩) (fun v st t h => by obtain ⟨⟨_, _, _, h9, _⟩, _⟩ := h; exact h9) hown [] ⟨0, 9, 12, 13⟩ [] htab (fun z hz => by cases hz) (by decide) (by decide) (hts (.classLink RL 13 RIA) (by decide +kernel)) (va_Nw.use rfl hE.2.1) (fun u q9 H locs hP hD hS => ?_)
  refine lv_astore_n (lv' := [(3, .ref (q9)), (0, .ref (a 0)), (1, .int (x0)), (2, .ref (o0))]) hx hb dL_translatedResult_12 rfl hl (by decide) rfl (fun ls hl => ?_)
  refine lv_iconst (v := 1) hx hb dL_translatedResult_13 (by decide) ?_
  exact W.iret hx hb hr (fun t ht hW => ⟨⟨_, u, rfl, rfl, (by rw [ht]; exact hP), va_K.moved hW.alike hK, hD⟩, hS.F ht⟩) hS.2.2 dL_translatedResult_14

abbrev rmL_reserve : Room := ({ frames := 5, cells := 0, slots := 0, locals := 106 } : Room)
set_option maxHeartbeats 4000000 in
set_option maxRecDepth 100000 in
theorem c_L_reserve (ll : Launch) (D : va_G) (a : Nat → Nat) (cI cJ : ClassId) (sz : Nat) (p : Nat → Int32) (nu de eq : Nat → Int64) (am nx oA oD oE oP cR aR hR cl ad gw pr : Nat → Int32) (n : Int32) (o0 : Nat) (ou : Nat → Int64) (c : Nat) (hc : c < 6) : Met ll yL_reserve wsL_reserve rmL_reserve (va_Pc [.ref (a 0), .int (nI (c)), .ref (o0)] (PY D (tyG cI cJ) (GW a cI cJ p nu de eq am nx oA oD oE oP cR aR hR cl ad gw pr n ++ [(o0, eJ cJ 1 ou)]) sz)) (va_Qi (fun (rr : Int32) (u : Unit) => rr = 0) (fun (u : Unit) t => AW D (tyG cI cJ) (va_A (GW a cI cJ p nu de eq am nx oA oD oE oP cR aR hR cl ad gw pr n ++ [(o0, eJ cJ 1 ou)]) sz) (GW a cI cJ p nu de eq am nx oA oD oE oP cR aR hR cl ad gw pr n ++ [(o0, eJ cJ 1 (vp_updL ou 0 (tr (oA c) (cR c) - tr (oD c) (cR c) - tr (oE c) (hR c) - tr (oP c) (aR c)).toInt64))]) t) (va_A (GW a cI cJ p nu de eq am nx oA oD oE oP cR aR hR cl ad gw pr n ++ [(o0, eJ cJ 1 ou)]) sz)) 0 0 (va_A (GW a cI cJ p nu de eq am nx oA oD oE oP cR aR hR cl ad gw pr n ++ [(o0, eJ cJ 1 ou)]) sz) := by
  refine ofWC (cc := cL_reserve) (maxL := 4) (ret := (some .int)) (hh := [(0, 9, 12, 13)]) (by decide) rfl ?_
  intro pp ee ss mm ar bel mth cde s₁ B hml htab hv
  obtain ⟨rfl, ⟨hsz, hP, hK, hD0, hE, hV⟩, hDC⟩ := hv
  have hx := B.exec
  have hb := B.bytes
  have hr := B.returns
  have hts := atoms_spec (ws := wsL_reserve) B.pre
  have hown : ss.vm.findClass RL = some mm.cls := findClass_of_methodNamed B.named
  have hlocks := B.notSynchronized
  subst hsz
  have hD := hD0.self (sz := ss.heap.size)
  generalize hAe : va_A (GW a cI cJ p nu de eq am nx oA oD oE oP cR aR hR cl ad gw pr n ++ [(o0, eJ cJ 1 ou)]) ss.heap.size = A at hD hV ⊢
  have hA : ∀ q : Nat, ss.heap.size ≤ q → A q := fun q h => by rw [← hAe]; exact Or.inr h
  have hS : va_S A ss.heap ss.heap [] := va_S.rf
  have hl := lv_entry [.ref (a 0), .int (nI (c)), .ref (o0)] (n := 4) (Nat.le_of_ble_eq_true rfl)
  rw [lg_entry_eq]
  generalize (lg_sl [.ref (a 0), .int (nI (c)), .ref (o0)] ++ List.replicate (4 - (lg_sl [.ref (a 0), .int (nI (c)), .ref (o0)]).length) Slot.unset).toArray = ls at hl ⊢
  have hl : lv_has ls 4 [(0, .ref (a 0)), (1, .int (nI (c))), (2, .ref (o0))] := hl
  refine lv_aload_n hx hb dL_reserve_0 rfl (lv_at hl 2 rfl) ?_
  refine lv_iconst (v := 0) hx hb dL_reserve_1 (by decide) ?_
  refine lv_aload_n hx hb dL_reserve_2 rfl (lv_at hl 0 rfl) ?_
  refine lv_iload_n hx hb dL_reserve_3 rfl (lv_at hl 1 rfl) ?_
  refine b_csi (v := tr (oA c) (cR c) - tr (oD c) (cR c) - tr (oE c) (hR c) - tr (oP c) (aR c)) (W.runV (As := [.int (nI (c))]) (rest := [.int (0), .ref (o0)]) ⟨hx, hb, hml, hown, hts⟩ (c_X3_reserve ll D a cI cJ p nu de eq am nx oA oD oE oP cR aR hR cl ad gw pr n c hc) (cwV 1 hts gL_reserve_X3_reserve rfl rfl rfl (by decide +kernel) ⟨Nat.le_of_ble_eq_true rfl, Nat.le_of_ble_eq_true rfl⟩) ⟨PR.blind, va_recv hK hP (ci := 3) (q0 := 0) rfl rfl, PR.goP (wr := [(o0, eJ cJ 1 ou)]) hP hK hE⟩ rfl rfl hl.1 rfl (lv_room (Nat.le_of_ble_eq_true rfl)) dL_reserve_4 ⟨Nat.le_of_ble_eq_true rfl, Nat.le_of_ble_eq_true rfl⟩) ?_
  refine lv_i2l (v := (tr (oA c) (cR c) - tr (oD c) (cR c) - tr (oE c) (hR c) - tr (oP c) (aR c)).toInt64) hx hb dL_reserve_7 rfl ?_
  refine b_last (w' := GW a cI cJ p nu de eq am nx oA oD oE oP cR aR hR cl ad gw pr n ++ [(o0, eJ cJ 1 (vp_updL ou 0 (tr (oA c) (cR c) - tr (oD c) (cR c) - tr (oE c) (hR c) - tr (oP c) (aR c)).toInt64))]) hx hb hK hP hD hS 21 1 (f := ou) rfl rfl (j := 0) (by omega) (by decide) rfl dL_reserve_8 (fun H locs hP hD hS => ?_)
  refine lv_goto (tgt := 15) hx hb dL_reserve_9 (by decide) ?_
  refine lv_iconst (v := 0) hx hb dL_reserve_15 (by decide) ?_
  exact W.iret hx hb hr (fun t ht hW => ⟨⟨_, (), rfl, rfl, (by rw [ht]; exact hP), va_K.moved hW.alike hK, hD⟩, hS.F ht⟩) hS.2.2 dL_reserve_16

abbrev rmL_reserve_bad : Room := ({ frames := 9, cells := 1, slots := 6, locals := 145 } : Room)
set_option maxHeartbeats 4000000 in
set_option maxRecDepth 100000 in
theorem c_L_reserve_bad (ll : Launch) (hst : ll.stackTraces = false) (D : va_G) (a : Nat → Nat) (cI cJ : ClassId) (sz : Nat) (p : Nat → Int32) (nu de eq : Nat → Int64) (am nx oA oD oE oP cR aR hR cl ad gw pr : Nat → Int32) (n : Int32) (o0 : Nat) (ou : Nat → Int64) (x0 : Int32) (hbad : ¬ inB x0 0 5 = true) : Met ll yL_reserve wsL_reserve rmL_reserve_bad (va_Pc [.ref (a 0), .int (x0), .ref (o0)] (PY D (tyG cI cJ) (GW a cI cJ p nu de eq am nx oA oD oE oP cR aR hR cl ad gw pr n ++ [(o0, eJ cJ 1 ou)]) sz)) (va_Qi (fun (rr : Int32) (u : Unit) => rr = 1) (fun (u : Unit) t => AW D (tyG cI cJ) (va_A (GW a cI cJ p nu de eq am nx oA oD oE oP cR aR hR cl ad gw pr n ++ [(o0, eJ cJ 1 ou)]) sz) (GW a cI cJ p nu de eq am nx oA oD oE oP cR aR hR cl ad gw pr n ++ [(o0, eJ cJ 1 ou)]) t) (va_A (GW a cI cJ p nu de eq am nx oA oD oE oP cR aR hR cl ad gw pr n ++ [(o0, eJ cJ 1 ou)]) sz)) 1 6 (va_A (GW a cI cJ p nu de eq am nx oA oD oE oP cR aR hR cl ad gw pr n ++ [(o0, eJ cJ 1 ou)]) sz) := by
  refine ofWC (cc := cL_reserve) (maxL := 4) (ret := (some .int)) (hh := [(0, 9, 12, 13)]) (by decide) rfl ?_
  intro pp ee ss mm ar bel mth cde s₁ B hml htab hv
  obtain ⟨rfl, ⟨hsz, hP, hK, hD0, hE, hV⟩, hDC⟩ := hv
  have hx := B.exec
  have hb := B.bytes
  have hr := B.returns
  have hts := atoms_spec (ws := wsL_reserve) B.pre
  have hown : ss.vm.findClass RL = some mm.cls := findClass_of_methodNamed B.named
  have hlocks := B.notSynchronized
  subst hsz
  have hD := hD0.self (sz := ss.heap.size)
  generalize hAe : va_A (GW a cI cJ p nu de eq am nx oA oD oE oP cR aR hR cl ad gw pr n ++ [(o0, eJ cJ 1 ou)]) ss.heap.size = A at hD hV ⊢
  have hA : ∀ q : Nat, ss.heap.size ≤ q → A q := fun q h => by rw [← hAe]; exact Or.inr h
  have hS : va_S A ss.heap ss.heap [] := va_S.rf
  have hl := lv_entry [.ref (a 0), .int (x0), .ref (o0)] (n := 4) (Nat.le_of_ble_eq_true rfl)
  rw [lg_entry_eq]
  generalize (lg_sl [.ref (a 0), .int (x0), .ref (o0)] ++ List.replicate (4 - (lg_sl [.ref (a 0), .int (x0), .ref (o0)]).length) Slot.unset).toArray = ls at hl ⊢
  have hl : lv_has ls 4 [(0, .ref (a 0)), (1, .int (x0)), (2, .ref (o0))] := hl
  refine lv_aload_n hx hb dL_reserve_0 rfl (lv_at hl 2 rfl) ?_
  refine lv_iconst (v := 0) hx hb dL_reserve_1 (by decide) ?_
  refine lv_aload_n hx hb dL_reserve_2 rfl (lv_at hl 0 rfl) ?_
  refine lv_iload_n hx hb dL_reserve_3 rfl (lv_at hl 1 rfl) ?_
  refine b_catch (wc := GW a cI cJ p nu de eq am nx oA oD oE oP cR aR hR cl ad gw pr n) (wr := [(o0, eJ cJ 1 ou)]) (S := Unit) (name := RIA) (E0 := RIA) hP hD hS hA (vx_runV (As := [.int (x0)]) (rest := [.int (0), .ref (o0)]) ⟨hx, hb, hml, hown, hts⟩ (c_X3_reserve_bad ll hst D a cI cJ _ p nu de eq am nx oA oD oE oP cR aR hR cl ad gw pr n x0 hbad) (cwV 1 hts gL_reserve_X3_reserve rfl rfl rfl (by decide +kernel) ⟨Nat.le_of_ble_eq_true rfl, Nat.le_of_ble_eq_true rfl⟩) ⟨PY.blind, va_recv hK hP (ci := 3) (q0 := 0) rfl rfl, PY.go hP hK hD hE hV hDC hS hA⟩ rfl rfl hl.1 rfl (lv_room (Nat.le_of_ble_eq_true rfl)) dL_reserve_4 ⟨Nat.le_of_ble_eq_true rfl, Nat.le_of_ble_eq_true rfl⟩) (fun v st t h => by obtain ⟨⟨_, _, _, h9, _⟩, _⟩ := h; exact h9) hown [] ⟨0, 9, 12, 13⟩ [] htab (fun z hz => by cases hz) (by decide) (by decide) (hts (.classLink RL 13 RIA) (by decide +kernel)) (va_Nw.use rfl hE.2.1) (fun u q9 H locs hP hD hS => ?_)
  refine lv_astore_n (lv' := [(3, .ref (q9)), (0, .ref (a 0)), (1, .int (x0)), (2, .ref (o0))]) hx hb dL_reserve_12 rfl hl (by decide) rfl (fun ls hl => ?_)
  refine lv_iconst (v := 1) hx hb dL_reserve_13 (by decide) ?_
  exact W.iret hx hb hr (fun t ht hW => ⟨⟨_, u, rfl, rfl, (by rw [ht]; exact hP), va_K.moved hW.alike hK, hD⟩, hS.F ht⟩) hS.2.2 dL_reserve_14

abbrev rmL_claim : Room := ({ frames := 4, cells := 0, slots := 0, locals := 86 } : Room)
set_option maxHeartbeats 4000000 in
set_option maxRecDepth 100000 in
theorem c_L_claim (ll : Launch) (D : va_G) (a : Nat → Nat) (cI cJ : ClassId) (sz : Nat) (p : Nat → Int32) (nu de eq : Nat → Int64) (am nx oA oD oE oP cR aR hR cl ad gw pr : Nat → Int32) (n : Int32) (o0 : Nat) (ou : Nat → Int64) (o c : Nat) (x : Int32) (ho : o < 6) (hc : c < 6) (hpr : prB (nI o) (nI c) = true) (hqx : inB x 0 1000000 = true) : Met ll yL_claim wsL_claim rmL_claim (va_Pc [.ref (a 0), .int (nI (o)), .int (nI (c)), .int (x), .ref (o0)] (PY D (tyG cI cJ) (GW a cI cJ p nu de eq am nx oA oD oE oP cR aR hR cl ad gw pr n ++ [(o0, eJ cJ 1 ou)]) sz)) (va_Qi (fun (rr : Int32) (u : Unit) => rr = 0) (fun (u : Unit) t => AW D (tyG cI cJ) (va_A (GW a cI cJ p nu de eq am nx oA oD oE oP cR aR hR cl ad gw pr n ++ [(o0, eJ cJ 1 ou)]) sz) (GW a cI cJ p nu de eq am nx oA oD oE oP cR aR hR (upd cl (6 * o + c) x) ad gw pr n ++ [(o0, eJ cJ 1 (vp_updL ou 0 (cl (6 * o + c)).toInt64))]) t) (va_A (GW a cI cJ p nu de eq am nx oA oD oE oP cR aR hR cl ad gw pr n ++ [(o0, eJ cJ 1 ou)]) sz)) 0 0 (va_A (GW a cI cJ p nu de eq am nx oA oD oE oP cR aR hR cl ad gw pr n ++ [(o0, eJ cJ 1 ou)]) sz) := by
  refine ofWC (cc := cL_claim) (maxL := 6) (ret := (some .int)) (hh := [(0, 12, 15, 13)]) (by decide) rfl ?_
  intro pp ee ss mm ar bel mth cde s₁ B hml htab hv
  obtain ⟨rfl, ⟨hsz, hP, hK, hD0, hE, hV⟩, hDC⟩ := hv
  have hx := B.exec
  have hb := B.bytes
  have hr := B.returns
  have hts := atoms_spec (ws := wsL_claim) B.pre
  have hown : ss.vm.findClass RL = some mm.cls := findClass_of_methodNamed B.named
  have hlocks := B.notSynchronized
  subst hsz
  have hD := hD0.self (sz := ss.heap.size)
  generalize hAe : va_A (GW a cI cJ p nu de eq am nx oA oD oE oP cR aR hR cl ad gw pr n ++ [(o0, eJ cJ 1 ou)]) ss.heap.size = A at hD hV ⊢
  have hA : ∀ q : Nat, ss.heap.size ≤ q → A q := fun q h => by rw [← hAe]; exact Or.inr h
  have hS : va_S A ss.heap ss.heap [] := va_S.rf
  have hl := lv_entry [.ref (a 0), .int (nI (o)), .int (nI (c)), .int (x), .ref (o0)] (n := 6) (Nat.le_of_ble_eq_true rfl)
  rw [lg_entry_eq]
  generalize (lg_sl [.ref (a 0), .int (nI (o)), .int (nI (c)), .int (x), .ref (o0)] ++ List.replicate (6 - (lg_sl [.ref (a 0), .int (nI (o)), .int (nI (c)), .int (x), .ref (o0)]).length) Slot.unset).toArray = ls at hl ⊢
  have hl : lv_has ls 6 [(0, .ref (a 0)), (1, .int (nI (o))), (2, .int (nI (c))), (3, .int (x)), (4, .ref (o0))] := hl
  refine lv_aload hx hb dL_claim_0 (lv_at hl 4 rfl) ?_
  refine lv_iconst (v := 0) hx hb dL_claim_2 (by decide) ?_
  refine lv_aload_n hx hb dL_claim_3 rfl (lv_at hl 0 rfl) ?_
  refine lv_iload_n hx hb dL_claim_4 rfl (lv_at hl 1 rfl) ?_
  refine lv_iload_n hx hb dL_claim_5 rfl (lv_at hl 2 rfl) ?_
  refine lv_iload_n hx hb dL_claim_6 rfl (lv_at hl 3 rfl) ?_
  refine b_calliP (S := Unit) (wc := GW a cI cJ p nu de eq am nx oA oD oE oP cR aR hR cl ad gw pr n) (wr := [(o0, eJ cJ 1 ou)]) (w' := fun u => GW a cI cJ p nu de eq am nx oA oD oE oP cR aR hR (upd cl (6 * o + c) x) ad gw pr n) hP hD hS hA (va_runV (As := [.int (nI (o)), .int (nI (c)), .int (x)]) (rest := [.int (0), .ref (o0)]) ⟨hx, hb, hml, hown, hts⟩ (c_X3_claim ll D a cI cJ _ p nu de eq am nx oA oD oE oP cR aR hR cl ad gw pr n o c x ho hc hpr hqx) (cwV 3 hts gL_claim_X3_claim rfl rfl rfl (by decide +kernel) ⟨Nat.le_of_ble_eq_true rfl, Nat.le_of_ble_eq_true rfl⟩) ⟨PW.blind, va_recv hK hP (ci := 3) (q0 := 0) rfl rfl, PW.goP (wr := [(o0, eJ cJ 1 ou)]) hP hK hD hE⟩ rfl rfl hl.1 rfl (lv_room (Nat.le_of_ble_eq_true rfl)) dL_claim_7 ⟨Nat.le_of_ble_eq_true rfl, Nat.le_of_ble_eq_true rfl⟩) (fun r9 u H locs hu hP hD hS => ?_)
  obtain rfl : r9 = cl (6 * o + c) := hu
  refine lv_i2l (v := (cl (6 * o + c)).toInt64) hx hb dL_claim_10 rfl ?_
  refine b_last (w' := GW a cI cJ p nu de eq am nx oA oD oE oP cR aR hR (upd cl (6 * o + c) x) ad gw pr n ++ [(o0, eJ cJ 1 (vp_updL ou 0 (cl (6 * o + c)).toInt64))]) hx hb hK hP hD hS 21 1 (f := ou) rfl rfl (j := 0) (by omega) (by decide) rfl dL_claim_11 (fun H locs hP hD hS => ?_)
  refine lv_goto (tgt := 19) hx hb dL_claim_12 (by decide) ?_
  refine lv_iconst (v := 0) hx hb dL_claim_19 (by decide) ?_
  exact W.iret hx hb hr (fun t ht hW => ⟨⟨_, u, rfl, rfl, (by rw [ht]; exact hP), va_K.moved hW.alike hK, hD⟩, hS.F ht⟩) hS.2.2 dL_claim_20

abbrev rmL_claim_bad : Room := ({ frames := 10, cells := 1, slots := 6, locals := 168 } : Room)
set_option maxHeartbeats 4000000 in
set_option maxRecDepth 100000 in
theorem c_L_claim_bad (ll : Launch) (hst : ll.stackTraces = false) (D : va_G) (a : Nat → Nat) (cI cJ : ClassId) (sz : Nat) (p : Nat → Int32) (nu de eq : Nat → Int64) (am nx oA oD oE oP cR aR hR cl ad gw pr : Nat → Int32) (n : Int32) (o0 : Nat) (ou : Nat → Int64) (x0 x1 x : Int32) (hbad : ¬ (prB x0 x1 = true ∧ inB x 0 1000000 = true)) : Met ll yL_claim wsL_claim rmL_claim_bad (va_Pc [.ref (a 0), .int (x0), .int (x1), .int (x), .ref (o0)] (PY D (tyG cI cJ) (GW a cI cJ p nu de eq am nx oA oD oE oP cR aR hR cl ad gw pr n ++ [(o0, eJ cJ 1 ou)]) sz)) (va_Qi (fun (rr : Int32) (u : Unit) => rr = 1) (fun (u : Unit) t => AW D (tyG cI cJ) (va_A (GW a cI cJ p nu de eq am nx oA oD oE oP cR aR hR cl ad gw pr n ++ [(o0, eJ cJ 1 ou)]) sz) (GW a cI cJ p nu de eq am nx oA oD oE oP cR aR hR cl ad gw pr n ++ [(o0, eJ cJ 1 ou)]) t) (va_A (GW a cI cJ p nu de eq am nx oA oD oE oP cR aR hR cl ad gw pr n ++ [(o0, eJ cJ 1 ou)]) sz)) 1 6 (va_A (GW a cI cJ p nu de eq am nx oA oD oE oP cR aR hR cl ad gw pr n ++ [(o0, eJ cJ 1 ou)]) sz) := by
  refine ofWC (cc := cL_claim) (maxL := 6) (ret := (some .int)) (hh := [(0, 12, 15, 13)]) (by decide) rfl ?_
  intro pp ee ss mm ar bel mth cde s₁ B hml htab hv
  obtain ⟨rfl, ⟨hsz, hP, hK, hD0, hE, hV⟩, hDC⟩ := hv
  have hx := B.exec
  have hb := B.bytes
  have hr := B.returns
  have hts := atoms_spec (ws := wsL_claim) B.pre
  have hown : ss.vm.findClass RL = some mm.cls := findClass_of_methodNamed B.named
  have hlocks := B.notSynchronized
  subst hsz
  have hD := hD0.self (sz := ss.heap.size)
  generalize hAe : va_A (GW a cI cJ p nu de eq am nx oA oD oE oP cR aR hR cl ad gw pr n ++ [(o0, eJ cJ 1 ou)]) ss.heap.size = A at hD hV ⊢
  have hA : ∀ q : Nat, ss.heap.size ≤ q → A q := fun q h => by rw [← hAe]; exact Or.inr h
  have hS : va_S A ss.heap ss.heap [] := va_S.rf
  have hl := lv_entry [.ref (a 0), .int (x0), .int (x1), .int (x), .ref (o0)] (n := 6) (Nat.le_of_ble_eq_true rfl)
  rw [lg_entry_eq]
  generalize (lg_sl [.ref (a 0), .int (x0), .int (x1), .int (x), .ref (o0)] ++ List.replicate (6 - (lg_sl [.ref (a 0), .int (x0), .int (x1), .int (x), .ref (o0)]).length) Slot.unset).toArray = ls at hl ⊢
  have hl : lv_has ls 6 [(0, .ref (a 0)), (1, .int (x0)), (2, .int (x1)), (3, .int (x)), (4, .ref (o0))] := hl
  refine lv_aload hx hb dL_claim_0 (lv_at hl 4 rfl) ?_
  refine lv_iconst (v := 0) hx hb dL_claim_2 (by decide) ?_
  refine lv_aload_n hx hb dL_claim_3 rfl (lv_at hl 0 rfl) ?_
  refine lv_iload_n hx hb dL_claim_4 rfl (lv_at hl 1 rfl) ?_
  refine lv_iload_n hx hb dL_claim_5 rfl (lv_at hl 2 rfl) ?_
  refine lv_iload_n hx hb dL_claim_6 rfl (lv_at hl 3 rfl) ?_
  refine b_catch (wc := GW a cI cJ p nu de eq am nx oA oD oE oP cR aR hR cl ad gw pr n) (wr := [(o0, eJ cJ 1 ou)]) (S := Unit) (name := RIA) (E0 := RIA) hP hD hS hA (vx_runV (As := [.int (x0), .int (x1), .int (x)]) (rest := [.int (0), .ref (o0)]) ⟨hx, hb, hml, hown, hts⟩ (c_X3_claim_bad ll hst D a cI cJ _ p nu de eq am nx oA oD oE oP cR aR hR cl ad gw pr n x0 x1 x hbad) (cwV 3 hts gL_claim_X3_claim rfl rfl rfl (by decide +kernel) ⟨Nat.le_of_ble_eq_true rfl, Nat.le_of_ble_eq_true rfl⟩) ⟨PY.blind, va_recv hK hP (ci := 3) (q0 := 0) rfl rfl, PY.go hP hK hD hE hV hDC hS hA⟩ rfl rfl hl.1 rfl (lv_room (Nat.le_of_ble_eq_true rfl)) dL_claim_7 ⟨Nat.le_of_ble_eq_true rfl, Nat.le_of_ble_eq_true rfl⟩) (fun v st t h => by obtain ⟨⟨_, _, _, h9, _⟩, _⟩ := h; exact h9) hown [] ⟨0, 12, 15, 13⟩ [] htab (fun z hz => by cases hz) (by decide) (by decide) (hts (.classLink RL 13 RIA) (by decide +kernel)) (va_Nw.use rfl hE.2.1) (fun u q9 H locs hP hD hS => ?_)
  refine lv_astore (lv' := [(5, .ref (q9)), (0, .ref (a 0)), (1, .int (x0)), (2, .int (x1)), (3, .int (x)), (4, .ref (o0))]) hx hb dL_claim_15 hl (by decide) rfl (fun ls hl => ?_)
  refine lv_iconst (v := 1) hx hb dL_claim_17 (by decide) ?_
  exact W.iret hx hb hr (fun t ht hW => ⟨⟨_, u, rfl, rfl, (by rw [ht]; exact hP), va_K.moved hW.alike hK, hD⟩, hS.F ht⟩) hS.2.2 dL_claim_18

abbrev rmL_admit : Room := ({ frames := 4, cells := 0, slots := 0, locals := 86 } : Room)
set_option maxHeartbeats 4000000 in
set_option maxRecDepth 100000 in
theorem c_L_admit (ll : Launch) (D : va_G) (a : Nat → Nat) (cI cJ : ClassId) (sz : Nat) (p : Nat → Int32) (nu de eq : Nat → Int64) (am nx oA oD oE oP cR aR hR cl ad gw pr : Nat → Int32) (n : Int32) (o0 : Nat) (ou : Nat → Int64) (o c : Nat) (x : Int32) (ho : o < 6) (hc : c < 6) (hpr : prB (nI o) (nI c) = true) (hqx : inB x 0 1000000 = true) : Met ll yL_admit wsL_admit rmL_admit (va_Pc [.ref (a 0), .int (nI (o)), .int (nI (c)), .int (x), .ref (o0)] (PY D (tyG cI cJ) (GW a cI cJ p nu de eq am nx oA oD oE oP cR aR hR cl ad gw pr n ++ [(o0, eJ cJ 1 ou)]) sz)) (va_Qi (fun (rr : Int32) (u : Unit) => rr = 0) (fun (u : Unit) t => AW D (tyG cI cJ) (va_A (GW a cI cJ p nu de eq am nx oA oD oE oP cR aR hR cl ad gw pr n ++ [(o0, eJ cJ 1 ou)]) sz) (GW a cI cJ p nu de eq am nx oA oD oE oP cR aR hR cl (upd ad (6 * c + o) x) gw pr n ++ [(o0, eJ cJ 1 (vp_updL ou 0 (ad (6 * c + o)).toInt64))]) t) (va_A (GW a cI cJ p nu de eq am nx oA oD oE oP cR aR hR cl ad gw pr n ++ [(o0, eJ cJ 1 ou)]) sz)) 0 0 (va_A (GW a cI cJ p nu de eq am nx oA oD oE oP cR aR hR cl ad gw pr n ++ [(o0, eJ cJ 1 ou)]) sz) := by
  refine ofWC (cc := cL_admit) (maxL := 6) (ret := (some .int)) (hh := [(0, 12, 15, 13)]) (by decide) rfl ?_
  intro pp ee ss mm ar bel mth cde s₁ B hml htab hv
  obtain ⟨rfl, ⟨hsz, hP, hK, hD0, hE, hV⟩, hDC⟩ := hv
  have hx := B.exec
  have hb := B.bytes
  have hr := B.returns
  have hts := atoms_spec (ws := wsL_admit) B.pre
  have hown : ss.vm.findClass RL = some mm.cls := findClass_of_methodNamed B.named
  have hlocks := B.notSynchronized
  subst hsz
  have hD := hD0.self (sz := ss.heap.size)
  generalize hAe : va_A (GW a cI cJ p nu de eq am nx oA oD oE oP cR aR hR cl ad gw pr n ++ [(o0, eJ cJ 1 ou)]) ss.heap.size = A at hD hV ⊢
  have hA : ∀ q : Nat, ss.heap.size ≤ q → A q := fun q h => by rw [← hAe]; exact Or.inr h
  have hS : va_S A ss.heap ss.heap [] := va_S.rf
  have hl := lv_entry [.ref (a 0), .int (nI (o)), .int (nI (c)), .int (x), .ref (o0)] (n := 6) (Nat.le_of_ble_eq_true rfl)
  rw [lg_entry_eq]
  generalize (lg_sl [.ref (a 0), .int (nI (o)), .int (nI (c)), .int (x), .ref (o0)] ++ List.replicate (6 - (lg_sl [.ref (a 0), .int (nI (o)), .int (nI (c)), .int (x), .ref (o0)]).length) Slot.unset).toArray = ls at hl ⊢
  have hl : lv_has ls 6 [(0, .ref (a 0)), (1, .int (nI (o))), (2, .int (nI (c))), (3, .int (x)), (4, .ref (o0))] := hl
  refine lv_aload hx hb dL_admit_0 (lv_at hl 4 rfl) ?_
  refine lv_iconst (v := 0) hx hb dL_admit_2 (by decide) ?_
  refine lv_aload_n hx hb dL_admit_3 rfl (lv_at hl 0 rfl) ?_
  refine lv_iload_n hx hb dL_admit_4 rfl (lv_at hl 1 rfl) ?_
  refine lv_iload_n hx hb dL_admit_5 rfl (lv_at hl 2 rfl) ?_
  refine lv_iload_n hx hb dL_admit_6 rfl (lv_at hl 3 rfl) ?_
  refine b_calliP (S := Unit) (wc := GW a cI cJ p nu de eq am nx oA oD oE oP cR aR hR cl ad gw pr n) (wr := [(o0, eJ cJ 1 ou)]) (w' := fun u => GW a cI cJ p nu de eq am nx oA oD oE oP cR aR hR cl (upd ad (6 * c + o) x) gw pr n) hP hD hS hA (va_runV (As := [.int (nI (o)), .int (nI (c)), .int (x)]) (rest := [.int (0), .ref (o0)]) ⟨hx, hb, hml, hown, hts⟩ (c_X3_admit ll D a cI cJ _ p nu de eq am nx oA oD oE oP cR aR hR cl ad gw pr n o c x ho hc hpr hqx) (cwV 3 hts gL_admit_X3_admit rfl rfl rfl (by decide +kernel) ⟨Nat.le_of_ble_eq_true rfl, Nat.le_of_ble_eq_true rfl⟩) ⟨PW.blind, va_recv hK hP (ci := 3) (q0 := 0) rfl rfl, PW.goP (wr := [(o0, eJ cJ 1 ou)]) hP hK hD hE⟩ rfl rfl hl.1 rfl (lv_room (Nat.le_of_ble_eq_true rfl)) dL_admit_7 ⟨Nat.le_of_ble_eq_true rfl, Nat.le_of_ble_eq_true rfl⟩) (fun r9 u H locs hu hP hD hS => ?_)
  obtain rfl : r9 = ad (6 * c + o) := hu
  refine lv_i2l (v := (ad (6 * c + o)).toInt64) hx hb dL_admit_10 rfl ?_
  refine b_last (w' := GW a cI cJ p nu de eq am nx oA oD oE oP cR aR hR cl (upd ad (6 * c + o) x) gw pr n ++ [(o0, eJ cJ 1 (vp_updL ou 0 (ad (6 * c + o)).toInt64))]) hx hb hK hP hD hS 21 1 (f := ou) rfl rfl (j := 0) (by omega) (by decide) rfl dL_admit_11 (fun H locs hP hD hS => ?_)
  refine lv_goto (tgt := 19) hx hb dL_admit_12 (by decide) ?_
  refine lv_iconst (v := 0) hx hb dL_admit_19 (by decide) ?_
  exact W.iret hx hb hr (fun t ht hW => ⟨⟨_, u, rfl, rfl, (by rw [ht]; exact hP), va_K.moved hW.alike hK, hD⟩, hS.F ht⟩) hS.2.2 dL_admit_20

abbrev rmL_admit_bad : Room := ({ frames := 10, cells := 1, slots := 6, locals := 168 } : Room)
set_option maxHeartbeats 4000000 in
set_option maxRecDepth 100000 in
theorem c_L_admit_bad (ll : Launch) (hst : ll.stackTraces = false) (D : va_G) (a : Nat → Nat) (cI cJ : ClassId) (sz : Nat) (p : Nat → Int32) (nu de eq : Nat → Int64) (am nx oA oD oE oP cR aR hR cl ad gw pr : Nat → Int32) (n : Int32) (o0 : Nat) (ou : Nat → Int64) (x0 x1 x : Int32) (hbad : ¬ (prB x0 x1 = true ∧ inB x 0 1000000 = true)) : Met ll yL_admit wsL_admit rmL_admit_bad (va_Pc [.ref (a 0), .int (x0), .int (x1), .int (x), .ref (o0)] (PY D (tyG cI cJ) (GW a cI cJ p nu de eq am nx oA oD oE oP cR aR hR cl ad gw pr n ++ [(o0, eJ cJ 1 ou)]) sz)) (va_Qi (fun (rr : Int32) (u : Unit) => rr = 1) (fun (u : Unit) t => AW D (tyG cI cJ) (va_A (GW a cI cJ p nu de eq am nx oA oD oE oP cR aR hR cl ad gw pr n ++ [(o0, eJ cJ 1 ou)]) sz) (GW a cI cJ p nu de eq am nx oA oD oE oP cR aR hR cl ad gw pr n ++ [(o0, eJ cJ 1 ou)]) t) (va_A (GW a cI cJ p nu de eq am nx oA oD oE oP cR aR hR cl ad gw pr n ++ [(o0, eJ cJ 1 ou)]) sz)) 1 6 (va_A (GW a cI cJ p nu de eq am nx oA oD oE oP cR aR hR cl ad gw pr n ++ [(o0, eJ cJ 1 ou)]) sz) := by
  refine ofWC (cc := cL_admit) (maxL := 6) (ret := (some .int)) (hh := [(0, 12, 15, 13)]) (by decide) rfl ?_
  intro pp ee ss mm ar bel mth cde s₁ B hml htab hv
  obtain ⟨rfl, ⟨hsz, hP, hK, hD0, hE, hV⟩, hDC⟩ := hv
  have hx := B.exec
  have hb := B.bytes
  have hr := B.returns
  have hts := atoms_spec (ws := wsL_admit) B.pre
  have hown : ss.vm.findClass RL = some mm.cls := findClass_of_methodNamed B.named
  have hlocks := B.notSynchronized
  subst hsz
  have hD := hD0.self (sz := ss.heap.size)
  generalize hAe : va_A (GW a cI cJ p nu de eq am nx oA oD oE oP cR aR hR cl ad gw pr n ++ [(o0, eJ cJ 1 ou)]) ss.heap.size = A at hD hV ⊢
  have hA : ∀ q : Nat, ss.heap.size ≤ q → A q := fun q h => by rw [← hAe]; exact Or.inr h
  have hS : va_S A ss.heap ss.heap [] := va_S.rf
  have hl := lv_entry [.ref (a 0), .int (x0), .int (x1), .int (x), .ref (o0)] (n := 6) (Nat.le_of_ble_eq_true rfl)
  rw [lg_entry_eq]
  generalize (lg_sl [.ref (a 0), .int (x0), .int (x1), .int (x), .ref (o0)] ++ List.replicate (6 - (lg_sl [.ref (a 0), .int (x0), .int (x1), .int (x), .ref (o0)]).length) Slot.unset).toArray = ls at hl ⊢
  have hl : lv_has ls 6 [(0, .ref (a 0)), (1, .int (x0)), (2, .int (x1)), (3, .int (x)), (4, .ref (o0))] := hl
  refine lv_aload hx hb dL_admit_0 (lv_at hl 4 rfl) ?_
  refine lv_iconst (v := 0) hx hb dL_admit_2 (by decide) ?_
  refine lv_aload_n hx hb dL_admit_3 rfl (lv_at hl 0 rfl) ?_
  refine lv_iload_n hx hb dL_admit_4 rfl (lv_at hl 1 rfl) ?_
  refine lv_iload_n hx hb dL_admit_5 rfl (lv_at hl 2 rfl) ?_
  refine lv_iload_n hx hb dL_admit_6 rfl (lv_at hl 3 rfl) ?_
  refine b_catch (wc := GW a cI cJ p nu de eq am nx oA oD oE oP cR aR hR cl ad gw pr n) (wr := [(o0, eJ cJ 1 ou)]) (S := Unit) (name := RIA) (E0 := RIA) hP hD hS hA (vx_runV (As := [.int (x0), .int (x1), .int (x)]) (rest := [.int (0), .ref (o0)]) ⟨hx, hb, hml, hown, hts⟩ (c_X3_admit_bad ll hst D a cI cJ _ p nu de eq am nx oA oD oE oP cR aR hR cl ad gw pr n x0 x1 x hbad) (cwV 3 hts gL_admit_X3_admit rfl rfl rfl (by decide +kernel) ⟨Nat.le_of_ble_eq_true rfl, Nat.le_of_ble_eq_true rfl⟩) ⟨PY.blind, va_recv hK hP (ci := 3) (q0 := 0) rfl rfl, PY.go hP hK hD hE hV hDC hS hA⟩ rfl rfl hl.1 rfl (lv_room (Nat.le_of_ble_eq_true rfl)) dL_admit_7 ⟨Nat.le_of_ble_eq_true rfl, Nat.le_of_ble_eq_true rfl⟩) (fun v st t h => by obtain ⟨⟨_, _, _, h9, _⟩, _⟩ := h; exact h9) hown [] ⟨0, 12, 15, 13⟩ [] htab (fun z hz => by cases hz) (by decide) (by decide) (hts (.classLink RL 13 RIA) (by decide +kernel)) (va_Nw.use rfl hE.2.1) (fun u q9 H locs hP hD hS => ?_)
  refine lv_astore (lv' := [(5, .ref (q9)), (0, .ref (a 0)), (1, .int (x0)), (2, .int (x1)), (3, .int (x)), (4, .ref (o0))]) hx hb dL_admit_15 hl (by decide) rfl (fun ls hl => ?_)
  refine lv_iconst (v := 1) hx hb dL_admit_17 (by decide) ?_
  exact W.iret hx hb hr (fun t ht hW => ⟨⟨_, u, rfl, rfl, (by rw [ht]; exact hP), va_K.moved hW.alike hK, hD⟩, hS.F ht⟩) hS.2.2 dL_admit_18

abbrev rmL_difference : Room := ({ frames := 4, cells := 0, slots := 0, locals := 85 } : Room)
set_option maxHeartbeats 4000000 in
set_option maxRecDepth 100000 in
theorem c_L_difference (ll : Launch) (D : va_G) (a : Nat → Nat) (cI cJ : ClassId) (sz : Nat) (p : Nat → Int32) (nu de eq : Nat → Int64) (am nx oA oD oE oP cR aR hR cl ad gw pr : Nat → Int32) (n : Int32) (o0 : Nat) (ou : Nat → Int64) (o c : Nat) (ho : o < 6) (hc : c < 6) (hpr : prB (nI o) (nI c) = true) : Met ll yL_difference wsL_difference rmL_difference (va_Pc [.ref (a 0), .int (nI (o)), .int (nI (c)), .ref (o0)] (PY D (tyG cI cJ) (GW a cI cJ p nu de eq am nx oA oD oE oP cR aR hR cl ad gw pr n ++ [(o0, eJ cJ 1 ou)]) sz)) (va_Qi (fun (rr : Int32) (u : Unit) => rr = 0) (fun (u : Unit) t => AW D (tyG cI cJ) (va_A (GW a cI cJ p nu de eq am nx oA oD oE oP cR aR hR cl ad gw pr n ++ [(o0, eJ cJ 1 ou)]) sz) (GW a cI cJ p nu de eq am nx oA oD oE oP cR aR hR cl ad gw pr n ++ [(o0, eJ cJ 1 (vp_updL ou 0 (cl (6 * o + c) - ad (6 * o + c)).toInt64))]) t) (va_A (GW a cI cJ p nu de eq am nx oA oD oE oP cR aR hR cl ad gw pr n ++ [(o0, eJ cJ 1 ou)]) sz)) 0 0 (va_A (GW a cI cJ p nu de eq am nx oA oD oE oP cR aR hR cl ad gw pr n ++ [(o0, eJ cJ 1 ou)]) sz) := by
  refine ofWC (cc := cL_difference) (maxL := 5) (ret := (some .int)) (hh := [(0, 10, 13, 13)]) (by decide) rfl ?_
  intro pp ee ss mm ar bel mth cde s₁ B hml htab hv
  obtain ⟨rfl, ⟨hsz, hP, hK, hD0, hE, hV⟩, hDC⟩ := hv
  have hx := B.exec
  have hb := B.bytes
  have hr := B.returns
  have hts := atoms_spec (ws := wsL_difference) B.pre
  have hown : ss.vm.findClass RL = some mm.cls := findClass_of_methodNamed B.named
  have hlocks := B.notSynchronized
  subst hsz
  have hD := hD0.self (sz := ss.heap.size)
  generalize hAe : va_A (GW a cI cJ p nu de eq am nx oA oD oE oP cR aR hR cl ad gw pr n ++ [(o0, eJ cJ 1 ou)]) ss.heap.size = A at hD hV ⊢
  have hA : ∀ q : Nat, ss.heap.size ≤ q → A q := fun q h => by rw [← hAe]; exact Or.inr h
  have hS : va_S A ss.heap ss.heap [] := va_S.rf
  have hl := lv_entry [.ref (a 0), .int (nI (o)), .int (nI (c)), .ref (o0)] (n := 5) (Nat.le_of_ble_eq_true rfl)
  rw [lg_entry_eq]
  generalize (lg_sl [.ref (a 0), .int (nI (o)), .int (nI (c)), .ref (o0)] ++ List.replicate (5 - (lg_sl [.ref (a 0), .int (nI (o)), .int (nI (c)), .ref (o0)]).length) Slot.unset).toArray = ls at hl ⊢
  have hl : lv_has ls 5 [(0, .ref (a 0)), (1, .int (nI (o))), (2, .int (nI (c))), (3, .ref (o0))] := hl
  refine lv_aload_n hx hb dL_difference_0 rfl (lv_at hl 3 rfl) ?_
  refine lv_iconst (v := 0) hx hb dL_difference_1 (by decide) ?_
  refine lv_aload_n hx hb dL_difference_2 rfl (lv_at hl 0 rfl) ?_
  refine lv_iload_n hx hb dL_difference_3 rfl (lv_at hl 1 rfl) ?_
  refine lv_iload_n hx hb dL_difference_4 rfl (lv_at hl 2 rfl) ?_
  refine b_csi (v := cl (6 * o + c) - ad (6 * o + c)) (W.runV (As := [.int (nI (o)), .int (nI (c))]) (rest := [.int (0), .ref (o0)]) ⟨hx, hb, hml, hown, hts⟩ (c_X3_difference ll D a cI cJ p nu de eq am nx oA oD oE oP cR aR hR cl ad gw pr n o c ho hc hpr) (cwV 2 hts gL_difference_X3_difference rfl rfl rfl (by decide +kernel) ⟨Nat.le_of_ble_eq_true rfl, Nat.le_of_ble_eq_true rfl⟩) ⟨PR.blind, va_recv hK hP (ci := 3) (q0 := 0) rfl rfl, PR.goP (wr := [(o0, eJ cJ 1 ou)]) hP hK hE⟩ rfl rfl hl.1 rfl (lv_room (Nat.le_of_ble_eq_true rfl)) dL_difference_5 ⟨Nat.le_of_ble_eq_true rfl, Nat.le_of_ble_eq_true rfl⟩) ?_
  refine lv_i2l (v := (cl (6 * o + c) - ad (6 * o + c)).toInt64) hx hb dL_difference_8 rfl ?_
  refine b_last (w' := GW a cI cJ p nu de eq am nx oA oD oE oP cR aR hR cl ad gw pr n ++ [(o0, eJ cJ 1 (vp_updL ou 0 (cl (6 * o + c) - ad (6 * o + c)).toInt64))]) hx hb hK hP hD hS 21 1 (f := ou) rfl rfl (j := 0) (by omega) (by decide) rfl dL_difference_9 (fun H locs hP hD hS => ?_)
  refine lv_goto (tgt := 17) hx hb dL_difference_10 (by decide) ?_
  refine lv_iconst (v := 0) hx hb dL_difference_17 (by decide) ?_
  exact W.iret hx hb hr (fun t ht hW => ⟨⟨_, (), rfl, rfl, (by rw [ht]; exact hP), va_K.moved hW.alike hK, hD⟩, hS.F ht⟩) hS.2.2 dL_difference_18

abbrev rmL_difference_bad : Room := ({ frames := 10, cells := 1, slots := 6, locals := 167 } : Room)
set_option maxHeartbeats 4000000 in
set_option maxRecDepth 100000 in
theorem c_L_difference_bad (ll : Launch) (hst : ll.stackTraces = false) (D : va_G) (a : Nat → Nat) (cI cJ : ClassId) (sz : Nat) (p : Nat → Int32) (nu de eq : Nat → Int64) (am nx oA oD oE oP cR aR hR cl ad gw pr : Nat → Int32) (n : Int32) (o0 : Nat) (ou : Nat → Int64) (x0 x1 : Int32) (hbad : ¬ prB x0 x1 = true) : Met ll yL_difference wsL_difference rmL_difference_bad (va_Pc [.ref (a 0), .int (x0), .int (x1), .ref (o0)] (PY D (tyG cI cJ) (GW a cI cJ p nu de eq am nx oA oD oE oP cR aR hR cl ad gw pr n ++ [(o0, eJ cJ 1 ou)]) sz)) (va_Qi (fun (rr : Int32) (u : Unit) => rr = 1) (fun (u : Unit) t => AW D (tyG cI cJ) (va_A (GW a cI cJ p nu de eq am nx oA oD oE oP cR aR hR cl ad gw pr n ++ [(o0, eJ cJ 1 ou)]) sz) (GW a cI cJ p nu de eq am nx oA oD oE oP cR aR hR cl ad gw pr n ++ [(o0, eJ cJ 1 ou)]) t) (va_A (GW a cI cJ p nu de eq am nx oA oD oE oP cR aR hR cl ad gw pr n ++ [(o0, eJ cJ 1 ou)]) sz)) 1 6 (va_A (GW a cI cJ p nu de eq am nx oA oD oE oP cR aR hR cl ad gw pr n ++ [(o0, eJ cJ 1 ou)]) sz) := by
  refine ofWC (cc := cL_difference) (maxL := 5) (ret := (some .int)) (hh := [(0, 10, 13, 13)]) (by decide) rfl ?_
  intro pp ee ss mm ar bel mth cde s₁ B hml htab hv
  obtain ⟨rfl, ⟨hsz, hP, hK, hD0, hE, hV⟩, hDC⟩ := hv
  have hx := B.exec
  have hb := B.bytes
  have hr := B.returns
  have hts := atoms_spec (ws := wsL_difference) B.pre
  have hown : ss.vm.findClass RL = some mm.cls := findClass_of_methodNamed B.named
  have hlocks := B.notSynchronized
  subst hsz
  have hD := hD0.self (sz := ss.heap.size)
  generalize hAe : va_A (GW a cI cJ p nu de eq am nx oA oD oE oP cR aR hR cl ad gw pr n ++ [(o0, eJ cJ 1 ou)]) ss.heap.size = A at hD hV ⊢
  have hA : ∀ q : Nat, ss.heap.size ≤ q → A q := fun q h => by rw [← hAe]; exact Or.inr h
  have hS : va_S A ss.heap ss.heap [] := va_S.rf
  have hl := lv_entry [.ref (a 0), .int (x0), .int (x1), .ref (o0)] (n := 5) (Nat.le_of_ble_eq_true rfl)
  rw [lg_entry_eq]
  generalize (lg_sl [.ref (a 0), .int (x0), .int (x1), .ref (o0)] ++ List.replicate (5 - (lg_sl [.ref (a 0), .int (x0), .int (x1), .ref (o0)]).length) Slot.unset).toArray = ls at hl ⊢
  have hl : lv_has ls 5 [(0, .ref (a 0)), (1, .int (x0)), (2, .int (x1)), (3, .ref (o0))] := hl
  refine lv_aload_n hx hb dL_difference_0 rfl (lv_at hl 3 rfl) ?_
  refine lv_iconst (v := 0) hx hb dL_difference_1 (by decide) ?_
  refine lv_aload_n hx hb dL_difference_2 rfl (lv_at hl 0 rfl) ?_
  refine lv_iload_n hx hb dL_difference_3 rfl (lv_at hl 1 rfl) ?_
  refine lv_iload_n hx hb dL_difference_4 rfl (lv_at hl 2 rfl) ?_
  refine b_catch (wc := GW a cI cJ p nu de eq am nx oA oD oE oP cR aR hR cl ad gw pr n) (wr := [(o0, eJ cJ 1 ou)]) (S := Unit) (name := RIA) (E0 := RIA) hP hD hS hA (vx_runV (As := [.int (x0), .int (x1)]) (rest := [.int (0), .ref (o0)]) ⟨hx, hb, hml, hown, hts⟩ (c_X3_difference_bad ll hst D a cI cJ _ p nu de eq am nx oA oD oE oP cR aR hR cl ad gw pr n x0 x1 hbad) (cwV 2 hts gL_difference_X3_difference rfl rfl rfl (by decide +kernel) ⟨Nat.le_of_ble_eq_true rfl, Nat.le_of_ble_eq_true rfl⟩) ⟨PY.blind, va_recv hK hP (ci := 3) (q0 := 0) rfl rfl, PY.go hP hK hD hE hV hDC hS hA⟩ rfl rfl hl.1 rfl (lv_room (Nat.le_of_ble_eq_true rfl)) dL_difference_5 ⟨Nat.le_of_ble_eq_true rfl, Nat.le_of_ble_eq_true rfl⟩) (fun v st t h => by obtain ⟨⟨_, _, _, h9, _⟩, _⟩ := h; exact h9) hown [] ⟨0, 10, 13, 13⟩ [] htab (fun z hz => by cases hz) (by decide) (by decide) (hts (.classLink RL 13 RIA) (by decide +kernel)) (va_Nw.use rfl hE.2.1) (fun u q9 H locs hP hD hS => ?_)
  refine lv_astore (lv' := [(4, .ref (q9)), (0, .ref (a 0)), (1, .int (x0)), (2, .int (x1)), (3, .ref (o0))]) hx hb dL_difference_13 hl (by decide) rfl (fun ls hl => ?_)
  refine lv_iconst (v := 1) hx hb dL_difference_15 (by decide) ?_
  exact W.iret hx hb hr (fun t ht hW => ⟨⟨_, u, rfl, rfl, (by rw [ht]; exact hP), va_K.moved hW.alike hK, hD⟩, hS.F ht⟩) hS.2.2 dL_difference_16

abbrev rmL_minority : Room := ({ frames := 6, cells := 0, slots := 0, locals := 128 } : Room)
set_option maxHeartbeats 4000000 in
set_option maxRecDepth 100000 in
theorem c_L_minority (ll : Launch) (D : va_G) (a : Nat → Nat) (cI cJ : ClassId) (sz : Nat) (p : Nat → Int32) (nu de eq : Nat → Int64) (am nx oA oD oE oP cR aR hR cl ad gw pr : Nat → Int32) (n : Int32) (o0 : Nat) (ou : Nat → Int64) (c : Nat) (hc : c < 6) : Met ll yL_minority wsL_minority rmL_minority (va_Pc [.ref (a 0), .int (nI (c)), .ref (o0)] (PY D (tyG cI cJ) (GW a cI cJ p nu de eq am nx oA oD oE oP cR aR hR cl ad gw pr n ++ [(o0, eJ cJ 1 ou)]) sz)) (va_Qi (fun (rr : Int32) (u : Unit) => rr = 0) (fun (u : Unit) t => AW D (tyG cI cJ) (va_A (GW a cI cJ p nu de eq am nx oA oD oE oP cR aR hR cl ad gw pr n ++ [(o0, eJ cJ 1 ou)]) sz) (GW a cI cJ p nu de eq am nx oA oD oE oP cR aR hR cl ad gw pr n ++ [(o0, eJ cJ 1 (vp_updL ou 0 (mAm oA oD cR nu de (mem p 5) c).toInt64))]) t) (va_A (GW a cI cJ p nu de eq am nx oA oD oE oP cR aR hR cl ad gw pr n ++ [(o0, eJ cJ 1 ou)]) sz)) 0 0 (va_A (GW a cI cJ p nu de eq am nx oA oD oE oP cR aR hR cl ad gw pr n ++ [(o0, eJ cJ 1 ou)]) sz) := by
  refine ofWC (cc := cL_minority) (maxL := 4) (ret := (some .int)) (hh := [(0, 9, 12, 13)]) (by decide) rfl ?_
  intro pp ee ss mm ar bel mth cde s₁ B hml htab hv
  obtain ⟨rfl, ⟨hsz, hP, hK, hD0, hE, hV⟩, hDC⟩ := hv
  have hx := B.exec
  have hb := B.bytes
  have hr := B.returns
  have hts := atoms_spec (ws := wsL_minority) B.pre
  have hown : ss.vm.findClass RL = some mm.cls := findClass_of_methodNamed B.named
  have hlocks := B.notSynchronized
  subst hsz
  have hD := hD0.self (sz := ss.heap.size)
  generalize hAe : va_A (GW a cI cJ p nu de eq am nx oA oD oE oP cR aR hR cl ad gw pr n ++ [(o0, eJ cJ 1 ou)]) ss.heap.size = A at hD hV ⊢
  have hA : ∀ q : Nat, ss.heap.size ≤ q → A q := fun q h => by rw [← hAe]; exact Or.inr h
  have hS : va_S A ss.heap ss.heap [] := va_S.rf
  have hl := lv_entry [.ref (a 0), .int (nI (c)), .ref (o0)] (n := 4) (Nat.le_of_ble_eq_true rfl)
  rw [lg_entry_eq]
  generalize (lg_sl [.ref (a 0), .int (nI (c)), .ref (o0)] ++ List.replicate (4 - (lg_sl [.ref (a 0), .int (nI (c)), .ref (o0)]).length) Slot.unset).toArray = ls at hl ⊢
  have hl : lv_has ls 4 [(0, .ref (a 0)), (1, .int (nI (c))), (2, .ref (o0))] := hl
  refine lv_aload_n hx hb dL_minority_0 rfl (lv_at hl 2 rfl) ?_
  refine lv_iconst (v := 0) hx hb dL_minority_1 (by decide) ?_
  refine lv_aload_n hx hb dL_minority_2 rfl (lv_at hl 0 rfl) ?_
  refine lv_iload_n hx hb dL_minority_3 rfl (lv_at hl 1 rfl) ?_
  refine b_csi (v := mAm oA oD cR nu de (mem p 5) c) (W.runV (As := [.int (nI (c))]) (rest := [.int (0), .ref (o0)]) ⟨hx, hb, hml, hown, hts⟩ (c_X3_minority ll D a cI cJ p nu de eq am nx oA oD oE oP cR aR hR cl ad gw pr n c hc) (cwV 1 hts gL_minority_X3_minority rfl rfl rfl (by decide +kernel) ⟨Nat.le_of_ble_eq_true rfl, Nat.le_of_ble_eq_true rfl⟩) ⟨PR.blind, va_recv hK hP (ci := 3) (q0 := 0) rfl rfl, PR.goP (wr := [(o0, eJ cJ 1 ou)]) hP hK hE⟩ rfl rfl hl.1 rfl (lv_room (Nat.le_of_ble_eq_true rfl)) dL_minority_4 ⟨Nat.le_of_ble_eq_true rfl, Nat.le_of_ble_eq_true rfl⟩) ?_
  refine lv_i2l (v := (mAm oA oD cR nu de (mem p 5) c).toInt64) hx hb dL_minority_7 rfl ?_
  refine b_last (w' := GW a cI cJ p nu de eq am nx oA oD oE oP cR aR hR cl ad gw pr n ++ [(o0, eJ cJ 1 (vp_updL ou 0 (mAm oA oD cR nu de (mem p 5) c).toInt64))]) hx hb hK hP hD hS 21 1 (f := ou) rfl rfl (j := 0) (by omega) (by decide) rfl dL_minority_8 (fun H locs hP hD hS => ?_)
  refine lv_goto (tgt := 15) hx hb dL_minority_9 (by decide) ?_
  refine lv_iconst (v := 0) hx hb dL_minority_15 (by decide) ?_
  exact W.iret hx hb hr (fun t ht hW => ⟨⟨_, (), rfl, rfl, (by rw [ht]; exact hP), va_K.moved hW.alike hK, hD⟩, hS.F ht⟩) hS.2.2 dL_minority_16

abbrev rmL_minority_bad : Room := ({ frames := 9, cells := 1, slots := 6, locals := 145 } : Room)
set_option maxHeartbeats 4000000 in
set_option maxRecDepth 100000 in
theorem c_L_minority_bad (ll : Launch) (hst : ll.stackTraces = false) (D : va_G) (a : Nat → Nat) (cI cJ : ClassId) (sz : Nat) (p : Nat → Int32) (nu de eq : Nat → Int64) (am nx oA oD oE oP cR aR hR cl ad gw pr : Nat → Int32) (n : Int32) (o0 : Nat) (ou : Nat → Int64) (x0 : Int32) (hbad : ¬ inB x0 0 5 = true) : Met ll yL_minority wsL_minority rmL_minority_bad (va_Pc [.ref (a 0), .int (x0), .ref (o0)] (PY D (tyG cI cJ) (GW a cI cJ p nu de eq am nx oA oD oE oP cR aR hR cl ad gw pr n ++ [(o0, eJ cJ 1 ou)]) sz)) (va_Qi (fun (rr : Int32) (u : Unit) => rr = 1) (fun (u : Unit) t => AW D (tyG cI cJ) (va_A (GW a cI cJ p nu de eq am nx oA oD oE oP cR aR hR cl ad gw pr n ++ [(o0, eJ cJ 1 ou)]) sz) (GW a cI cJ p nu de eq am nx oA oD oE oP cR aR hR cl ad gw pr n ++ [(o0, eJ cJ 1 ou)]) t) (va_A (GW a cI cJ p nu de eq am nx oA oD oE oP cR aR hR cl ad gw pr n ++ [(o0, eJ cJ 1 ou)]) sz)) 1 6 (va_A (GW a cI cJ p nu de eq am nx oA oD oE oP cR aR hR cl ad gw pr n ++ [(o0, eJ cJ 1 ou)]) sz) := by
  refine ofWC (cc := cL_minority) (maxL := 4) (ret := (some .int)) (hh := [(0, 9, 12, 13)]) (by decide) rfl ?_
  intro pp ee ss mm ar bel mth cde s₁ B hml htab hv
  obtain ⟨rfl, ⟨hsz, hP, hK, hD0, hE, hV⟩, hDC⟩ := hv
  have hx := B.exec
  have hb := B.bytes
  have hr := B.returns
  have hts := atoms_spec (ws := wsL_minority) B.pre
  have hown : ss.vm.findClass RL = some mm.cls := findClass_of_methodNamed B.named
  have hlocks := B.notSynchronized
  subst hsz
  have hD := hD0.self (sz := ss.heap.size)
  generalize hAe : va_A (GW a cI cJ p nu de eq am nx oA oD oE oP cR aR hR cl ad gw pr n ++ [(o0, eJ cJ 1 ou)]) ss.heap.size = A at hD hV ⊢
  have hA : ∀ q : Nat, ss.heap.size ≤ q → A q := fun q h => by rw [← hAe]; exact Or.inr h
  have hS : va_S A ss.heap ss.heap [] := va_S.rf
  have hl := lv_entry [.ref (a 0), .int (x0), .ref (o0)] (n := 4) (Nat.le_of_ble_eq_true rfl)
  rw [lg_entry_eq]
  generalize (lg_sl [.ref (a 0), .int (x0), .ref (o0)] ++ List.replicate (4 - (lg_sl [.ref (a 0), .int (x0), .ref (o0)]).length) Slot.unset).toArray = ls at hl ⊢
  have hl : lv_has ls 4 [(0, .ref (a 0)), (1, .int (x0)), (2, .ref (o0))] := hl
  refine lv_aload_n hx hb dL_minority_0 rfl (lv_at hl 2 rfl) ?_
  refine lv_iconst (v := 0) hx hb dL_minority_1 (by decide) ?_
  refine lv_aload_n hx hb dL_minority_2 rfl (lv_at hl 0 rfl) ?_
  refine lv_iload_n hx hb dL_minority_3 rfl (lv_at hl 1 rfl) ?_
  refine b_catch (wc := GW a cI cJ p nu de eq am nx oA oD oE oP cR aR hR cl ad gw pr n) (wr := [(o0, eJ cJ 1 ou)]) (S := Unit) (name := RIA) (E0 := RIA) hP hD hS hA (vx_runV (As := [.int (x0)]) (rest := [.int (0), .ref (o0)]) ⟨hx, hb, hml, hown, hts⟩ (c_X3_minority_bad ll hst D a cI cJ _ p nu de eq am nx oA oD oE oP cR aR hR cl ad gw pr n x0 hbad) (cwV 1 hts gL_minority_X3_minority rfl rfl rfl (by decide +kernel) ⟨Nat.le_of_ble_eq_true rfl, Nat.le_of_ble_eq_true rfl⟩) ⟨PY.blind, va_recv hK hP (ci := 3) (q0 := 0) rfl rfl, PY.go hP hK hD hE hV hDC hS hA⟩ rfl rfl hl.1 rfl (lv_room (Nat.le_of_ble_eq_true rfl)) dL_minority_4 ⟨Nat.le_of_ble_eq_true rfl, Nat.le_of_ble_eq_true rfl⟩) (fun v st t h => by obtain ⟨⟨_, _, _, h9, _⟩, _⟩ := h; exact h9) hown [] ⟨0, 9, 12, 13⟩ [] htab (fun z hz => by cases hz) (by decide) (by decide) (hts (.classLink RL 13 RIA) (by decide +kernel)) (va_Nw.use rfl hE.2.1) (fun u q9 H locs hP hD hS => ?_)
  refine lv_astore_n (lv' := [(3, .ref (q9)), (0, .ref (a 0)), (1, .int (x0)), (2, .ref (o0))]) hx hb dL_minority_12 rfl hl (by decide) rfl (fun ls hl => ?_)
  refine lv_iconst (v := 1) hx hb dL_minority_13 (by decide) ?_
  exact W.iret hx hb hr (fun t ht hW => ⟨⟨_, u, rfl, rfl, (by rw [ht]; exact hP), va_K.moved hW.alike hK, hD⟩, hS.F ht⟩) hS.2.2 dL_minority_14

abbrev rmL_close : Room := ({ frames := 6, cells := 0, slots := 0, locals := 134 } : Room)
set_option maxHeartbeats 4000000 in
set_option maxRecDepth 100000 in
theorem c_L_close (ll : Launch) (D : va_G) (a : Nat → Nat) (cI cJ : ClassId) (sz : Nat) (p : Nat → Int32) (nu de eq : Nat → Int64) (am nx oA oD oE oP cR aR hR cl ad gw pr : Nat → Int32) (n : Int32) (o0 : Nat) (ou : Nat → Int64) (z : Nat) (hz : z < 12) : Met ll yL_close wsL_close rmL_close (va_Pc [.ref (a 0), .ref (o0)] (PY D (tyG cI cJ) (GW a cI cJ p nu de eq am nx oA oD oE oP cR aR hR cl ad gw pr (nI (z)) ++ [(o0, eJ cJ 1 ou)]) sz)) (va_Qi (fun (rr : Int32) (u : Unit) => rr = 0) (fun (u : Unit) t => AW D (tyG cI cJ) (va_A (GW a cI cJ p nu de eq am nx oA oD oE oP cR aR hR cl ad gw pr (nI (z)) ++ [(o0, eJ cJ 1 ou)]) sz) (GW a cI cJ p nu de eq am nx oA oD (cE oE oP 6) (cP oP 6) cR aR hR cl ad gw (upd pr z (crS oP aR nu de (mem p 5) 6)) (nI (z + 1)) ++ [(o0, eJ cJ 1 (vp_updL ou 0 (crS oP aR nu de (mem p 5) 6).toInt64))]) t) (va_A (GW a cI cJ p nu de eq am nx oA oD oE oP cR aR hR cl ad gw pr (nI (z)) ++ [(o0, eJ cJ 1 ou)]) sz)) 0 0 (va_A (GW a cI cJ p nu de eq am nx oA oD oE oP cR aR hR cl ad gw pr (nI (z)) ++ [(o0, eJ cJ 1 ou)]) sz) := by
  refine ofWC (cc := cL_close) (maxL := 3) (ret := (some .int)) (hh := [(0, 8, 11, 15)]) (by decide) rfl ?_
  intro pp ee ss mm ar bel mth cde s₁ B hml htab hv
  obtain ⟨rfl, ⟨hsz, hP, hK, hD0, hE, hV⟩, hDC⟩ := hv
  have hx := B.exec
  have hb := B.bytes
  have hr := B.returns
  have hts := atoms_spec (ws := wsL_close) B.pre
  have hown : ss.vm.findClass RL = some mm.cls := findClass_of_methodNamed B.named
  have hlocks := B.notSynchronized
  subst hsz
  have hD := hD0.self (sz := ss.heap.size)
  generalize hAe : va_A (GW a cI cJ p nu de eq am nx oA oD oE oP cR aR hR cl ad gw pr (nI (z)) ++ [(o0, eJ cJ 1 ou)]) ss.heap.size = A at hD hV ⊢
  have hA : ∀ q : Nat, ss.heap.size ≤ q → A q := fun q h => by rw [← hAe]; exact Or.inr h
  have hS : va_S A ss.heap ss.heap [] := va_S.rf
  have hl := lv_entry [.ref (a 0), .ref (o0)] (n := 3) (Nat.le_of_ble_eq_true rfl)
  rw [lg_entry_eq]
  generalize (lg_sl [.ref (a 0), .ref (o0)] ++ List.replicate (3 - (lg_sl [.ref (a 0), .ref (o0)]).length) Slot.unset).toArray = ls at hl ⊢
  have hl : lv_has ls 3 [(0, .ref (a 0)), (1, .ref (o0))] := hl
  refine lv_aload_n hx hb dL_close_0 rfl (lv_at hl 1 rfl) ?_
  refine lv_iconst (v := 0) hx hb dL_close_1 (by decide) ?_
  refine lv_aload_n hx hb dL_close_2 rfl (lv_at hl 0 rfl) ?_
  refine b_calliP (S := Unit) (wc := GW a cI cJ p nu de eq am nx oA oD oE oP cR aR hR cl ad gw pr (nI (z))) (wr := [(o0, eJ cJ 1 ou)]) (w' := fun u => GW a cI cJ p nu de eq am nx oA oD (cE oE oP 6) (cP oP 6) cR aR hR cl ad gw (upd pr z (crS oP aR nu de (mem p 5) 6)) (nI (z + 1))) hP hD hS hA (va_runV (As := []) (rest := [.int (0), .ref (o0)]) ⟨hx, hb, hml, hown, hts⟩ (c_X3_close ll D a cI cJ _ p nu de eq am nx oA oD oE oP cR aR hR cl ad gw pr (nI (z)) z hz) (cwV 0 hts gL_close_X3_close rfl rfl rfl (by decide +kernel) ⟨Nat.le_of_ble_eq_true rfl, Nat.le_of_ble_eq_true rfl⟩) ⟨PW.blind, va_recv hK hP (ci := 3) (q0 := 0) rfl rfl, PW.goP (wr := [(o0, eJ cJ 1 ou)]) hP hK hD hE⟩ rfl rfl hl.1 rfl (lv_room (Nat.le_of_ble_eq_true rfl)) dL_close_3 ⟨Nat.le_of_ble_eq_true rfl, Nat.le_of_ble_eq_true rfl⟩) (fun r9 u H locs hu hP hD hS => ?_)
  obtain rfl : r9 = crS oP aR nu de (mem p 5) 6 := hu
  refine lv_i2l (v := (crS oP aR nu de (mem p 5) 6).toInt64) hx hb dL_close_6 rfl ?_
  refine b_last (w' := GW a cI cJ p nu de eq am nx oA oD (cE oE oP 6) (cP oP 6) cR aR hR cl ad gw (upd pr z (crS oP aR nu de (mem p 5) 6)) (nI (z + 1)) ++ [(o0, eJ cJ 1 (vp_updL ou 0 (crS oP aR nu de (mem p 5) 6).toInt64))]) hx hb hK hP hD hS 21 1 (f := ou) rfl rfl (j := 0) (by omega) (by decide) rfl dL_close_7 (fun H locs hP hD hS => ?_)
  refine lv_goto (tgt := 14) hx hb dL_close_8 (by decide) ?_
  refine lv_iconst (v := 0) hx hb dL_close_14 (by decide) ?_
  exact W.iret hx hb hr (fun t ht hW => ⟨⟨_, u, rfl, rfl, (by rw [ht]; exact hP), va_K.moved hW.alike hK, hD⟩, hS.F ht⟩) hS.2.2 dL_close_15

abbrev rmL_close_bad : Room := ({ frames := 7, cells := 1, slots := 6, locals := 103 } : Room)
set_option maxHeartbeats 4000000 in
set_option maxRecDepth 100000 in
theorem c_L_close_bad (ll : Launch) (hst : ll.stackTraces = false) (D : va_G) (a : Nat → Nat) (cI cJ : ClassId) (sz : Nat) (p : Nat → Int32) (nu de eq : Nat → Int64) (am nx oA oD oE oP cR aR hR cl ad gw pr : Nat → Int32) (n : Int32) (o0 : Nat) (ou : Nat → Int64)   : Met ll yL_close wsL_close rmL_close_bad (va_Pc [.ref (a 0), .ref (o0)] (PY D (tyG cI cJ) (GW a cI cJ p nu de eq am nx oA oD oE oP cR aR hR cl ad gw pr (nI (12)) ++ [(o0, eJ cJ 1 ou)]) sz)) (va_Qi (fun (rr : Int32) (u : Unit) => rr = 1) (fun (u : Unit) t => AW D (tyG cI cJ) (va_A (GW a cI cJ p nu de eq am nx oA oD oE oP cR aR hR cl ad gw pr (nI (12)) ++ [(o0, eJ cJ 1 ou)]) sz) (GW a cI cJ p nu de eq am nx oA oD oE oP cR aR hR cl ad gw pr (nI (12)) ++ [(o0, eJ cJ 1 ou)]) t) (va_A (GW a cI cJ p nu de eq am nx oA oD oE oP cR aR hR cl ad gw pr (nI (12)) ++ [(o0, eJ cJ 1 ou)]) sz)) 1 6 (va_A (GW a cI cJ p nu de eq am nx oA oD oE oP cR aR hR cl ad gw pr (nI (12)) ++ [(o0, eJ cJ 1 ou)]) sz) := by
  refine ofWC (cc := cL_close) (maxL := 3) (ret := (some .int)) (hh := [(0, 8, 11, 15)]) (by decide) rfl ?_
  intro pp ee ss mm ar bel mth cde s₁ B hml htab hv
  obtain ⟨rfl, ⟨hsz, hP, hK, hD0, hE, hV⟩, hDC⟩ := hv
  have hx := B.exec
  have hb := B.bytes
  have hr := B.returns
  have hts := atoms_spec (ws := wsL_close) B.pre
  have hown : ss.vm.findClass RL = some mm.cls := findClass_of_methodNamed B.named
  have hlocks := B.notSynchronized
  subst hsz
  have hD := hD0.self (sz := ss.heap.size)
  generalize hAe : va_A (GW a cI cJ p nu de eq am nx oA oD oE oP cR aR hR cl ad gw pr (nI (12)) ++ [(o0, eJ cJ 1 ou)]) ss.heap.size = A at hD hV ⊢
  have hA : ∀ q : Nat, ss.heap.size ≤ q → A q := fun q h => by rw [← hAe]; exact Or.inr h
  have hS : va_S A ss.heap ss.heap [] := va_S.rf
  have hl := lv_entry [.ref (a 0), .ref (o0)] (n := 3) (Nat.le_of_ble_eq_true rfl)
  rw [lg_entry_eq]
  generalize (lg_sl [.ref (a 0), .ref (o0)] ++ List.replicate (3 - (lg_sl [.ref (a 0), .ref (o0)]).length) Slot.unset).toArray = ls at hl ⊢
  have hl : lv_has ls 3 [(0, .ref (a 0)), (1, .ref (o0))] := hl
  refine lv_aload_n hx hb dL_close_0 rfl (lv_at hl 1 rfl) ?_
  refine lv_iconst (v := 0) hx hb dL_close_1 (by decide) ?_
  refine lv_aload_n hx hb dL_close_2 rfl (lv_at hl 0 rfl) ?_
  refine b_catch (wc := GW a cI cJ p nu de eq am nx oA oD oE oP cR aR hR cl ad gw pr (nI (12))) (wr := [(o0, eJ cJ 1 ou)]) (S := Unit) (name := RIS) (E0 := RIS) hP hD hS hA (vx_runV (As := []) (rest := [.int (0), .ref (o0)]) ⟨hx, hb, hml, hown, hts⟩ (c_X3_close_bad ll hst D a cI cJ _ p nu de eq am nx oA oD oE oP cR aR hR cl ad gw pr (nI (12))  ) (cwV 0 hts gL_close_X3_close rfl rfl rfl (by decide +kernel) ⟨Nat.le_of_ble_eq_true rfl, Nat.le_of_ble_eq_true rfl⟩) ⟨PY.blind, va_recv hK hP (ci := 3) (q0 := 0) rfl rfl, PY.go hP hK hD hE hV hDC hS hA⟩ rfl rfl hl.1 rfl (lv_room (Nat.le_of_ble_eq_true rfl)) dL_close_3 ⟨Nat.le_of_ble_eq_true rfl, Nat.le_of_ble_eq_true rfl⟩) (fun v st t h => by obtain ⟨⟨_, _, _, h9, _⟩, _⟩ := h; exact h9) hown [] ⟨0, 8, 11, 15⟩ [] htab (fun z hz => by cases hz) (by decide) (by decide) (hts (.classLink RL 15 RIS) (by decide +kernel)) (va_Nw.use rfl hE.2.2.1) (fun u q9 H locs hP hD hS => ?_)
  refine lv_astore_n (lv' := [(2, .ref (q9)), (0, .ref (a 0)), (1, .ref (o0))]) hx hb dL_close_11 rfl hl (by decide) rfl (fun ls hl => ?_)
  refine lv_iconst (v := 1) hx hb dL_close_12 (by decide) ?_
  exact W.iret hx hb hr (fun t ht hW => ⟨⟨_, u, rfl, rfl, (by rw [ht]; exact hP), va_K.moved hW.alike hK, hD⟩, hS.F ht⟩) hS.2.2 dL_close_13

abbrev rmL_resultOf : Room := ({ frames := 2, cells := 0, slots := 0, locals := 43 } : Room)
set_option maxHeartbeats 4000000 in
set_option maxRecDepth 100000 in
theorem c_L_resultOf (ll : Launch) (D : va_G) (a : Nat → Nat) (cI cJ : ClassId) (sz : Nat) (p : Nat → Int32) (nu de eq : Nat → Int64) (am nx oA oD oE oP cR aR hR cl ad gw pr : Nat → Int32) (n : Int32) (o0 : Nat) (ou : Nat → Int64) (z j : Nat) (hz : z ≤ 12) (hj : j < z) : Met ll yL_resultOf wsL_resultOf rmL_resultOf (va_Pc [.ref (a 0), .int (nI (j)), .ref (o0)] (PY D (tyG cI cJ) (GW a cI cJ p nu de eq am nx oA oD oE oP cR aR hR cl ad gw pr (nI (z)) ++ [(o0, eJ cJ 1 ou)]) sz)) (va_Qi (fun (rr : Int32) (u : Unit) => rr = 0) (fun (u : Unit) t => AW D (tyG cI cJ) (va_A (GW a cI cJ p nu de eq am nx oA oD oE oP cR aR hR cl ad gw pr (nI (z)) ++ [(o0, eJ cJ 1 ou)]) sz) (GW a cI cJ p nu de eq am nx oA oD oE oP cR aR hR cl ad gw pr (nI (z)) ++ [(o0, eJ cJ 1 (vp_updL ou 0 (pr j).toInt64))]) t) (va_A (GW a cI cJ p nu de eq am nx oA oD oE oP cR aR hR cl ad gw pr (nI (z)) ++ [(o0, eJ cJ 1 ou)]) sz)) 0 0 (va_A (GW a cI cJ p nu de eq am nx oA oD oE oP cR aR hR cl ad gw pr (nI (z)) ++ [(o0, eJ cJ 1 ou)]) sz) := by
  refine ofWC (cc := cL_resultOf) (maxL := 4) (ret := (some .int)) (hh := [(0, 9, 12, 13)]) (by decide) rfl ?_
  intro pp ee ss mm ar bel mth cde s₁ B hml htab hv
  obtain ⟨rfl, ⟨hsz, hP, hK, hD0, hE, hV⟩, hDC⟩ := hv
  have hx := B.exec
  have hb := B.bytes
  have hr := B.returns
  have hts := atoms_spec (ws := wsL_resultOf) B.pre
  have hown : ss.vm.findClass RL = some mm.cls := findClass_of_methodNamed B.named
  have hlocks := B.notSynchronized
  subst hsz
  have hD := hD0.self (sz := ss.heap.size)
  generalize hAe : va_A (GW a cI cJ p nu de eq am nx oA oD oE oP cR aR hR cl ad gw pr (nI (z)) ++ [(o0, eJ cJ 1 ou)]) ss.heap.size = A at hD hV ⊢
  have hA : ∀ q : Nat, ss.heap.size ≤ q → A q := fun q h => by rw [← hAe]; exact Or.inr h
  have hS : va_S A ss.heap ss.heap [] := va_S.rf
  have hl := lv_entry [.ref (a 0), .int (nI (j)), .ref (o0)] (n := 4) (Nat.le_of_ble_eq_true rfl)
  rw [lg_entry_eq]
  generalize (lg_sl [.ref (a 0), .int (nI (j)), .ref (o0)] ++ List.replicate (4 - (lg_sl [.ref (a 0), .int (nI (j)), .ref (o0)]).length) Slot.unset).toArray = ls at hl ⊢
  have hl : lv_has ls 4 [(0, .ref (a 0)), (1, .int (nI (j))), (2, .ref (o0))] := hl
  refine lv_aload_n hx hb dL_resultOf_0 rfl (lv_at hl 2 rfl) ?_
  refine lv_iconst (v := 0) hx hb dL_resultOf_1 (by decide) ?_
  refine lv_aload_n hx hb dL_resultOf_2 rfl (lv_at hl 0 rfl) ?_
  refine lv_iload_n hx hb dL_resultOf_3 rfl (lv_at hl 1 rfl) ?_
  refine b_csi (v := pr j) (W.runV (As := [.int (nI (j))]) (rest := [.int (0), .ref (o0)]) ⟨hx, hb, hml, hown, hts⟩ (c_X3_resultOf ll D a cI cJ p nu de eq am nx oA oD oE oP cR aR hR cl ad gw pr (nI (z)) z j hz hj) (cwV 1 hts gL_resultOf_X3_resultOf rfl rfl rfl (by decide +kernel) ⟨Nat.le_of_ble_eq_true rfl, Nat.le_of_ble_eq_true rfl⟩) ⟨PR.blind, va_recv hK hP (ci := 3) (q0 := 0) rfl rfl, PR.goP (wr := [(o0, eJ cJ 1 ou)]) hP hK hE⟩ rfl rfl hl.1 rfl (lv_room (Nat.le_of_ble_eq_true rfl)) dL_resultOf_4 ⟨Nat.le_of_ble_eq_true rfl, Nat.le_of_ble_eq_true rfl⟩) ?_
  refine lv_i2l (v := (pr j).toInt64) hx hb dL_resultOf_7 rfl ?_
  refine b_last (w' := GW a cI cJ p nu de eq am nx oA oD oE oP cR aR hR cl ad gw pr (nI (z)) ++ [(o0, eJ cJ 1 (vp_updL ou 0 (pr j).toInt64))]) hx hb hK hP hD hS 21 1 (f := ou) rfl rfl (j := 0) (by omega) (by decide) rfl dL_resultOf_8 (fun H locs hP hD hS => ?_)
  refine lv_goto (tgt := 15) hx hb dL_resultOf_9 (by decide) ?_
  refine lv_iconst (v := 0) hx hb dL_resultOf_15 (by decide) ?_
  exact W.iret hx hb hr (fun t ht hW => ⟨⟨_, (), rfl, rfl, (by rw [ht]; exact hP), va_K.moved hW.alike hK, hD⟩, hS.F ht⟩) hS.2.2 dL_resultOf_16

abbrev rmL_resultOf_bad : Room := ({ frames := 8, cells := 1, slots := 6, locals := 125 } : Room)
set_option maxHeartbeats 4000000 in
set_option maxRecDepth 100000 in
theorem c_L_resultOf_bad (ll : Launch) (hst : ll.stackTraces = false) (D : va_G) (a : Nat → Nat) (cI cJ : ClassId) (sz : Nat) (p : Nat → Int32) (nu de eq : Nat → Int64) (am nx oA oD oE oP cR aR hR cl ad gw pr : Nat → Int32) (n : Int32) (o0 : Nat) (ou : Nat → Int64) (z : Nat) (x0 : Int32) (hz : z ≤ 12) (hbad : ¬ inB x0 0 (nI z - 1) = true) : Met ll yL_resultOf wsL_resultOf rmL_resultOf_bad (va_Pc [.ref (a 0), .int (x0), .ref (o0)] (PY D (tyG cI cJ) (GW a cI cJ p nu de eq am nx oA oD oE oP cR aR hR cl ad gw pr (nI (z)) ++ [(o0, eJ cJ 1 ou)]) sz)) (va_Qi (fun (rr : Int32) (u : Unit) => rr = 1) (fun (u : Unit) t => AW D (tyG cI cJ) (va_A (GW a cI cJ p nu de eq am nx oA oD oE oP cR aR hR cl ad gw pr (nI (z)) ++ [(o0, eJ cJ 1 ou)]) sz) (GW a cI cJ p nu de eq am nx oA oD oE oP cR aR hR cl ad gw pr (nI (z)) ++ [(o0, eJ cJ 1 ou)]) t) (va_A (GW a cI cJ p nu de eq am nx oA oD oE oP cR aR hR cl ad gw pr (nI (z)) ++ [(o0, eJ cJ 1 ou)]) sz)) 1 6 (va_A (GW a cI cJ p nu de eq am nx oA oD oE oP cR aR hR cl ad gw pr (nI (z)) ++ [(o0, eJ cJ 1 ou)]) sz) := by
  refine ofWC (cc := cL_resultOf) (maxL := 4) (ret := (some .int)) (hh := [(0, 9, 12, 13)]) (by decide) rfl ?_
  intro pp ee ss mm ar bel mth cde s₁ B hml htab hv
  obtain ⟨rfl, ⟨hsz, hP, hK, hD0, hE, hV⟩, hDC⟩ := hv
  have hx := B.exec
  have hb := B.bytes
  have hr := B.returns
  have hts := atoms_spec (ws := wsL_resultOf) B.pre
  have hown : ss.vm.findClass RL = some mm.cls := findClass_of_methodNamed B.named
  have hlocks := B.notSynchronized
  subst hsz
  have hD := hD0.self (sz := ss.heap.size)
  generalize hAe : va_A (GW a cI cJ p nu de eq am nx oA oD oE oP cR aR hR cl ad gw pr (nI (z)) ++ [(o0, eJ cJ 1 ou)]) ss.heap.size = A at hD hV ⊢
  have hA : ∀ q : Nat, ss.heap.size ≤ q → A q := fun q h => by rw [← hAe]; exact Or.inr h
  have hS : va_S A ss.heap ss.heap [] := va_S.rf
  have hl := lv_entry [.ref (a 0), .int (x0), .ref (o0)] (n := 4) (Nat.le_of_ble_eq_true rfl)
  rw [lg_entry_eq]
  generalize (lg_sl [.ref (a 0), .int (x0), .ref (o0)] ++ List.replicate (4 - (lg_sl [.ref (a 0), .int (x0), .ref (o0)]).length) Slot.unset).toArray = ls at hl ⊢
  have hl : lv_has ls 4 [(0, .ref (a 0)), (1, .int (x0)), (2, .ref (o0))] := hl
  refine lv_aload_n hx hb dL_resultOf_0 rfl (lv_at hl 2 rfl) ?_
  refine lv_iconst (v := 0) hx hb dL_resultOf_1 (by decide) ?_
  refine lv_aload_n hx hb dL_resultOf_2 rfl (lv_at hl 0 rfl) ?_
  refine lv_iload_n hx hb dL_resultOf_3 rfl (lv_at hl 1 rfl) ?_
  refine b_catch (wc := GW a cI cJ p nu de eq am nx oA oD oE oP cR aR hR cl ad gw pr (nI (z))) (wr := [(o0, eJ cJ 1 ou)]) (S := Unit) (name := RIA) (E0 := RIA) hP hD hS hA (vx_runV (As := [.int (x0)]) (rest := [.int (0), .ref (o0)]) ⟨hx, hb, hml, hown, hts⟩ (c_X3_resultOf_bad ll hst D a cI cJ _ p nu de eq am nx oA oD oE oP cR aR hR cl ad gw pr (nI (z)) z x0 hz hbad) (cwV 1 hts gL_resultOf_X3_resultOf rfl rfl rfl (by decide +kernel) ⟨Nat.le_of_ble_eq_true rfl, Nat.le_of_ble_eq_true rfl⟩) ⟨PY.blind, va_recv hK hP (ci := 3) (q0 := 0) rfl rfl, PY.go hP hK hD hE hV hDC hS hA⟩ rfl rfl hl.1 rfl (lv_room (Nat.le_of_ble_eq_true rfl)) dL_resultOf_4 ⟨Nat.le_of_ble_eq_true rfl, Nat.le_of_ble_eq_true rfl⟩) (fun v st t h => by obtain ⟨⟨_, _, _, h9, _⟩, _⟩ := h; exact h9) hown [] ⟨0, 9, 12, 13⟩ [] htab (fun z hz => by cases hz) (by decide) (by decide) (hts (.classLink RL 13 RIA) (by decide +kernel)) (va_Nw.use rfl hE.2.1) (fun u q9 H locs hP hD hS => ?_)
  refine lv_astore_n (lv' := [(3, .ref (q9)), (0, .ref (a 0)), (1, .int (x0)), (2, .ref (o0))]) hx hb dL_resultOf_12 rfl hl (by decide) rfl (fun ls hl => ?_)
  refine lv_iconst (v := 1) hx hb dL_resultOf_13 (by decide) ?_
  exact W.iret hx hb hr (fun t ht hW => ⟨⟨_, u, rfl, rfl, (by rw [ht]; exact hP), va_K.moved hW.alike hK, hD⟩, hS.F ht⟩) hS.2.2 dL_resultOf_14
