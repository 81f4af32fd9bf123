abbrev rmX3_requireRange_ok : Room := ({ frames := 0, cells := 0, slots := 0, locals := 0 } : Room)
set_option maxHeartbeats 4000000 in
set_option maxRecDepth 100000 in
theorem c_X3_requireRange_ok (ll : Launch) (v lo hi : Int32) (hin : inB v lo hi = true) : Met ll yX3_requireRange wsX3_requireRange rmX3_requireRange_ok (va_Pc [.int (v), .int (lo), .int (hi)] (fun _ => True)) (va_Sv (fun _ => True)) 0 0 (fun _ => False) := by
  refine Met.ofW (cc := cX3_requireRange) (maxL := 3) (ret := none) (by decide) rfl ?_
  intro pp ee ss mm ar bel mth cde s₁ B hml hv
  obtain ⟨rfl, -⟩ := hv
  have hx := B.exec
  have hb := B.bytes
  have hr := B.returns
  have hts := atoms_spec (ws := wsX3_requireRange) B.pre
  have hown : ss.vm.findClass RX3 = some mm.cls := findClass_of_methodNamed B.named
  have hlocks := B.notSynchronized
  have hl := lv_entry [.int (v), .int (lo), .int (hi)] (n := 3) (Nat.le_of_ble_eq_true rfl)
  rw [lg_entry_eq]
  generalize (lg_sl [.int (v), .int (lo), .int (hi)] ++ List.replicate (3 - (lg_sl [.int (v), .int (lo), .int (hi)]).length) Slot.unset).toArray = ls at hl ⊢
  have hl : lv_has ls 3 [(0, .int (v)), (1, .int (lo)), (2, .int (hi))] := hl
  refine lv_iload_n hx hb dX3_requireRange_0 rfl (lv_at hl 0 rfl) ?_
  refine lv_iload_n hx hb dX3_requireRange_1 rfl (lv_at hl 1 rfl) ?_
  refine lv_icmp_lt (tgt := 10) hx hb dX3_requireRange_2 (by decide) (fun c_1 => ?_) (fun c_1 => ?_)
  · have n_1 := c_1
    exact absurd n_1 (inB_lo hin)
  · have n_1 := c_1
    refine lv_iload_n hx hb dX3_requireRange_5 rfl (lv_at hl 0 rfl) ?_
    refine lv_iload_n hx hb dX3_requireRange_6 rfl (lv_at hl 2 rfl) ?_
    refine lv_icmp_le (tgt := 20) hx hb dX3_requireRange_7 (by decide) (fun c_2 => ?_) (fun c_2 => ?_)
    · have n_2 := c_2
      exact W.vret hx hb hr (fun t ht _ => ⟨rfl, trivial, ht⟩) (fun _ h => nomatch h) dX3_requireRange_20
    · have n_2 := c_2
      exact absurd (inB_hi hin) n_2

abbrev rmX3_requireRange_bad : Room := ({ frames := 6, cells := 1, slots := 6, locals := 82 } : Room)
set_option maxHeartbeats 4000000 in
set_option maxRecDepth 100000 in
theorem c_X3_requireRange_bad (ll : Launch) (hst : ll.stackTraces = false) (D : va_G) (sz : Nat) (v lo hi : Int32) (hbad : ¬ inB v lo hi = true) : vx_Met ll yX3_requireRange wsX3_requireRange rmX3_requireRange_bad (va_Pc [.int (v), .int (lo), .int (hi)] (PY D [] (([] : va_W)) sz)) (va_Qv (fun (_ : Unit) => False) (fun _ _ => True) (va_A (([] : va_W)) sz)) (XEA D [] (va_A (([] : va_W)) sz) (fun u : Unit => ([] : va_W)) RIA) 1 6 (va_A (([] : va_W)) sz) := by
  refine vx_ofW (cc := cX3_requireRange) (maxL := 3) (ret := none) (by decide) rfl ?_
  intro pp ee ss mm ar bel mth cde s₁ B hml hno hv
  obtain ⟨rfl, ⟨hsz, hP, hK, hD0, hE, hV⟩, hDC⟩ := hv
  have hx := B.exec
  have hb := B.bytes
  have hr := B.returns
  have hts := atoms_spec (ws := wsX3_requireRange) B.pre
  have hown : ss.vm.findClass RX3 = some mm.cls := findClass_of_methodNamed B.named
  have hlocks := B.notSynchronized
  subst hsz
  have hD := hD0.self (sz := ss.heap.size)
  generalize hAe : va_A (([] : va_W)) ss.heap.size = A at hD hV ⊢
  have hA : ∀ q : Nat, ss.heap.size ≤ q → A q := fun q h => by rw [← hAe]; exact Or.inr h
  have hS : va_S A ss.heap ss.heap [] := va_S.rf
  have hl := lv_entry [.int (v), .int (lo), .int (hi)] (n := 3) (Nat.le_of_ble_eq_true rfl)
  rw [lg_entry_eq]
  generalize (lg_sl [.int (v), .int (lo), .int (hi)] ++ List.replicate (3 - (lg_sl [.int (v), .int (lo), .int (hi)]).length) Slot.unset).toArray = ls at hl ⊢
  have hl : lv_has ls 3 [(0, .int (v)), (1, .int (lo)), (2, .int (hi))] := hl
  refine lv_iload_n hx hb dX3_requireRange_0 rfl (lv_at hl 0 rfl) ?_
  refine lv_iload_n hx hb dX3_requireRange_1 rfl (lv_at hl 1 rfl) ?_
  refine lv_icmp_lt (tgt := 10) hx hb dX3_requireRange_2 (by decide) (fun c_1 => ?_) (fun c_1 => ?_)
  · have n_1 := c_1
    obtain ⟨sa, hstr⟩ := hE.2.2.2.1
    refine b_throw (S := Unit) (own := RX3) (cls := RIA) (text := "argument out of range") (ik := 155) (is := 165) (ic := 159) (sa := sa) () rfl hx hb hst hown (by decide +kernel) (hts (.classLink RX3 155 RIA) (List.mem_cons_of_mem _ (by first | exact List.mem_append_left _ (List.mem_of_getElem? (i := 0) rfl) | decide +kernel))) (hts (.initialized RIA) (List.mem_cons_of_mem _ (by first | exact List.mem_append_left _ (List.mem_of_getElem? (i := 1) rfl) | decide +kernel))) hstr (vx_hat (B := [.castable RIA RIA, .declares ⟨"java/lang/RuntimeException", "<init>", "(Ljava/lang/String;)V"⟩, .declares ⟨"java/lang/Exception", "<init>", "(Ljava/lang/String;)V"⟩, .declares ⟨"java/lang/Throwable", "<init>", "(Ljava/lang/String;)V"⟩]) (fun w h => hts w (List.mem_cons_of_mem _ (List.mem_append_right _ h))) (by decide +kernel) (vx_c (va_Nw.use rfl hE.2.1) (vx_c (va_Nw.use rfl hDC.1) (vx_c (va_Nw.use rfl hDC.2.1) (vx_c (va_Nw.use rfl hDC.2.2) vx_n))))) (by decide +kernel) hP hK hD hV hS (hl.1.trans hml.symm) dX3_requireRange_10 dX3_requireRange_13 dX3_requireRange_14 dX3_requireRange_16 dX3_requireRange_19 hno (Nat.le_of_ble_eq_true rfl) (Nat.le_of_ble_eq_true rfl) (Nat.le_of_ble_eq_true rfl) (Nat.le_of_ble_eq_true rfl) hlocks
  · have n_1 := c_1
    refine lv_iload_n hx hb dX3_requireRange_5 rfl (lv_at hl 0 rfl) ?_
    refine lv_iload_n hx hb dX3_requireRange_6 rfl (lv_at hl 2 rfl) ?_
    refine lv_icmp_le (tgt := 20) hx hb dX3_requireRange_7 (by decide) (fun c_2 => ?_) (fun c_2 => ?_)
    · have n_2 := c_2
      exact absurd (inB_of n_1 n_2) hbad
    · have n_2 := c_2
      obtain ⟨sa, hstr⟩ := hE.2.2.2.1
      refine b_throw (S := Unit) (own := RX3) (cls := RIA) (text := "argument out of range") (ik := 155) (is := 165) (ic := 159) (sa := sa) () rfl hx hb hst hown (by decide +kernel) (hts (.classLink RX3 155 RIA) (List.mem_cons_of_mem _ (by first | exact List.mem_append_left _ (List.mem_of_getElem? (i := 0) rfl) | decide +kernel))) (hts (.initialized RIA) (List.mem_cons_of_mem _ (by first | exact List.mem_append_left _ (List.mem_of_getElem? (i := 1) rfl) | decide +kernel))) hstr (vx_hat (B := [.castable RIA RIA, .declares ⟨"java/lang/RuntimeException", "<init>", "(Ljava/lang/String;)V"⟩, .declares ⟨"java/lang/Exception", "<init>", "(Ljava/lang/String;)V"⟩, .declares ⟨"java/lang/Throwable", "<init>", "(Ljava/lang/String;)V"⟩]) (fun w h => hts w (List.mem_cons_of_mem _ (List.mem_append_right _ h))) (by decide +kernel) (vx_c (va_Nw.use rfl hE.2.1) (vx_c (va_Nw.use rfl hDC.1) (vx_c (va_Nw.use rfl hDC.2.1) (vx_c (va_Nw.use rfl hDC.2.2) vx_n))))) (by decide +kernel) hP hK hD hV hS (hl.1.trans hml.symm) dX3_requireRange_10 dX3_requireRange_13 dX3_requireRange_14 dX3_requireRange_16 dX3_requireRange_19 hno (Nat.le_of_ble_eq_true rfl) (Nat.le_of_ble_eq_true rfl) (Nat.le_of_ble_eq_true rfl) (Nat.le_of_ble_eq_true rfl) hlocks

abbrev rmX3_requireCompany_ok : Room := ({ frames := 1, cells := 0, slots := 0, locals := 22 } : Room)
set_option maxHeartbeats 4000000 in
set_option maxRecDepth 100000 in
theorem c_X3_requireCompany_ok (ll : Launch) (v : Int32) (hin : inB v 0 5 = true) : Met ll yX3_requireCompany wsX3_requireCompany rmX3_requireCompany_ok (va_Pc [.int (v)] (fun _ => True)) (va_Sv (fun _ => True)) 0 0 (fun _ => False) := by
  refine Met.ofW (cc := cX3_requireCompany) (maxL := 1) (ret := none) (by decide) rfl ?_
  intro pp ee ss mm ar bel mth cde s₁ B hml hv
  obtain ⟨rfl, -⟩ := hv
  have hx := B.exec
  have hb := B.bytes
  have hr := B.returns
  have hts := atoms_spec (ws := wsX3_requireCompany) B.pre
  have hown : ss.vm.findClass RX3 = some mm.cls := findClass_of_methodNamed B.named
  have hlocks := B.notSynchronized
  have hl := lv_entry [.int (v)] (n := 1) (Nat.le_of_ble_eq_true rfl)
  rw [lg_entry_eq]
  generalize (lg_sl [.int (v)] ++ List.replicate (1 - (lg_sl [.int (v)]).length) Slot.unset).toArray = ls at hl ⊢
  have hl : lv_has ls 1 [(0, .int (v))] := hl
  refine lv_iload_n hx hb dX3_requireCompany_0 rfl (lv_at hl 0 rfl) ?_
  refine lv_iconst (v := 0) hx hb dX3_requireCompany_1 (by decide) ?_
  refine lv_iconst (v := 5) hx hb dX3_requireCompany_2 (by decide) ?_
  refine va_csv (W.runS (As := [.int (v), .int (0), .int (5)]) (rest := []) ⟨hx, hb, hml, hown, hts⟩ (c_X3_requireRange_ok ll v 0 5 hin) (va_cwS 3 hts gX3_requireCompany_X3_requireRange rfl rfl rfl (by decide +kernel) ⟨Nat.le_of_ble_eq_true rfl, Nat.le_of_ble_eq_true rfl⟩) ⟨PT.blind, PT.to⟩ rfl rfl hl.1 rfl (lv_room (Nat.le_of_ble_eq_true rfl)) dX3_requireCompany_3 ⟨Nat.le_of_ble_eq_true rfl, Nat.le_of_ble_eq_true rfl⟩) (fun _ => ?_)
  exact W.vret hx hb hr (fun t ht _ => ⟨rfl, trivial, ht⟩) (fun _ h => nomatch h) dX3_requireCompany_6

abbrev rmX3_requireCompany_bad : Room := ({ frames := 7, cells := 1, slots := 6, locals := 104 } : Room)
set_option maxHeartbeats 4000000 in
set_option maxRecDepth 100000 in
theorem c_X3_requireCompany_bad (ll : Launch) (hst : ll.stackTraces = false) (D : va_G) (sz : Nat) (v : Int32) (hbad : ¬ inB v 0 5 = true) : vx_Met ll yX3_requireCompany wsX3_requireCompany rmX3_requireCompany_bad (va_Pc [.int (v)] (PY D [] (([] : va_W)) sz)) (va_Qv (fun (_ : Unit) => False) (fun _ _ => True) (va_A (([] : va_W)) sz)) (XEA D [] (va_A (([] : va_W)) sz) (fun u : Unit => ([] : va_W)) RIA) 1 6 (va_A (([] : va_W)) sz) := by
  refine vx_ofW (cc := cX3_requireCompany) (maxL := 1) (ret := none) (by decide) rfl ?_
  intro pp ee ss mm ar bel mth cde s₁ B hml hno hv
  obtain ⟨rfl, ⟨hsz, hP, hK, hD0, hE, hV⟩, hDC⟩ := hv
  have hx := B.exec
  have hb := B.bytes
  have hr := B.returns
  have hts := atoms_spec (ws := wsX3_requireCompany) B.pre
  have hown : ss.vm.findClass RX3 = some mm.cls := findClass_of_methodNamed B.named
  have hlocks := B.notSynchronized
  subst hsz
  have hD := hD0.self (sz := ss.heap.size)
  generalize hAe : va_A (([] : va_W)) ss.heap.size = A at hD hV ⊢
  have hA : ∀ q : Nat, ss.heap.size ≤ q → A q := fun q h => by rw [← hAe]; exact Or.inr h
  have hS : va_S A ss.heap ss.heap [] := va_S.rf
  have hl := lv_entry [.int (v)] (n := 1) (Nat.le_of_ble_eq_true rfl)
  rw [lg_entry_eq]
  generalize (lg_sl [.int (v)] ++ List.replicate (1 - (lg_sl [.int (v)]).length) Slot.unset).toArray = ls at hl ⊢
  have hl : lv_has ls 1 [(0, .int (v))] := hl
  refine lv_iload_n hx hb dX3_requireCompany_0 rfl (lv_at hl 0 rfl) ?_
  refine lv_iconst (v := 0) hx hb dX3_requireCompany_1 (by decide) ?_
  refine lv_iconst (v := 5) hx hb dX3_requireCompany_2 (by decide) ?_
  refine b_bad (S := Unit) () rfl hno hlocks hP hK hD hS hA (vx_runS (As := [.int (v), .int (0), .int (5)]) (rest := []) ⟨hx, hb, hml, hown, hts⟩ (c_X3_requireRange_bad ll hst D _ v 0 5 hbad) (va_cwS 3 hts gX3_requireCompany_X3_requireRange rfl rfl rfl (by decide +kernel) ⟨Nat.le_of_ble_eq_true rfl, Nat.le_of_ble_eq_true rfl⟩) ⟨PY.blind, PY.go0 hK hE hV hDC hS hA⟩ rfl rfl hl.1 rfl (lv_room (Nat.le_of_ble_eq_true rfl)) dX3_requireCompany_3 ⟨Nat.le_of_ble_eq_true rfl, Nat.le_of_ble_eq_true rfl⟩)

abbrev rmX3_requireTwoCompanies_ok : Room := ({ frames := 2, cells := 0, slots := 0, locals := 42 } : Room)
set_option maxHeartbeats 4000000 in
set_option maxRecDepth 100000 in
theorem c_X3_requireTwoCompanies_ok (ll : Launch) (x y : Int32) (hpr : prB x y = true) : Met ll yX3_requireTwoCompanies wsX3_requireTwoCompanies rmX3_requireTwoCompanies_ok (va_Pc [.int (x), .int (y)] (fun _ => True)) (va_Sv (fun _ => True)) 0 0 (fun _ => False) := by
  refine Met.ofW (cc := cX3_requireTwoCompanies) (maxL := 2) (ret := none) (by decide) rfl ?_
  intro pp ee ss mm ar bel mth cde s₁ B hml hv
  obtain ⟨rfl, -⟩ := hv
  have hx := B.exec
  have hb := B.bytes
  have hr := B.returns
  have hts := atoms_spec (ws := wsX3_requireTwoCompanies) B.pre
  have hown : ss.vm.findClass RX3 = some mm.cls := findClass_of_methodNamed B.named
  have hlocks := B.notSynchronized
  have hl := lv_entry [.int (x), .int (y)] (n := 2) (Nat.le_of_ble_eq_true rfl)
  rw [lg_entry_eq]
  generalize (lg_sl [.int (x), .int (y)] ++ List.replicate (2 - (lg_sl [.int (x), .int (y)]).length) Slot.unset).toArray = ls at hl ⊢
  have hl : lv_has ls 2 [(0, .int (x)), (1, .int (y))] := hl
  refine lv_iload_n hx hb dX3_requireTwoCompanies_0 rfl (lv_at hl 0 rfl) ?_
  refine va_csv (W.runS (As := [.int (x)]) (rest := []) ⟨hx, hb, hml, hown, hts⟩ (c_X3_requireCompany_ok ll x (prB_1 hpr)) (va_cwS 1 hts gX3_requireTwoCompanies_X3_requireCompany rfl rfl rfl (by decide +kernel) ⟨Nat.le_of_ble_eq_true rfl, Nat.le_of_ble_eq_true rfl⟩) ⟨PT.blind, PT.to⟩ rfl rfl hl.1 rfl (lv_room (Nat.le_of_ble_eq_true rfl)) dX3_requireTwoCompanies_1 ⟨Nat.le_of_ble_eq_true rfl, Nat.le_of_ble_eq_true rfl⟩) (fun _ => ?_)
  refine lv_iload_n hx hb dX3_requireTwoCompanies_4 rfl (lv_at hl 1 rfl) ?_
  refine va_csv (W.runS (As := [.int (y)]) (rest := []) ⟨hx, hb, hml, hown, hts⟩ (c_X3_requireCompany_ok ll y (prB_2 hpr)) (va_cwS 1 hts gX3_requireTwoCompanies_X3_requireCompany rfl rfl rfl (by decide +kernel) ⟨Nat.le_of_ble_eq_true rfl, Nat.le_of_ble_eq_true rfl⟩) ⟨PT.blind, PT.to⟩ rfl rfl hl.1 rfl (lv_room (Nat.le_of_ble_eq_true rfl)) dX3_requireTwoCompanies_5 ⟨Nat.le_of_ble_eq_true rfl, Nat.le_of_ble_eq_true rfl⟩) (fun _ => ?_)
  refine lv_iload_n hx hb dX3_requireTwoCompanies_8 rfl (lv_at hl 0 rfl) ?_
  refine lv_iload_n hx hb dX3_requireTwoCompanies_9 rfl (lv_at hl 1 rfl) ?_
  refine lv_icmp_ne (tgt := 23) hx hb dX3_requireTwoCompanies_10 (by decide) (fun c_1 => ?_) (fun c_1 => ?_)
  · have n_1 := c_1
    exact W.vret hx hb hr (fun t ht _ => ⟨rfl, trivial, ht⟩) (fun _ h => nomatch h) dX3_requireTwoCompanies_23
  · have n_1 := c_1
    exact absurd n_1 (prB_3 hpr)

abbrev rmX3_requireTwoCompanies_bad : Room := ({ frames := 8, cells := 1, slots := 6, locals := 124 } : Room)
set_option maxHeartbeats 4000000 in
set_option maxRecDepth 100000 in
theorem c_X3_requireTwoCompanies_bad (ll : Launch) (hst : ll.stackTraces = false) (D : va_G) (sz : Nat) (x y : Int32) (hbad : ¬ prB x y = true) : vx_Met ll yX3_requireTwoCompanies wsX3_requireTwoCompanies rmX3_requireTwoCompanies_bad (va_Pc [.int (x), .int (y)] (PY D [] (([] : va_W)) sz)) (va_Qv (fun (_ : Unit) => False) (fun _ _ => True) (va_A (([] : va_W)) sz)) (XEA D [] (va_A (([] : va_W)) sz) (fun u : Unit => ([] : va_W)) RIA) 1 6 (va_A (([] : va_W)) sz) := by
  refine vx_ofW (cc := cX3_requireTwoCompanies) (maxL := 2) (ret := none) (by decide) rfl ?_
  intro pp ee ss mm ar bel mth cde s₁ B hml hno hv
  obtain ⟨rfl, ⟨hsz, hP, hK, hD0, hE, hV⟩, hDC⟩ := hv
  have hx := B.exec
  have hb := B.bytes
  have hr := B.returns
  have hts := atoms_spec (ws := wsX3_requireTwoCompanies) B.pre
  have hown : ss.vm.findClass RX3 = some mm.cls := findClass_of_methodNamed B.named
  have hlocks := B.notSynchronized
  subst hsz
  have hD := hD0.self (sz := ss.heap.size)
  generalize hAe : va_A (([] : va_W)) ss.heap.size = A at hD hV ⊢
  have hA : ∀ q : Nat, ss.heap.size ≤ q → A q := fun q h => by rw [← hAe]; exact Or.inr h
  have hS : va_S A ss.heap ss.heap [] := va_S.rf
  have hl := lv_entry [.int (x), .int (y)] (n := 2) (Nat.le_of_ble_eq_true rfl)
  rw [lg_entry_eq]
  generalize (lg_sl [.int (x), .int (y)] ++ List.replicate (2 - (lg_sl [.int (x), .int (y)]).length) Slot.unset).toArray = ls at hl ⊢
  have hl : lv_has ls 2 [(0, .int (x)), (1, .int (y))] := hl
  refine lv_iload_n hx hb dX3_requireTwoCompanies_0 rfl (lv_at hl 0 rfl) ?_
  by_cases q_1 : inB x 0 5 = true
  · refine va_csv (W.runS (As := [.int (x)]) (rest := []) ⟨hx, hb, hml, hown, hts⟩ (c_X3_requireCompany_ok ll x q_1) (va_cwS 1 hts gX3_requireTwoCompanies_X3_requireCompany rfl rfl rfl (by decide +kernel) ⟨Nat.le_of_ble_eq_true rfl, Nat.le_of_ble_eq_true rfl⟩) ⟨PT.blind, PT.to⟩ rfl rfl hl.1 rfl (lv_room (Nat.le_of_ble_eq_true rfl)) dX3_requireTwoCompanies_1 ⟨Nat.le_of_ble_eq_true rfl, Nat.le_of_ble_eq_true rfl⟩) (fun _ => ?_)
    refine lv_iload_n hx hb dX3_requireTwoCompanies_4 rfl (lv_at hl 1 rfl) ?_
    by_cases q_2 : inB y 0 5 = true
    · refine va_csv (W.runS (As := [.int (y)]) (rest := []) ⟨hx, hb, hml, hown, hts⟩ (c_X3_requireCompany_ok ll y q_2) (va_cwS 1 hts gX3_requireTwoCompanies_X3_requireCompany rfl rfl rfl (by decide +kernel) ⟨Nat.le_of_ble_eq_true rfl, Nat.le_of_ble_eq_true rfl⟩) ⟨PT.blind, PT.to⟩ rfl rfl hl.1 rfl (lv_room (Nat.le_of_ble_eq_true rfl)) dX3_requireTwoCompanies_5 ⟨Nat.le_of_ble_eq_true rfl, Nat.le_of_ble_eq_true rfl⟩) (fun _ => ?_)
      refine lv_iload_n hx hb dX3_requireTwoCompanies_8 rfl (lv_at hl 0 rfl) ?_
      refine lv_iload_n hx hb dX3_requireTwoCompanies_9 rfl (lv_at hl 1 rfl) ?_
      refine lv_icmp_ne (tgt := 23) hx hb dX3_requireTwoCompanies_10 (by decide) (fun c_3 => ?_) (fun c_3 => ?_)
      · have n_3 := c_3
        exact absurd (prB_of q_1 q_2 n_3) hbad
      · have n_3 := c_3
        obtain ⟨sa, hstr⟩ := hE.2.2.2.2.1
        refine b_throw (S := Unit) (own := RX3) (cls := RIA) (text := "a company and itself") (ik := 155) (is := 163) (ic := 159) (sa := sa) () rfl hx hb hst hown (by decide +kernel) (hts (.classLink RX3 155 RIA) (List.mem_cons_of_mem _ (by first | exact List.mem_append_left _ (List.mem_of_getElem? (i := 0) rfl) | decide +kernel))) (hts (.initialized RIA) (List.mem_cons_of_mem _ (by first | exact List.mem_append_left _ (List.mem_of_getElem? (i := 1) rfl) | decide +kernel))) hstr (vx_hat (B := [.castable RIA RIA, .declares ⟨"java/lang/RuntimeException", "<init>", "(Ljava/lang/String;)V"⟩, .declares ⟨"java/lang/Exception", "<init>", "(Ljava/lang/String;)V"⟩, .declares ⟨"java/lang/Throwable", "<init>", "(Ljava/lang/String;)V"⟩]) (fun w h => hts w (List.mem_cons_of_mem _ (List.mem_append_right _ h))) (by decide +kernel) (vx_c (va_Nw.use rfl hE.2.1) (vx_c (va_Nw.use rfl hDC.1) (vx_c (va_Nw.use rfl hDC.2.1) (vx_c (va_Nw.use rfl hDC.2.2) vx_n))))) (by decide +kernel) hP hK hD hV hS (hl.1.trans hml.symm) dX3_requireTwoCompanies_13 dX3_requireTwoCompanies_16 dX3_requireTwoCompanies_17 dX3_requireTwoCompanies_19 dX3_requireTwoCompanies_22 hno (Nat.le_of_ble_eq_true rfl) (Nat.le_of_ble_eq_true rfl) (Nat.le_of_ble_eq_true rfl) (Nat.le_of_ble_eq_true rfl) hlocks
    · refine b_bad (S := Unit) () rfl hno hlocks hP hK hD hS hA (vx_runS (As := [.int (y)]) (rest := []) ⟨hx, hb, hml, hown, hts⟩ (c_X3_requireCompany_bad ll hst D _ y q_2) (va_cwS 1 hts gX3_requireTwoCompanies_X3_requireCompany rfl rfl rfl (by decide +kernel) ⟨Nat.le_of_ble_eq_true rfl, Nat.le_of_ble_eq_true rfl⟩) ⟨PY.blind, PY.go0 hK hE hV hDC hS hA⟩ rfl rfl hl.1 rfl (lv_room (Nat.le_of_ble_eq_true rfl)) dX3_requireTwoCompanies_5 ⟨Nat.le_of_ble_eq_true rfl, Nat.le_of_ble_eq_true rfl⟩)
  · refine b_bad (S := Unit) () rfl hno hlocks hP hK hD hS hA (vx_runS (As := [.int (x)]) (rest := []) ⟨hx, hb, hml, hown, hts⟩ (c_X3_requireCompany_bad ll hst D _ x q_1) (va_cwS 1 hts gX3_requireTwoCompanies_X3_requireCompany rfl rfl rfl (by decide +kernel) ⟨Nat.le_of_ble_eq_true rfl, Nat.le_of_ble_eq_true rfl⟩) ⟨PY.blind, PY.go0 hK hE hV hDC hS hA⟩ rfl rfl hl.1 rfl (lv_room (Nat.le_of_ble_eq_true rfl)) dX3_requireTwoCompanies_1 ⟨Nat.le_of_ble_eq_true rfl, Nat.le_of_ble_eq_true rfl⟩)
