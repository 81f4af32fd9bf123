abbrev rmX3_hold_bad : Room := ({ frames := 9, cells := 1, slots := 6, locals := 145 } : Room)
set_option maxHeartbeats 4000000 in
set_option maxRecDepth 100000 in
theorem c_X3_hold_bad (ll : Launch) (hst : ll.stackTraces = false) (D : va_G) (a : Nat → Nat) (cI cJ : ClassId) (sz : Nat) (p : Nat → Int32) (nu de eq : Nat → Int64) (am nx oA oD oE oP cR aR hR cl ad gw pr : Nat → Int32) (n : Int32) (x0 x1 x : Int32) (hbad : ¬ (prB x0 x1 = true ∧ inB x 0 100 = true)) : vx_Met ll yX3_hold wsX3_hold rmX3_hold_bad (va_Pc [.ref (a 0), .int (x0), .int (x1), .int (x)] (PY D (tyG cI cJ) (GW a cI cJ p nu de eq am nx oA oD oE oP cR aR hR cl ad gw pr n) sz)) (va_Qi (fun (_ : Int32) (_ : Unit) => False) (fun _ _ => True) (va_A (GW a cI cJ p nu de eq am nx oA oD oE oP cR aR hR cl ad gw pr n) sz)) (XEA D (tyG cI cJ) (va_A (GW a cI cJ p nu de eq am nx oA oD oE oP cR aR hR cl ad gw pr n) sz) (fun u : Unit => GW a cI cJ p nu de eq am nx oA oD oE oP cR aR hR cl ad gw pr n) RIA) 1 6 (va_A (GW a cI cJ p nu de eq am nx oA oD oE oP cR aR hR cl ad gw pr n) sz) := by
  refine vx_ofW (cc := cX3_hold) (maxL := 5) (ret := (some .int)) (by decide) rfl ?_
  intro pp ee ss mm ar bel mth cde s₁ B hml hno hv
  obtain ⟨rfl, ⟨hsz, hP, hK, hD0, hE, hV⟩, hDC⟩ := hv
  have hx := B.exec
  have hb := B.bytes
  have hr := B.returns
  have hts := atoms_spec (ws := wsX3_hold) B.pre
  have hown : ss.vm.findClass RX3 = some mm.cls := findClass_of_methodNamed B.named
  have hlocks := B.notSynchronized
  subst hsz
  have hD := hD0.self (sz := ss.heap.size)
  generalize hAe : va_A (GW a cI cJ p nu de eq am nx oA oD oE oP cR aR hR cl ad gw pr n) ss.heap.size = A at hD hV ⊢
  have hA : ∀ q : Nat, ss.heap.size ≤ q → A q := fun q h => by rw [← hAe]; exact Or.inr h
  have hS : va_S A ss.heap ss.heap [] := va_S.rf
  have hin : ∀ w ∈ wsX30, w.before ([.ref (a 0), .int (x0), .int (x1), .int (x)] : List Value).toArray ss = true := fun w h => hts w ((by decide +kernel : ∀ w ∈ wsX30, w ∈ wsX3_hold) w h)
  have hl := lv_entry [.ref (a 0), .int (x0), .int (x1), .int (x)] (n := 5) (Nat.le_of_ble_eq_true rfl)
  rw [lg_entry_eq]
  generalize (lg_sl [.ref (a 0), .int (x0), .int (x1), .int (x)] ++ List.replicate (5 - (lg_sl [.ref (a 0), .int (x0), .int (x1), .int (x)]).length) Slot.unset).toArray = ls at hl ⊢
  have hl : lv_has ls 5 [(0, .ref (a 0)), (1, .int (x0)), (2, .int (x1)), (3, .int (x))] := hl
  refine lv_iload_n hx hb dX3_hold_0 rfl (lv_at hl 1 rfl) ?_
  refine lv_iload_n hx hb dX3_hold_1 rfl (lv_at hl 2 rfl) ?_
  by_cases q_1 : prB x0 x1 = true
  · refine va_csv (W.runS (As := [.int (x0), .int (x1)]) (rest := []) ⟨hx, hb, hml, hown, hts⟩ (c_X3_requireTwoCompanies_ok ll x0 x1 q_1) (va_cwS 2 hts gX3_hold_X3_requireTwoCompanies rfl rfl rfl (by decide +kernel) ⟨Nat.le_of_ble_eq_true rfl, Nat.le_of_ble_eq_true rfl⟩) ⟨PT.blind, PT.to⟩ rfl rfl hl.1 rfl (lv_room (Nat.le_of_ble_eq_true rfl)) dX3_hold_2 ⟨Nat.le_of_ble_eq_true rfl, Nat.le_of_ble_eq_true rfl⟩) (fun _ => ?_)
    refine lv_iload_n hx hb dX3_hold_5 rfl (lv_at hl 3 rfl) ?_
    refine lv_iconst (v := 0) hx hb dX3_hold_6 (by decide) ?_
    refine lv_bipush (v := 100) hx hb dX3_hold_7 (by decide) ?_
    by_cases q_2 : inB x 0 100 = true
    · refine va_csv (W.runS (As := [.int (x), .int (0), .int (100)]) (rest := []) ⟨hx, hb, hml, hown, hts⟩ (c_X3_requireRange_ok ll x 0 100 q_2) (va_cwS 3 hts gX3_hold_X3_requireRange rfl rfl rfl (by decide +kernel) ⟨Nat.le_of_ble_eq_true rfl, Nat.le_of_ble_eq_true rfl⟩) ⟨PT.blind, PT.to⟩ rfl rfl hl.1 rfl (lv_room (Nat.le_of_ble_eq_true rfl)) dX3_hold_9 ⟨Nat.le_of_ble_eq_true rfl, Nat.le_of_ble_eq_true rfl⟩) (fun _ => ?_)
      exact absurd ⟨q_1, q_2⟩ hbad
    · refine b_bad (S := Unit) () rfl hno hlocks hP hK hD hS hA (vx_runS (As := [.int (x), .int (0), .int (100)]) (rest := []) ⟨hx, hb, hml, hown, hts⟩ (c_X3_requireRange_bad ll hst D _ x 0 100 q_2) (va_cwS 3 hts gX3_hold_X3_requireRange rfl rfl rfl (by decide +kernel) ⟨Nat.le_of_ble_eq_true rfl, Nat.le_of_ble_eq_true rfl⟩) ⟨PY.blind, PY.go0 hK hE hV hDC hS hA⟩ rfl rfl hl.1 rfl (lv_room (Nat.le_of_ble_eq_true rfl)) dX3_hold_9 ⟨Nat.le_of_ble_eq_true rfl, Nat.le_of_ble_eq_true rfl⟩)
  · refine b_bad (S := Unit) () rfl hno hlocks hP hK hD hS hA (vx_runS (As := [.int (x0), .int (x1)]) (rest := []) ⟨hx, hb, hml, hown, hts⟩ (c_X3_requireTwoCompanies_bad ll hst D _ x0 x1 q_1) (va_cwS 2 hts gX3_hold_X3_requireTwoCompanies rfl rfl rfl (by decide +kernel) ⟨Nat.le_of_ble_eq_true rfl, Nat.le_of_ble_eq_true rfl⟩) ⟨PY.blind, PY.go0 hK hE hV hDC hS hA⟩ rfl rfl hl.1 rfl (lv_room (Nat.le_of_ble_eq_true rfl)) dX3_hold_2 ⟨Nat.le_of_ble_eq_true rfl, Nat.le_of_ble_eq_true rfl⟩)
