abbrev rmX3_requireTwoCompanies_same : Room := ({ frames := 6, cells := 1, slots := 6, locals := 82 } : Room)
set_option maxHeartbeats 4000000 in
set_option maxRecDepth 100000 in
theorem c_X3_requireTwoCompanies_same (ll : Launch) (hst : ll.stackTraces = false) (D : va_G) (sz : Nat) (o c : Nat) (ho : o < 6) (hc : c < 6) (heq : o = c) : vx_Met ll yX3_requireTwoCompanies wsX3_requireTwoCompanies rmX3_requireTwoCompanies_same (va_Pc [.int (nI (o)), .int (nI (c))] (PY D [] (([] : va_W)) sz)) (va_Qv (fun (_ : Unit) => False) (fun _ _ => True) (va_A (([] : va_W)) sz)) (XEG sz D [] (va_A (([] : va_W)) sz) (fun u : Unit => ([] : va_W)) RIA) 1 6 (va_A (([] : va_W)) sz) := by
  refine vx_ofW (cc := cX3_requireTwoCompanies) (maxL := 2) (ret := none) (by decide) rfl ?_
  intro pp ee ss mm ar bel mth cde s₁ B hml hno hv
  obtain ⟨rfl, ⟨hsz, hP, hK, hD0, hE, hV⟩, hDC⟩ := hv
  have hx := B.exec
  have hb := B.bytes
  have hr := B.returns
  have hts := atoms_spec (ws := wsX3_requireTwoCompanies) B.pre
  have hown : ss.vm.findClass RX3 = some mm.cls := findClass_of_methodNamed B.named
  have hlocks := B.notSynchronized
  subst hsz
  have hD := hD0.self (sz := ss.heap.size)
  generalize hAe : va_A (([] : va_W)) ss.heap.size = A at hD hV ⊢
  have hA : ∀ q : Nat, ss.heap.size ≤ q → A q := fun q h => by rw [← hAe]; exact Or.inr h
  have hS : va_S A ss.heap ss.heap [] := va_S.rf
  have hl := lv_entry [.int (nI (o)), .int (nI (c))] (n := 2) (Nat.le_of_ble_eq_true rfl)
  rw [lg_entry_eq]
  generalize (lg_sl [.int (nI (o)), .int (nI (c))] ++ List.replicate (2 - (lg_sl [.int (nI (o)), .int (nI (c))]).length) Slot.unset).toArray = ls at hl ⊢
  have hl : lv_has ls 2 [(0, .int (nI (o))), (1, .int (nI (c)))] := hl
  refine lv_iload_n hx hb dX3_requireTwoCompanies_0 rfl (lv_at hl 0 rfl) ?_
  refine va_csv (W.runS (As := [.int (nI (o))]) (rest := []) ⟨hx, hb, hml, hown, hts⟩ (c_X3_requireCompany_ok ll (nI (o)) (inB_c o ho)) (va_cwS 1 hts gX3_requireTwoCompanies_X3_requireCompany rfl rfl rfl (by decide +kernel) ⟨Nat.le_of_ble_eq_true rfl, Nat.le_of_ble_eq_true rfl⟩) ⟨PT.blind, PT.to⟩ rfl rfl hl.1 rfl (lv_room (Nat.le_of_ble_eq_true rfl)) dX3_requireTwoCompanies_1 ⟨Nat.le_of_ble_eq_true rfl, Nat.le_of_ble_eq_true rfl⟩) (fun _ => ?_)
  refine lv_iload_n hx hb dX3_requireTwoCompanies_4 rfl (lv_at hl 1 rfl) ?_
  refine va_csv (W.runS (As := [.int (nI (c))]) (rest := []) ⟨hx, hb, hml, hown, hts⟩ (c_X3_requireCompany_ok ll (nI (c)) (inB_c c hc)) (va_cwS 1 hts gX3_requireTwoCompanies_X3_requireCompany rfl rfl rfl (by decide +kernel) ⟨Nat.le_of_ble_eq_true rfl, Nat.le_of_ble_eq_true rfl⟩) ⟨PT.blind, PT.to⟩ rfl rfl hl.1 rfl (lv_room (Nat.le_of_ble_eq_true rfl)) dX3_requireTwoCompanies_5 ⟨Nat.le_of_ble_eq_true rfl, Nat.le_of_ble_eq_true rfl⟩) (fun _ => ?_)
  refine lv_iload_n hx hb dX3_requireTwoCompanies_8 rfl (lv_at hl 0 rfl) ?_
  refine lv_iload_n hx hb dX3_requireTwoCompanies_9 rfl (lv_at hl 1 rfl) ?_
  refine lv_icmp_ne (tgt := 23) hx hb dX3_requireTwoCompanies_10 (by decide) (fun c_1 => ?_) (fun c_1 => ?_)
  · have n_1 : ¬ ((o) = (c)) := fun h => c_1 ((nI_eq (a := o) (b := c) (by omega) (by omega)).mpr h)
    exact absurd heq n_1
  · have n_1 : (o) = (c) := (nI_eq (a := o) (b := c) (by omega) (by omega)).mp c_1
    obtain ⟨sa, hstr⟩ := hE.2.2.2.2.1
    refine b_throwG (S := Unit) (own := RX3) (cls := RIA) (text := "a company and itself") (ik := 155) (is := 163) (ic := 159) (sa := sa) () rfl hx hb hst hown (by decide +kernel) (hts (.classLink RX3 155 RIA) (List.mem_cons_of_mem _ (by first | exact List.mem_append_left _ (List.mem_of_getElem? (i := 0) rfl) | decide +kernel))) (hts (.initialized RIA) (List.mem_cons_of_mem _ (by first | exact List.mem_append_left _ (List.mem_of_getElem? (i := 1) rfl) | decide +kernel))) hstr (vx_hat (B := [.castable RIA RIA, .declares ⟨"java/lang/RuntimeException", "<init>", "(Ljava/lang/String;)V"⟩, .declares ⟨"java/lang/Exception", "<init>", "(Ljava/lang/String;)V"⟩, .declares ⟨"java/lang/Throwable", "<init>", "(Ljava/lang/String;)V"⟩]) (fun w h => hts w (List.mem_cons_of_mem _ (List.mem_append_right _ h))) (by decide +kernel) (vx_c (va_Nw.use rfl hE.2.1) (vx_c (va_Nw.use rfl hDC.1) (vx_c (va_Nw.use rfl hDC.2.1) (vx_c (va_Nw.use rfl hDC.2.2) vx_n))))) (by decide +kernel) hP hK hD hV hS (hl.1.trans hml.symm) dX3_requireTwoCompanies_13 dX3_requireTwoCompanies_16 dX3_requireTwoCompanies_17 dX3_requireTwoCompanies_19 dX3_requireTwoCompanies_22 hno (Nat.le_of_ble_eq_true rfl) (Nat.le_of_ble_eq_true rfl) (Nat.le_of_ble_eq_true rfl) (Nat.le_of_ble_eq_true rfl) hlocks

abbrev rmX3_difference_same : Room := ({ frames := 7, cells := 1, slots := 6, locals := 103 } : Room)
set_option maxHeartbeats 4000000 in
set_option maxRecDepth 100000 in
theorem c_X3_difference_same (ll : Launch) (hst : ll.stackTraces = false) (D : va_G) (a : Nat → Nat) (cI cJ : ClassId) (sz : Nat) (p : Nat → Int32) (nu de eq : Nat → Int64) (am nx oA oD oE oP cR aR hR cl ad gw pr : Nat → Int32) (n : Int32) (o c : Nat) (ho : o < 6) (hc : c < 6) (heq : o = c) : vx_Met ll yX3_difference wsX3_difference rmX3_difference_same (va_Pc [.ref (a 0), .int (nI (o)), .int (nI (c))] (PY D (tyG cI cJ) (GW a cI cJ p nu de eq am nx oA oD oE oP cR aR hR cl ad gw pr n) sz)) (va_Qi (fun (_ : Int32) (_ : Unit) => False) (fun _ _ => True) (va_A (GW a cI cJ p nu de eq am nx oA oD oE oP cR aR hR cl ad gw pr n) sz)) (XEG sz D (tyG cI cJ) (va_A (GW a cI cJ p nu de eq am nx oA oD oE oP cR aR hR cl ad gw pr n) sz) (fun u : Unit => GW a cI cJ p nu de eq am nx oA oD oE oP cR aR hR cl ad gw pr n) RIA) 1 6 (va_A (GW a cI cJ p nu de eq am nx oA oD oE oP cR aR hR cl ad gw pr n) sz) := by
  refine vx_ofW (cc := cX3_difference) (maxL := 3) (ret := (some .int)) (by decide) rfl ?_
  intro pp ee ss mm ar bel mth cde s₁ B hml hno hv
  obtain ⟨rfl, ⟨hsz, hP, hK, hD0, hE, hV⟩, hDC⟩ := hv
  have hx := B.exec
  have hb := B.bytes
  have hr := B.returns
  have hts := atoms_spec (ws := wsX3_difference) B.pre
  have hown : ss.vm.findClass RX3 = some mm.cls := findClass_of_methodNamed B.named
  have hlocks := B.notSynchronized
  subst hsz
  have hD := hD0.self (sz := ss.heap.size)
  generalize hAe : va_A (GW a cI cJ p nu de eq am nx oA oD oE oP cR aR hR cl ad gw pr n) ss.heap.size = A at hD hV ⊢
  have hA : ∀ q : Nat, ss.heap.size ≤ q → A q := fun q h => by rw [← hAe]; exact Or.inr h
  have hS : va_S A ss.heap ss.heap [] := va_S.rf
  have hin : ∀ w ∈ wsX30, w.before ([.ref (a 0), .int (nI (o)), .int (nI (c))] : List Value).toArray ss = true := fun w h => hts w ((by decide +kernel : ∀ w ∈ wsX30, w ∈ wsX3_difference) w h)
  have hl := lv_entry [.ref (a 0), .int (nI (o)), .int (nI (c))] (n := 3) (Nat.le_of_ble_eq_true rfl)
  rw [lg_entry_eq]
  generalize (lg_sl [.ref (a 0), .int (nI (o)), .int (nI (c))] ++ List.replicate (3 - (lg_sl [.ref (a 0), .int (nI (o)), .int (nI (c))]).length) Slot.unset).toArray = ls at hl ⊢
  have hl : lv_has ls 3 [(0, .ref (a 0)), (1, .int (nI (o))), (2, .int (nI (c)))] := hl
  refine lv_iload_n hx hb dX3_difference_0 rfl (lv_at hl 1 rfl) ?_
  refine lv_iload_n hx hb dX3_difference_1 rfl (lv_at hl 2 rfl) ?_
  refine b_badG (S := Unit) () rfl hno hlocks hP hK hD hS hA (vx_runS (As := [.int (nI (o)), .int (nI (c))]) (rest := []) ⟨hx, hb, hml, hown, hts⟩ (c_X3_requireTwoCompanies_same ll hst D _ o c ho hc heq) (va_cwS 2 hts gX3_difference_X3_requireTwoCompanies rfl rfl rfl (by decide +kernel) ⟨Nat.le_of_ble_eq_true rfl, Nat.le_of_ble_eq_true rfl⟩) ⟨PY.blind, PY.go0 hK hE hV hDC hS hA⟩ rfl rfl hl.1 rfl (lv_room (Nat.le_of_ble_eq_true rfl)) dX3_difference_2 ⟨Nat.le_of_ble_eq_true rfl, Nat.le_of_ble_eq_true rfl⟩)

abbrev rmL_calls_ne : Room := ({ frames := 4, cells := 0, slots := 0, locals := 85 } : Room)
set_option maxHeartbeats 4000000 in
set_option maxRecDepth 100000 in
theorem c_L_calls_ne (ll : Launch) (D : va_G) (a : Nat → Nat) (cI cJ : ClassId) (am nx nw : Nat → Int32) (o c : Nat) (ho : o < 6) (hc : c < 6) (hne : ¬ o = c) : Met ll yL_calls wsL_calls rmL_calls_ne (va_Pc [.ref (a 0), .int (5), .int (nI (o)), .int (nI (c)), .int (0), .int (0)] (PR D (tyG cI cJ) (KW a cI cJ am nx nw))) (vp_Si (fun rr => rr = 0)) 0 0 (fun _ => False) := by
  refine ofWC (cc := cL_calls) (maxL := 7) (ret := (some .int)) (hh := [(0, 83, 84, 34), (0, 83, 89, 37)]) (by decide) rfl ?_
  intro pp ee ss mm ar bel mth cde s₁ B hml htab hv
  obtain ⟨rfl, hP, hK, hE⟩ := hv
  have hx := B.exec
  have hb := B.bytes
  have hr := B.returns
  have hts := atoms_spec (ws := wsL_calls) B.pre
  have hown : ss.vm.findClass RL = some mm.cls := findClass_of_methodNamed B.named
  have hlocks := B.notSynchronized
  have hl := lv_entry [.ref (a 0), .int (5), .int (nI (o)), .int (nI (c)), .int (0), .int (0)] (n := 7) (Nat.le_of_ble_eq_true rfl)
  rw [lg_entry_eq]
  generalize (lg_sl [.ref (a 0), .int (5), .int (nI (o)), .int (nI (c)), .int (0), .int (0)] ++ List.replicate (7 - (lg_sl [.ref (a 0), .int (5), .int (nI (o)), .int (nI (c)), .int (0), .int (0)]).length) Slot.unset).toArray = ls at hl ⊢
  have hl : lv_has ls 7 [(0, .ref (a 0)), (1, .int (5)), (2, .int (nI (o))), (3, .int (nI (c))), (4, .int (0)), (5, .int (0))] := hl
  refine lv_iload_n hx hb dL_calls_0 rfl (lv_at hl 1 rfl) ?_
  refine lv_if_ne (tgt := 15) hx hb dL_calls_1 (by decide) (fun c_1 => ?_) (fun c_1 => ?_)
  · have n_1 := c_1
    refine lv_iload_n hx hb dL_calls_15 rfl (lv_at hl 1 rfl) ?_
    refine lv_iconst (v := 1) hx hb dL_calls_16 (by decide) ?_
    refine lv_icmp_ne (tgt := 33) hx hb dL_calls_17 (by decide) (fun c_2 => ?_) (fun c_2 => ?_)
    · have n_2 := c_2
      refine lv_iload_n hx hb dL_calls_33 rfl (lv_at hl 1 rfl) ?_
      refine lv_iconst (v := 2) hx hb dL_calls_34 (by decide) ?_
      refine lv_icmp_ne (tgt := 49) hx hb dL_calls_35 (by decide) (fun c_3 => ?_) (fun c_3 => ?_)
      · have n_3 := c_3
        refine lv_iload_n hx hb dL_calls_49 rfl (lv_at hl 1 rfl) ?_
        refine lv_iconst (v := 3) hx hb dL_calls_50 (by decide) ?_
        refine lv_icmp_ne (tgt := 65) hx hb dL_calls_51 (by decide) (fun c_4 => ?_) (fun c_4 => ?_)
        · have n_4 := c_4
          refine lv_iload_n hx hb dL_calls_65 rfl (lv_at hl 1 rfl) ?_
          refine lv_iconst (v := 4) hx hb dL_calls_66 (by decide) ?_
          refine lv_icmp_ne (tgt := 77) hx hb dL_calls_67 (by decide) (fun c_5 => ?_) (fun c_5 => ?_)
          · have n_5 := c_5
            refine lv_aload_n hx hb dL_calls_77 rfl (lv_at hl 0 rfl) ?_
            refine lv_iload_n hx hb dL_calls_78 rfl (lv_at hl 2 rfl) ?_
            refine lv_iload_n hx hb dL_calls_79 rfl (lv_at hl 3 rfl) ?_
            refine b_csi (v := z32 (6 * o + c) - z32 (6 * o + c)) (W.runV (As := [.int (nI (o)), .int (nI (c))]) (rest := []) ⟨hx, hb, hml, hown, hts⟩ (c_X3_difference ll D a cI cJ z32 (nuI 6) (dnmI 6) z64 am nx z32 z32 z32 z32 (rtI 6) (rtI 6) (rtI 6) z32 z32 z32 z32 0 o c ho hc (prB_c o ho c hc hne)) (cwV 2 hts gL_calls_X3_difference rfl rfl rfl (by decide +kernel) ⟨Nat.le_of_ble_eq_true rfl, Nat.le_of_ble_eq_true rfl⟩) ⟨PR.blind, va_recv hK hP (ci := 3) (q0 := 0) rfl rfl, PR.goP (wr := (LR a cI nw)) hP hK hE⟩ rfl rfl hl.1 rfl (lv_room (Nat.le_of_ble_eq_true rfl)) dL_calls_80 ⟨Nat.le_of_ble_eq_true rfl, Nat.le_of_ble_eq_true rfl⟩) ?_
            refine b_ti (y := 0) (show (0 : Int32) - 0 = 0 by decide) ?_
            exact W.iret hx hb hr (fun t ht _ => ⟨_, rfl, rfl, ht⟩) (fun _ h => nomatch h) dL_calls_83
          · have n_5 := c_5
            exact absurd c_5 (by decide)
        · have n_4 := c_4
          exact absurd c_4 (by decide)
      · have n_3 := c_3
        exact absurd c_3 (by decide)
    · have n_2 := c_2
      exact absurd c_2 (by decide)
  · have n_1 := c_1
    exact absurd c_1 (by decide)

abbrev rmL_calls_eq : Room := ({ frames := 8, cells := 1, slots := 6, locals := 125 } : Room)
set_option maxHeartbeats 4000000 in
set_option maxRecDepth 100000 in
theorem c_L_calls_eq (ll : Launch) (hst : ll.stackTraces = false) (D : va_G) (a : Nat → Nat) (cI cJ : ClassId) (sz : Nat) (am nx nw : Nat → Int32) (o c : Nat) (ho : o < 6) (hc : c < 6) (heq : o = c) : Met ll yL_calls wsL_calls rmL_calls_eq (va_Pc [.ref (a 0), .int (5), .int (nI (o)), .int (nI (c)), .int (0), .int (0)] (PY D (tyG cI cJ) (KW a cI cJ am nx nw) sz)) (va_Qi (fun (rr : Int32) (u : Unit) => rr = (-2000002)) (fun (_ : Unit) t => AW D (tyG cI cJ) (va_A (KW a cI cJ am nx nw) sz) (KW a cI cJ am nx nw) t ∧ sz + (1) ≤ t.heap.size) (va_A (KW a cI cJ am nx nw) sz)) 1 6 (va_A (KW a cI cJ am nx nw) sz) := by
  refine ofWC (cc := cL_calls) (maxL := 7) (ret := (some .int)) (hh := [(0, 83, 84, 34), (0, 83, 89, 37)]) (by decide) rfl ?_
  intro pp ee ss mm ar bel mth cde s₁ B hml htab hv
  obtain ⟨rfl, ⟨hsz, hP, hK, hD0, hE, hV⟩, hDC⟩ := hv
  have hx := B.exec
  have hb := B.bytes
  have hr := B.returns
  have hts := atoms_spec (ws := wsL_calls) B.pre
  have hown : ss.vm.findClass RL = some mm.cls := findClass_of_methodNamed B.named
  have hlocks := B.notSynchronized
  subst hsz
  have hD := hD0.self (sz := ss.heap.size)
  generalize hAe : va_A (KW a cI cJ am nx nw) ss.heap.size = A at hD hV ⊢
  have hA : ∀ q : Nat, ss.heap.size ≤ q → A q := fun q h => by rw [← hAe]; exact Or.inr h
  have hS : va_S A ss.heap ss.heap [] := va_S.rf
  have hg : ss.heap.size + 0 ≤ ss.heap.size := Nat.le_refl _
  have hl := lv_entry [.ref (a 0), .int (5), .int (nI (o)), .int (nI (c)), .int (0), .int (0)] (n := 7) (Nat.le_of_ble_eq_true rfl)
  rw [lg_entry_eq]
  generalize (lg_sl [.ref (a 0), .int (5), .int (nI (o)), .int (nI (c)), .int (0), .int (0)] ++ List.replicate (7 - (lg_sl [.ref (a 0), .int (5), .int (nI (o)), .int (nI (c)), .int (0), .int (0)]).length) Slot.unset).toArray = ls at hl ⊢
  have hl : lv_has ls 7 [(0, .ref (a 0)), (1, .int (5)), (2, .int (nI (o))), (3, .int (nI (c))), (4, .int (0)), (5, .int (0))] := hl
  refine lv_iload_n hx hb dL_calls_0 rfl (lv_at hl 1 rfl) ?_
  refine lv_if_ne (tgt := 15) hx hb dL_calls_1 (by decide) (fun c_1 => ?_) (fun c_1 => ?_)
  · have n_1 := c_1
    refine lv_iload_n hx hb dL_calls_15 rfl (lv_at hl 1 rfl) ?_
    refine lv_iconst (v := 1) hx hb dL_calls_16 (by decide) ?_
    refine lv_icmp_ne (tgt := 33) hx hb dL_calls_17 (by decide) (fun c_2 => ?_) (fun c_2 => ?_)
    · have n_2 := c_2
      refine lv_iload_n hx hb dL_calls_33 rfl (lv_at hl 1 rfl) ?_
      refine lv_iconst (v := 2) hx hb dL_calls_34 (by decide) ?_
      refine lv_icmp_ne (tgt := 49) hx hb dL_calls_35 (by decide) (fun c_3 => ?_) (fun c_3 => ?_)
      · have n_3 := c_3
        refine lv_iload_n hx hb dL_calls_49 rfl (lv_at hl 1 rfl) ?_
        refine lv_iconst (v := 3) hx hb dL_calls_50 (by decide) ?_
        refine lv_icmp_ne (tgt := 65) hx hb dL_calls_51 (by decide) (fun c_4 => ?_) (fun c_4 => ?_)
        · have n_4 := c_4
          refine lv_iload_n hx hb dL_calls_65 rfl (lv_at hl 1 rfl) ?_
          refine lv_iconst (v := 4) hx hb dL_calls_66 (by decide) ?_
          refine lv_icmp_ne (tgt := 77) hx hb dL_calls_67 (by decide) (fun c_5 => ?_) (fun c_5 => ?_)
          · have n_5 := c_5
            refine lv_aload_n hx hb dL_calls_77 rfl (lv_at hl 0 rfl) ?_
            refine lv_iload_n hx hb dL_calls_78 rfl (lv_at hl 2 rfl) ?_
            refine lv_iload_n hx hb dL_calls_79 rfl (lv_at hl 3 rfl) ?_
            refine b_catchG (wc := KG a cI cJ am nx) (wr := (LR a cI nw)) (S := Unit) (name := RIA) (E0 := RIA) hP hD hS hA (vx_runV (As := [.int (nI (o)), .int (nI (c))]) (rest := []) ⟨hx, hb, hml, hown, hts⟩ (c_X3_difference_same ll hst D a cI cJ _ z32 (nuI 6) (dnmI 6) z64 am nx z32 z32 z32 z32 (rtI 6) (rtI 6) (rtI 6) z32 z32 z32 z32 0 o c ho hc heq) (cwV 2 hts gL_calls_X3_difference rfl rfl rfl (by decide +kernel) ⟨Nat.le_of_ble_eq_true rfl, Nat.le_of_ble_eq_true rfl⟩) ⟨PY.blind, va_recv hK hP (ci := 3) (q0 := 0) rfl rfl, PY.go (wr := (LR a cI nw)) hP hK hD hE hV hDC hS hA⟩ rfl rfl hl.1 rfl (lv_room (Nat.le_of_ble_eq_true rfl)) dL_calls_80 ⟨Nat.le_of_ble_eq_true rfl, Nat.le_of_ble_eq_true rfl⟩) (fun v st t h => by obtain ⟨⟨_, _, _, h9, _⟩, _⟩ := h; exact h9) hown [] ⟨0, 83, 84, 34⟩ [⟨0, 83, 89, 37⟩] htab (fun z hz => by cases hz) (by decide) (by decide) (hts (.classLink RL 34 RIA) (by decide +kernel)) (va_Nw.use rfl hE.2.1) (fun u q9 H locs hgN hP hD hS => ?_)
            refine lv_astore (lv' := [(6, .ref (q9)), (0, .ref (a 0)), (1, .int (5)), (2, .int (nI (o))), (3, .int (nI (c))), (4, .int (0)), (5, .int (0))]) hx hb dL_calls_84 hl (by decide) rfl (fun ls hl => ?_)
            refine lv_ldc (v := -2000002) hx hb hown (hts (.constant RL 36 (-2000002)) (by decide +kernel)) dL_calls_86 ?_
            refine W.widen (k := 1) (n := 6) (by omega) (by omega) ?_
            exact W.iret hx hb hr (fun t ht hW => ⟨⟨_, (), rfl, rfl, ⟨(by rw [ht]; exact hP), va_K.moved hW.alike hK, hD⟩, (by rw [ht]; omega)⟩, hS.F ht⟩) hS.2.2 dL_calls_88
          · have n_5 := c_5
            exact absurd c_5 (by decide)
        · have n_4 := c_4
          exact absurd c_4 (by decide)
      · have n_3 := c_3
        exact absurd c_3 (by decide)
    · have n_2 := c_2
      exact absurd c_2 (by decide)
  · have n_1 := c_1
    exact absurd c_1 (by decide)

abbrev rmL_calls_hold : Room := ({ frames := 10, cells := 1, slots := 6, locals := 169 } : Room)
set_option maxHeartbeats 4000000 in
set_option maxRecDepth 100000 in
theorem c_L_calls_hold (ll : Launch) (hst : ll.stackTraces = false) (D : va_G) (a : Nat → Nat) (cI cJ : ClassId) (sz : Nat) (am nx nw : Nat → Int32)   : Met ll yL_calls wsL_calls rmL_calls_hold (va_Pc [.ref (a 0), .int (0), .int (0), .int (0), .int (100), .int (0)] (PY D (tyG cI cJ) (KW a cI cJ am nx nw) sz)) (va_Qi (fun (rr : Int32) (u : Unit) => rr = (-2000002)) (fun (_ : Unit) t => AW D (tyG cI cJ) (va_A (KW a cI cJ am nx nw) sz) (KW a cI cJ am nx nw) t ∧ sz + (0) ≤ t.heap.size) (va_A (KW a cI cJ am nx nw) sz)) 1 6 (va_A (KW a cI cJ am nx nw) sz) := by
  refine ofWC (cc := cL_calls) (maxL := 7) (ret := (some .int)) (hh := [(0, 83, 84, 34), (0, 83, 89, 37)]) (by decide) rfl ?_
  intro pp ee ss mm ar bel mth cde s₁ B hml htab hv
  obtain ⟨rfl, ⟨hsz, hP, hK, hD0, hE, hV⟩, hDC⟩ := hv
  have hx := B.exec
  have hb := B.bytes
  have hr := B.returns
  have hts := atoms_spec (ws := wsL_calls) B.pre
  have hown : ss.vm.findClass RL = some mm.cls := findClass_of_methodNamed B.named
  have hlocks := B.notSynchronized
  subst hsz
  have hD := hD0.self (sz := ss.heap.size)
  generalize hAe : va_A (KW a cI cJ am nx nw) ss.heap.size = A at hD hV ⊢
  have hA : ∀ q : Nat, ss.heap.size ≤ q → A q := fun q h => by rw [← hAe]; exact Or.inr h
  have hS : va_S A ss.heap ss.heap [] := va_S.rf
  have hg : ss.heap.size + 0 ≤ ss.heap.size := Nat.le_refl _
  have hl := lv_entry [.ref (a 0), .int (0), .int (0), .int (0), .int (100), .int (0)] (n := 7) (Nat.le_of_ble_eq_true rfl)
  rw [lg_entry_eq]
  generalize (lg_sl [.ref (a 0), .int (0), .int (0), .int (0), .int (100), .int (0)] ++ List.replicate (7 - (lg_sl [.ref (a 0), .int (0), .int (0), .int (0), .int (100), .int (0)]).length) Slot.unset).toArray = ls at hl ⊢
  have hl : lv_has ls 7 [(0, .ref (a 0)), (1, .int (0)), (2, .int (0)), (3, .int (0)), (4, .int (100)), (5, .int (0))] := hl
  refine lv_iload_n hx hb dL_calls_0 rfl (lv_at hl 1 rfl) ?_
  refine lv_if_ne (tgt := 15) hx hb dL_calls_1 (by decide) (fun c_1 => ?_) (fun c_1 => ?_)
  · have n_1 := c_1
    exact absurd c_1 (by decide)
  · have n_1 := c_1
    refine lv_aload_n hx hb dL_calls_4 rfl (lv_at hl 0 rfl) ?_
    refine lv_iload_n hx hb dL_calls_5 rfl (lv_at hl 2 rfl) ?_
    refine lv_iload_n hx hb dL_calls_6 rfl (lv_at hl 3 rfl) ?_
    refine lv_iload hx hb dL_calls_7 (lv_at hl 4 rfl) ?_
    refine b_catchN (wc := KG a cI cJ am nx) (wr := (LR a cI nw)) (S := Unit) (name := RIA) (E0 := RIA) hP hD hS hA (vx_runV (As := [.int (0), .int (0), .int (100)]) (rest := []) ⟨hx, hb, hml, hown, hts⟩ (c_X3_hold_bad ll hst D a cI cJ _ z32 (nuI 6) (dnmI 6) z64 am nx z32 z32 z32 z32 (rtI 6) (rtI 6) (rtI 6) z32 z32 z32 z32 0 0 0 100 (by decide)) (cwV 3 hts gL_calls_X3_hold rfl rfl rfl (by decide +kernel) ⟨Nat.le_of_ble_eq_true rfl, Nat.le_of_ble_eq_true rfl⟩) ⟨PY.blind, va_recv hK hP (ci := 3) (q0 := 0) rfl rfl, PY.go (wr := (LR a cI nw)) hP hK hD hE hV hDC hS hA⟩ rfl rfl hl.1 rfl (lv_room (Nat.le_of_ble_eq_true rfl)) dL_calls_9 ⟨Nat.le_of_ble_eq_true rfl, Nat.le_of_ble_eq_true rfl⟩) (fun v st t h => by obtain ⟨⟨_, _, _, h9, _⟩, _⟩ := h; exact h9) hown [] ⟨0, 83, 84, 34⟩ [⟨0, 83, 89, 37⟩] htab (fun z hz => by cases hz) (by decide) (by decide) (hts (.classLink RL 34 RIA) (by decide +kernel)) (va_Nw.use rfl hE.2.1) (fun u q9 H locs hgN hP hD hS => ?_)
    refine lv_astore (lv' := [(6, .ref (q9)), (0, .ref (a 0)), (1, .int (0)), (2, .int (0)), (3, .int (0)), (4, .int (100)), (5, .int (0))]) hx hb dL_calls_84 hl (by decide) rfl (fun ls hl => ?_)
    refine lv_ldc (v := -2000002) hx hb hown (hts (.constant RL 36 (-2000002)) (by decide +kernel)) dL_calls_86 ?_
    refine W.widen (k := 1) (n := 6) (by omega) (by omega) ?_
    exact W.iret hx hb hr (fun t ht hW => ⟨⟨_, (), rfl, rfl, ⟨(by rw [ht]; exact hP), va_K.moved hW.alike hK, hD⟩, (by rw [ht]; omega)⟩, hS.F ht⟩) hS.2.2 dL_calls_88
