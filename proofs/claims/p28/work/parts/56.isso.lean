abbrev rmL_isSo : Room := ({ frames := 9, cells := 6, slots := 36, locals := 151 } : Room)
set_option maxHeartbeats 4000000 in
set_option maxRecDepth 100000 in
theorem c_L_isSo (ll : Launch) (hst : ll.stackTraces = false) (D : va_G) (a : Nat → Nat) (cI cJ : ClassId) (sz : Nat) (am nx nw : Nat → Int32)   : Met ll yL_isSo wsL_isSo rmL_isSo (va_Pc [.ref (a 0), .ref (a 21), .ref (a 22), .ref (a 23), .ref (a 24), .ref (a 25), .ref (a 26)] (PY D (tyG cI cJ) (KW a cI cJ am nx nw) sz)) (va_Qi (fun (rr : Int32) (u : Unit) => rr = 1) (fun (_ : Unit) t => AW D (tyG cI cJ) (va_A (KW a cI cJ am nx nw) sz) (KW a cI cJ am nx nw) t ∧ sz + (6) ≤ t.heap.size) (va_A (KW a cI cJ am nx nw) sz)) 6 36 (va_A (KW a cI cJ am nx nw) sz) := by
  refine Met.ofW (cc := cL_isSo) (maxL := 20) (ret := (some .boolean)) (by decide) rfl ?_
  intro pp ee ss mm ar bel mth cde s₁ B hml hv
  obtain ⟨rfl, ⟨hsz, hP, hK, hD0, hE, hV⟩, hDC⟩ := hv
  have hx := B.exec
  have hb := B.bytes
  have hr := B.returns
  have hts := atoms_spec (ws := wsL_isSo) B.pre
  have hown : ss.vm.findClass RL = some mm.cls := findClass_of_methodNamed B.named
  have hlocks := B.notSynchronized
  subst hsz
  have hD := hD0.self (sz := ss.heap.size)
  generalize hAe : va_A (KW a cI cJ am nx nw) ss.heap.size = A at hD hV ⊢
  have hA : ∀ q : Nat, ss.heap.size ≤ q → A q := fun q h => by rw [← hAe]; exact Or.inr h
  have hS : va_S A ss.heap ss.heap [] := va_S.rf
  have hg : ss.heap.size + 0 ≤ ss.heap.size := Nat.le_refl _
  have hl := lv_entry [.ref (a 0), .ref (a 21), .ref (a 22), .ref (a 23), .ref (a 24), .ref (a 25), .ref (a 26)] (n := 20) (Nat.le_of_ble_eq_true rfl)
  rw [lg_entry_eq]
  generalize (lg_sl [.ref (a 0), .ref (a 21), .ref (a 22), .ref (a 23), .ref (a 24), .ref (a 25), .ref (a 26)] ++ List.replicate (20 - (lg_sl [.ref (a 0), .ref (a 21), .ref (a 22), .ref (a 23), .ref (a 24), .ref (a 25), .ref (a 26)]).length) Slot.unset).toArray = ls at hl ⊢
  have hl : lv_has ls 20 [(0, .ref (a 0)), (1, .ref (a 21)), (2, .ref (a 22)), (3, .ref (a 23)), (4, .ref (a 24)), (5, .ref (a 25)), (6, .ref (a 26))] := hl
  generalize hZ : MQ bel _ _ ss _ _ _ = Z
  refine lv_aload_n hx hb dL_isSo_0 rfl (lv_at hl 1 rfl) ?_
  refine b_csi (v := 1) (W.runS (As := [.ref (a 21)]) (rest := []) ⟨hx, hb, hml, hown, hts⟩ (c_L_group ll D a cI cJ am nx nw  ) (va_cwS 1 hts gL_isSo_L_group rfl rfl rfl (by decide +kernel) ⟨Nat.le_of_ble_eq_true rfl, Nat.le_of_ble_eq_true rfl⟩) ⟨PR.blind, PR.go hP hK hE⟩ rfl rfl hl.1 rfl (lv_room (Nat.le_of_ble_eq_true rfl)) dL_isSo_1 ⟨(by show 0 + 0 ≤ 6; omega), (by show 0 + 0 ≤ 36; omega)⟩) ?_
  refine lv_istore (lv' := [(7, .int (1)), (0, .ref (a 0)), (1, .ref (a 21)), (2, .ref (a 22)), (3, .ref (a 23)), (4, .ref (a 24)), (5, .ref (a 25)), (6, .ref (a 26))]) hx hb dL_isSo_4 hl (by decide) rfl (fun ls hl => ?_)
  refine lv_iconst (v := 0) hx hb dL_isSo_6 (by decide) ?_
  refine lv_istore (lv' := [(8, .int (0)), (7, .int (1)), (0, .ref (a 0)), (1, .ref (a 21)), (2, .ref (a 22)), (3, .ref (a 23)), (4, .ref (a 24)), (5, .ref (a 25)), (6, .ref (a 26))]) hx hb dL_isSo_7 hl (by decide) rfl (fun ls hl => ?_)
  refine lv_iconst (v := 0) hx hb dL_isSo_9 (by decide) ?_
  refine lv_istore (lv' := [(9, .int (0)), (8, .int (0)), (7, .int (1)), (0, .ref (a 0)), (1, .ref (a 21)), (2, .ref (a 22)), (3, .ref (a 23)), (4, .ref (a 24)), (5, .ref (a 25)), (6, .ref (a 26))]) hx hb dL_isSo_10 hl (by decide) rfl (fun ls hl => ?_)
  refine lv_iconst (v := 0) hx hb dL_isSo_12 (by decide) ?_
  refine lv_istore (lv' := [(10, .int (0)), (9, .int (0)), (8, .int (0)), (7, .int (1)), (0, .ref (a 0)), (1, .ref (a 21)), (2, .ref (a 22)), (3, .ref (a 23)), (4, .ref (a 24)), (5, .ref (a 25)), (6, .ref (a 26))]) hx hb dL_isSo_13 hl (by decide) rfl (fun ls hl => ?_)
  refine lv_iconst (v := 0) hx hb dL_isSo_15 (by decide) ?_
  refine lv_istore (lv' := [(11, .int (0)), (10, .int (0)), (9, .int (0)), (8, .int (0)), (7, .int (1)), (0, .ref (a 0)), (1, .ref (a 21)), (2, .ref (a 22)), (3, .ref (a 23)), (4, .ref (a 24)), (5, .ref (a 25)), (6, .ref (a 26))]) hx hb dL_isSo_16 hl (by decide) rfl (fun ls hl => ?_)
  refine lv_aload_n hx hb dL_isSo_18 rfl (lv_at hl 5 rfl) ?_
  refine b_csi (v := nI (mem z32 5)) (W.runV (As := []) (rest := []) ⟨hx, hb, hml, hown, hts⟩ (c_X3_group ll D a cI cJ z32 (nuI 6) (dnmI 6) z64 am nx z32 z32 z32 z32 (rtI 6) (rtI 6) (rtI 6) z32 z32 z32 z32 0  ) (cwV 0 hts gL_isSo_X3_group rfl rfl rfl (by decide +kernel) ⟨Nat.le_of_ble_eq_true rfl, Nat.le_of_ble_eq_true rfl⟩) ⟨PR.blind, va_recv hK hP (ci := 3) (q0 := 0) rfl rfl, PR.goP (wr := (LR a cI nw)) hP hK hE⟩ rfl rfl hl.1 rfl (lv_room (Nat.le_of_ble_eq_true rfl)) dL_isSo_19 ⟨(by show 0 + 0 ≤ 6; omega), (by show 0 + 0 ≤ 36; omega)⟩) ?_
  refine b_ti (y := 1) kq_group ?_
  refine lv_iload hx hb dL_isSo_22 (lv_at hl 4 rfl) ?_
  refine lv_icmp_ne (tgt := 31) hx hb dL_isSo_24 (by decide) (fun c_1 => ?_) (fun c_1 => ?_)
  · have n_1 := c_1
    exact absurd c_1 (by decide)
  · have n_1 := c_1
    refine lv_iconst (v := 1) hx hb dL_isSo_27 (by decide) ?_
    refine lv_goto (tgt := 32) hx hb dL_isSo_28 (by decide) ?_
    refine lv_istore (lv' := [(12, .int (1)), (11, .int (0)), (10, .int (0)), (9, .int (0)), (8, .int (0)), (7, .int (1)), (0, .ref (a 0)), (1, .ref (a 21)), (2, .ref (a 22)), (3, .ref (a 23)), (4, .ref (a 24)), (5, .ref (a 25)), (6, .ref (a 26))]) hx hb dL_isSo_32 hl (by decide) rfl (fun ls hl => ?_)
    refine lv_iconst (v := 0) hx hb dL_isSo_34 (by decide) ?_
    refine lv_istore (lv' := [(13, .int (0)), (12, .int (1)), (11, .int (0)), (10, .int (0)), (9, .int (0)), (8, .int (0)), (7, .int (1)), (0, .ref (a 0)), (1, .ref (a 21)), (2, .ref (a 22)), (3, .ref (a 23)), (4, .ref (a 24)), (5, .ref (a 25)), (6, .ref (a 26))]) hx hb dL_isSo_35 hl (by decide) rfl (fun ls hl => ?_)
    have L1 : ∀ (n1 k1 : Nat), k1 + n1 = 6 → ∀ (cl1 sl1 : Nat) (H : Heap) (locs : List Loc) (ls : Array Slot), cl1 ≤ k1 → sl1 ≤ 6 * (k1) → ss.heap.size + (k1) ≤ H.size → va_P D vwCl (KW a cI cJ am nx nw) H → va_D A (KW a cI cJ am nx nw) → va_S A ss.heap H locs → lv_has ls 20 [(13, .int (nI (k1))), (12, .int (1)), (11, .int (0)), (10, .int (0)), (9, .int (0)), (8, .int (0)), (7, .int (1)), (0, .ref (a 0)), (1, .ref (a 21)), (2, .ref (a 22)), (3, .ref (a 23)), (4, .ref (a 24)), (5, .ref (a 25)), (6, .ref (a 26))] → W pp ll ee rmL_isSo ss mm (([.ref (a 0), .ref (a 21), .ref (a 22), .ref (a 23), .ref (a 24), .ref (a 25), .ref (a 26)] : List Value).toArray) bel mth cde H locs cl1 sl1 Z (F0 mm 37 ls []) := by
      intro n1
      induction n1 with
      | zero =>
        intro k1 hk1  cl1 sl1 H locs ls hcl1 hsl1 hg hP hD hS hl
        have hk1b : 6 = k1 := by omega
        subst hk1b
        refine lv_iload hx hb dL_isSo_37 (lv_at hl 0 rfl) ?_
        refine lv_bipush (v := 6) hx hb dL_isSo_39 (by decide) ?_
        refine lv_icmp_ge (tgt := 509) hx hb dL_isSo_41 (by decide) (fun c_2 => ?_) (fun c_2 => ?_)
        · have n_2 : (6) ≤ (6) := (nI_leI (a := 6) (b := 6) (by omega) (by omega)).mp c_2
          refine lv_iconst (v := 0) hx hb dL_isSo_509 (by decide) ?_
          refine lv_istore (lv' := [(13, .int (0)), (12, .int (1)), (11, .int (0)), (10, .int (0)), (9, .int (0)), (8, .int (0)), (7, .int (1)), (0, .ref (a 0)), (1, .ref (a 21)), (2, .ref (a 22)), (3, .ref (a 23)), (4, .ref (a 24)), (5, .ref (a 25)), (6, .ref (a 26))]) hx hb dL_isSo_510 hl (by decide) rfl (fun ls hl => ?_)
          refine lv_iload hx hb dL_isSo_512 (lv_at hl 0 rfl) ?_
          refine lv_aload hx hb dL_isSo_514 (lv_at hl 13 rfl) ?_
          refine lv_iconst (v := 0) hx hb dL_isSo_516 (by decide) ?_
          refine b_iald hx hb hK hP 26 0 (f := z32) rfl rfl (j := 0) (by omega) (by decide) dL_isSo_517 ?_
          refine b_ti (y := 0) rfl ?_
          refine lv_icmp_ge (tgt := 556) hx hb dL_isSo_518 (by decide) (fun c_3 => ?_) (fun c_3 => ?_)
          · have n_3 := c_3
            refine lv_iload hx hb dL_isSo_556 (lv_at hl 1 rfl) ?_
            refine lv_if_eq (tgt := 628) hx hb dL_isSo_558 (by decide) (fun c_4 => ?_) (fun c_4 => ?_)
            · have n_4 := c_4
              exact absurd c_4 (by decide)
            · have n_4 := c_4
              refine lv_aload_n hx hb dL_isSo_561 rfl (lv_at hl 7 rfl) ?_
              refine b_csi (v := agO z32 z32 (mem z32 5) 6) (W.runV (As := []) (rest := []) ⟨hx, hb, hml, hown, hts⟩ (c_X3_eliminated ll D a cI cJ z32 (nuI 6) (dnmI 6) z64 am nx z32 z32 z32 z32 (rtI 6) (rtI 6) (rtI 6) z32 z32 z32 z32 0  ) (cwV 0 hts gL_isSo_X3_eliminated rfl rfl rfl (by decide +kernel) ⟨Nat.le_of_ble_eq_true rfl, Nat.le_of_ble_eq_true rfl⟩) ⟨PR.blind, va_recv hK hP (ci := 3) (q0 := 0) rfl rfl, PR.goP (wr := (LR a cI nw)) hP hK hE⟩ rfl rfl hl.1 rfl (lv_room (Nat.le_of_ble_eq_true rfl)) dL_isSo_562 ⟨(by show cl1 + 0 ≤ 6; omega), (by show sl1 + 0 ≤ 36; omega)⟩) ?_
              refine b_ti (y := 0) kq_elim ?_
              refine lv_iload hx hb dL_isSo_565 (lv_at hl 3 rfl) ?_
              refine lv_icmp_ne (tgt := 628) hx hb dL_isSo_567 (by decide) (fun c_5 => ?_) (fun c_5 => ?_)
              · have n_5 := c_5
                exact absurd c_5 (by decide)
              · have n_5 := c_5
                refine lv_aload_n hx hb dL_isSo_570 rfl (lv_at hl 7 rfl) ?_
                refine b_csi (v := caS z32 (rtI 6) (mem z32 5) 6 - agO z32 z32 (mem z32 5) 6) (W.runV (As := []) (rest := []) ⟨hx, hb, hml, hown, hts⟩ (c_X3_assets ll D a cI cJ z32 (nuI 6) (dnmI 6) z64 am nx z32 z32 z32 z32 (rtI 6) (rtI 6) (rtI 6) z32 z32 z32 z32 0  ) (cwV 0 hts gL_isSo_X3_assets rfl rfl rfl (by decide +kernel) ⟨Nat.le_of_ble_eq_true rfl, Nat.le_of_ble_eq_true rfl⟩) ⟨PR.blind, va_recv hK hP (ci := 3) (q0 := 0) rfl rfl, PR.goP (wr := (LR a cI nw)) hP hK hE⟩ rfl rfl hl.1 rfl (lv_room (Nat.le_of_ble_eq_true rfl)) dL_isSo_571 ⟨(by show cl1 + 0 ≤ 6; omega), (by show sl1 + 0 ≤ 36; omega)⟩) ?_
                refine b_ti (y := 0) kq_ass ?_
                refine lv_iload hx hb dL_isSo_574 (lv_at hl 5 rfl) ?_
                refine lv_iload hx hb dL_isSo_576 (lv_at hl 3 rfl) ?_
                refine lv_isub hx hb dL_isSo_578 ?_
                refine b_ti (y := 0) (by decide) ?_
                refine lv_icmp_ne (tgt := 628) hx hb dL_isSo_579 (by decide) (fun c_6 => ?_) (fun c_6 => ?_)
                · have n_6 := c_6
                  exact absurd c_6 (by decide)
                · have n_6 := c_6
                  refine lv_aload_n hx hb dL_isSo_582 rfl (lv_at hl 7 rfl) ?_
                  refine b_csi (v := caS z32 (rtI 6) (mem z32 5) 6 - agO z32 z32 (mem z32 5) 6) (W.runV (As := []) (rest := []) ⟨hx, hb, hml, hown, hts⟩ (c_X3_debts ll D a cI cJ z32 (nuI 6) (dnmI 6) z64 am nx z32 z32 z32 z32 (rtI 6) (rtI 6) (rtI 6) z32 z32 z32 z32 0  ) (cwV 0 hts gL_isSo_X3_debts rfl rfl rfl (by decide +kernel) ⟨Nat.le_of_ble_eq_true rfl, Nat.le_of_ble_eq_true rfl⟩) ⟨PR.blind, va_recv hK hP (ci := 3) (q0 := 0) rfl rfl, PR.goP (wr := (LR a cI nw)) hP hK hE⟩ rfl rfl hl.1 rfl (lv_room (Nat.le_of_ble_eq_true rfl)) dL_isSo_583 ⟨(by show cl1 + 0 ≤ 6; omega), (by show sl1 + 0 ≤ 36; omega)⟩) ?_
                  refine b_ti (y := 0) kq_ass ?_
                  refine lv_iload hx hb dL_isSo_586 (lv_at hl 4 rfl) ?_
                  refine lv_iload hx hb dL_isSo_588 (lv_at hl 3 rfl) ?_
                  refine lv_isub hx hb dL_isSo_590 ?_
                  refine b_ti (y := 0) (by decide) ?_
                  refine lv_icmp_ne (tgt := 628) hx hb dL_isSo_591 (by decide) (fun c_7 => ?_) (fun c_7 => ?_)
                  · have n_7 := c_7
                    exact absurd c_7 (by decide)
                  · have n_7 := c_7
                    refine lv_aload_n hx hb dL_isSo_594 rfl (lv_at hl 7 rfl) ?_
                    refine b_csi (v := caS z32 (rtI 6) (mem z32 5) 6 - agO z32 z32 (mem z32 5) 6 - (caS z32 (rtI 6) (mem z32 5) 6 - agO z32 z32 (mem z32 5) 6) - cmS z32 z32 (rtI 6) (nuI 6) (dnmI 6) (mem z32 5) 6) (W.runV (As := []) (rest := []) ⟨hx, hb, hml, hown, hts⟩ (c_X3_equity ll D a cI cJ z32 (nuI 6) (dnmI 6) z64 am nx z32 z32 z32 z32 (rtI 6) (rtI 6) (rtI 6) z32 z32 z32 z32 0  ) (cwV 0 hts gL_isSo_X3_equity rfl rfl rfl (by decide +kernel) ⟨Nat.le_of_ble_eq_true rfl, Nat.le_of_ble_eq_true rfl⟩) ⟨PR.blind, va_recv hK hP (ci := 3) (q0 := 0) rfl rfl, PR.goP (wr := (LR a cI nw)) hP hK hE⟩ rfl rfl hl.1 rfl (lv_room (Nat.le_of_ble_eq_true rfl)) dL_isSo_595 ⟨(by show cl1 + 0 ≤ 6; omega), (by show sl1 + 0 ≤ 36; omega)⟩) ?_
                    refine b_ti (y := 0) kq_eqty ?_
                    refine lv_iload hx hb dL_isSo_598 (lv_at hl 5 rfl) ?_
                    refine lv_iload hx hb dL_isSo_600 (lv_at hl 4 rfl) ?_
                    refine lv_isub hx hb dL_isSo_602 ?_
                    refine b_ti (y := 0) (by decide) ?_
                    refine lv_iload hx hb dL_isSo_603 (lv_at hl 2 rfl) ?_
                    refine lv_isub hx hb dL_isSo_605 ?_
                    refine b_ti (y := 0) (by decide) ?_
                    refine lv_icmp_ne (tgt := 628) hx hb dL_isSo_606 (by decide) (fun c_8 => ?_) (fun c_8 => ?_)
                    · have n_8 := c_8
                      exact absurd c_8 (by decide)
                    · have n_8 := c_8
                      refine lv_aload_n hx hb dL_isSo_609 rfl (lv_at hl 7 rfl) ?_
                      refine b_csi (v := crS z32 (rtI 6) (nuI 6) (dnmI 6) (mem z32 5) 6) (W.runV (As := []) (rest := []) ⟨hx, hb, hml, hown, hts⟩ (c_X3_result ll D a cI cJ z32 (nuI 6) (dnmI 6) z64 am nx z32 z32 z32 z32 (rtI 6) (rtI 6) (rtI 6) z32 z32 z32 z32 0  ) (cwV 0 hts gL_isSo_X3_result rfl rfl rfl (by decide +kernel) ⟨Nat.le_of_ble_eq_true rfl, Nat.le_of_ble_eq_true rfl⟩) ⟨PR.blind, va_recv hK hP (ci := 3) (q0 := 0) rfl rfl, PR.goP (wr := (LR a cI nw)) hP hK hE⟩ rfl rfl hl.1 rfl (lv_room (Nat.le_of_ble_eq_true rfl)) dL_isSo_610 ⟨(by show cl1 + 0 ≤ 6; omega), (by show sl1 + 0 ≤ 36; omega)⟩) ?_
                      refine b_ti (y := 0) kq_result ?_
                      refine lv_aload_n hx hb dL_isSo_613 rfl (lv_at hl 7 rfl) ?_
                      refine lv_iload hx hb dL_isSo_614 (lv_at hl 6 rfl) ?_
                      refine lv_aload hx hb dL_isSo_616 (lv_at hl 11 rfl) ?_
                      refine b_csi (v := 0) (W.runS (As := [.ref (a 0), .int (1), .ref (a 24)]) (rest := [.int (0)]) ⟨hx, hb, hml, hown, hts⟩ (c_L_result ll D a cI cJ am nx nw  ) (va_cwS 3 hts gL_isSo_L_result rfl rfl rfl (by decide +kernel) ⟨Nat.le_of_ble_eq_true rfl, Nat.le_of_ble_eq_true rfl⟩) ⟨PR.blind, PR.go hP hK hE⟩ rfl rfl hl.1 rfl (lv_room (Nat.le_of_ble_eq_true rfl)) dL_isSo_618 ⟨(by show cl1 + 0 ≤ 6; omega), (by show sl1 + 0 ≤ 36; omega)⟩) ?_
                      refine lv_icmp_ne (tgt := 628) hx hb dL_isSo_621 (by decide) (fun c_9 => ?_) (fun c_9 => ?_)
                      · have n_9 := c_9
                        exact absurd c_9 (by decide)
                      · have n_9 := c_9
                        refine lv_iconst (v := 1) hx hb dL_isSo_624 (by decide) ?_
                        refine lv_goto (tgt := 629) hx hb dL_isSo_625 (by decide) ?_
                        subst hZ; refine W.widen (k := 6) (n := 36) (by omega) (by omega) ?_
                        exact W.zret hx hb hr (by decide) (fun t ht hW => ⟨⟨_, (), rfl, rfl, ⟨(by rw [ht]; exact hP), va_K.moved hW.alike hK, hD⟩, (by rw [ht]; omega)⟩, hS.F ht⟩) hS.2.2 dL_isSo_629
          · have n_3 := c_3
            exact absurd c_3 (by decide)
        · have n_2 : ¬ ((6) ≤ (6)) := fun h => c_2 ((nI_leI (a := 6) (b := 6) (by omega) (by omega)).mpr h)
          exfalso; omega
      | succ n1 ih1 =>
        intro k1 hk1  cl1 sl1 H locs ls hcl1 hsl1 hg hP hD hS hl
        have hk1b : k1 < 6 := by omega
        refine lv_iload hx hb dL_isSo_37 (lv_at hl 0 rfl) ?_
        refine lv_bipush (v := 6) hx hb dL_isSo_39 (by decide) ?_
        refine lv_icmp_ge (tgt := 509) hx hb dL_isSo_41 (by decide) (fun c_10 => ?_) (fun c_10 => ?_)
        · have n_10 : (6) ≤ (k1) := (nI_leI (a := 6) (b := k1) (by omega) (by omega)).mp c_10
          exfalso; omega
        · have n_10 : ¬ ((6) ≤ (k1)) := fun h => c_10 ((nI_leI (a := 6) (b := k1) (by omega) (by omega)).mpr h)
          refine lv_iload hx hb dL_isSo_44 (lv_at hl 1 rfl) ?_
          refine lv_if_eq (tgt := 509) hx hb dL_isSo_46 (by decide) (fun c_11 => ?_) (fun c_11 => ?_)
          · have n_11 := c_11
            exact absurd c_11 (by decide)
          · have n_11 := c_11
            refine lv_iload hx hb dL_isSo_49 (lv_at hl 6 rfl) ?_
            refine lv_iload hx hb dL_isSo_51 (lv_at hl 0 rfl) ?_
            refine lv_ishr hx hb dL_isSo_53 ?_
            refine lv_iconst (v := 1) hx hb dL_isSo_54 (by decide) ?_
            refine lv_iand hx hb dL_isSo_55 ?_
            refine lv_iconst (v := 1) hx hb dL_isSo_56 (by decide) ?_
            refine lv_icmp_ne (tgt := 64) hx hb dL_isSo_57 (by decide) (fun c_12 => ?_) (fun c_12 => ?_)
            · have n_12 := c_12
              refine lv_iconst (v := 0) hx hb dL_isSo_64 (by decide) ?_
              refine lv_istore (lv' := [(14, .int (0)), (13, .int (nI (k1))), (12, .int (1)), (11, .int (0)), (10, .int (0)), (9, .int (0)), (8, .int (0)), (7, .int (1)), (0, .ref (a 0)), (1, .ref (a 21)), (2, .ref (a 22)), (3, .ref (a 23)), (4, .ref (a 24)), (5, .ref (a 25)), (6, .ref (a 26))]) hx hb dL_isSo_65 hl (by decide) rfl (fun ls hl => ?_)
              refine lv_aload hx hb dL_isSo_67 (lv_at hl 12 rfl) ?_
              refine lv_bipush (v := 7) hx hb dL_isSo_69 (by decide) ?_
              refine lv_iload hx hb dL_isSo_71 (lv_at hl 1 rfl) ?_
              refine lv_imul hx hb dL_isSo_73 ?_
              refine b_ti (pk_mul (7) (k1)) ?_
              refine lv_iconst (v := 2) hx hb dL_isSo_74 (by decide) ?_
              refine lv_iadd hx hb dL_isSo_75 ?_
              refine b_ti (nI_add ((7) * (k1)) (2)) ?_
              refine b_iald hx hb hK hP 24 0 (f := (bbI 6)) rfl rfl (j := ((7) * (k1)) + (2)) (by omega) (by decide) dL_isSo_76 ?_
              refine b_ti (y := 0) ((kb_v (k1) (by omega)).2.2.1) ?_
              refine lv_aload hx hb dL_isSo_77 (lv_at hl 12 rfl) ?_
              refine lv_bipush (v := 7) hx hb dL_isSo_79 (by decide) ?_
              refine lv_iload hx hb dL_isSo_81 (lv_at hl 1 rfl) ?_
              refine lv_imul hx hb dL_isSo_83 ?_
              refine b_ti (pk_mul (7) (k1)) ?_
              refine lv_bipush (v := 6) hx hb dL_isSo_84 (by decide) ?_
              refine lv_iadd hx hb dL_isSo_86 ?_
              refine b_ti (nI_add ((7) * (k1)) (6)) ?_
              refine b_iald hx hb hK hP 24 0 (f := (bbI 6)) rfl rfl (j := ((7) * (k1)) + (6)) (by omega) (by decide) dL_isSo_87 ?_
              refine b_ti (y := 100) ((kb_v (k1) (by omega)).2.2.2.2.2.2) ?_
              refine b_csi (v := 0) (W.runS (As := [.int (0), .int (100)]) (rest := []) ⟨hx, hb, hml, hown, hts⟩ (c_L_at ll  ) (va_cwS 2 hts gL_isSo_L_at rfl rfl rfl (by decide +kernel) ⟨Nat.le_of_ble_eq_true rfl, Nat.le_of_ble_eq_true rfl⟩) ⟨PT.blind, PT.to⟩ rfl rfl hl.1 rfl (lv_room (Nat.le_of_ble_eq_true rfl)) dL_isSo_88 ⟨(by show cl1 + 0 ≤ 6; omega), (by show sl1 + 0 ≤ 36; omega)⟩) ?_
              refine lv_istore (lv' := [(15, .int (0)), (14, .int (0)), (13, .int (nI (k1))), (12, .int (1)), (11, .int (0)), (10, .int (0)), (9, .int (0)), (8, .int (0)), (7, .int (1)), (0, .ref (a 0)), (1, .ref (a 21)), (2, .ref (a 22)), (3, .ref (a 23)), (4, .ref (a 24)), (5, .ref (a 25)), (6, .ref (a 26))]) hx hb dL_isSo_91 hl (by decide) rfl (fun ls hl => ?_)
              refine lv_aload hx hb dL_isSo_93 (lv_at hl 13 rfl) ?_
              refine lv_bipush (v := 7) hx hb dL_isSo_95 (by decide) ?_
              refine lv_iload hx hb dL_isSo_97 (lv_at hl 2 rfl) ?_
              refine lv_imul hx hb dL_isSo_99 ?_
              refine b_ti (pk_mul (7) (k1)) ?_
              refine lv_iconst (v := 3) hx hb dL_isSo_100 (by decide) ?_
              refine lv_iadd hx hb dL_isSo_101 ?_
              refine b_ti (nI_add ((7) * (k1)) (3)) ?_
              refine b_iald hx hb hK hP 24 0 (f := (bbI 6)) rfl rfl (j := ((7) * (k1)) + (3)) (by omega) (by decide) dL_isSo_102 ?_
              refine b_ti (y := 0) ((kb_v (k1) (by omega)).2.2.2.1) ?_
              refine lv_aload hx hb dL_isSo_103 (lv_at hl 13 rfl) ?_
              refine lv_bipush (v := 7) hx hb dL_isSo_105 (by decide) ?_
              refine lv_iload hx hb dL_isSo_107 (lv_at hl 2 rfl) ?_
              refine lv_imul hx hb dL_isSo_109 ?_
              refine b_ti (pk_mul (7) (k1)) ?_
              refine lv_iconst (v := 5) hx hb dL_isSo_110 (by decide) ?_
              refine lv_iadd hx hb dL_isSo_111 ?_
              refine b_ti (nI_add ((7) * (k1)) (5)) ?_
              refine b_iald hx hb hK hP 24 0 (f := (bbI 6)) rfl rfl (j := ((7) * (k1)) + (5)) (by omega) (by decide) dL_isSo_112 ?_
              refine b_ti (y := 100) ((kb_v (k1) (by omega)).2.2.2.2.2.1) ?_
              refine b_csi (v := 0) (W.runS (As := [.int (0), .int (100)]) (rest := []) ⟨hx, hb, hml, hown, hts⟩ (c_L_at ll  ) (va_cwS 2 hts gL_isSo_L_at rfl rfl rfl (by decide +kernel) ⟨Nat.le_of_ble_eq_true rfl, Nat.le_of_ble_eq_true rfl⟩) ⟨PT.blind, PT.to⟩ rfl rfl hl.1 rfl (lv_room (Nat.le_of_ble_eq_true rfl)) dL_isSo_113 ⟨(by show cl1 + 0 ≤ 6; omega), (by show sl1 + 0 ≤ 36; omega)⟩) ?_
              refine lv_istore (lv' := [(16, .int (0)), (15, .int (0)), (14, .int (0)), (13, .int (nI (k1))), (12, .int (1)), (11, .int (0)), (10, .int (0)), (9, .int (0)), (8, .int (0)), (7, .int (1)), (0, .ref (a 0)), (1, .ref (a 21)), (2, .ref (a 22)), (3, .ref (a 23)), (4, .ref (a 24)), (5, .ref (a 25)), (6, .ref (a 26))]) hx hb dL_isSo_116 hl (by decide) rfl (fun ls hl => ?_)
              refine lv_iload hx hb dL_isSo_118 (lv_at hl 2 rfl) ?_
              refine lv_if_eq (tgt := 158) hx hb dL_isSo_120 (by decide) (fun c_13 => ?_) (fun c_13 => ?_)
              · have n_13 := c_13
                refine lv_iconst (v := 0) hx hb dL_isSo_158 (by decide) ?_
                refine lv_istore (lv' := [(17, .int (0)), (16, .int (0)), (15, .int (0)), (14, .int (0)), (13, .int (nI (k1))), (12, .int (1)), (11, .int (0)), (10, .int (0)), (9, .int (0)), (8, .int (0)), (7, .int (1)), (0, .ref (a 0)), (1, .ref (a 21)), (2, .ref (a 22)), (3, .ref (a 23)), (4, .ref (a 24)), (5, .ref (a 25)), (6, .ref (a 26))]) hx hb dL_isSo_159 hl (by decide) rfl (fun ls hl => ?_)
                refine lv_iload hx hb dL_isSo_161 (lv_at hl 9 rfl) ?_
                refine lv_iload hx hb dL_isSo_163 (lv_at hl 3 rfl) ?_
                refine lv_if_eq (tgt := 192) hx hb dL_isSo_165 (by decide) (fun c_14 => ?_) (fun c_14 => ?_)
                · have n_14 := c_14
                  refine lv_iconst (v := 0) hx hb dL_isSo_192 (by decide) ?_
                  refine lv_iadd hx hb dL_isSo_193 ?_
                  refine b_ti (y := 0) (by decide) ?_
                  refine lv_istore (lv' := [(8, .int (0)), (17, .int (0)), (16, .int (0)), (15, .int (0)), (14, .int (0)), (13, .int (nI (k1))), (12, .int (1)), (11, .int (0)), (10, .int (0)), (9, .int (0)), (7, .int (1)), (0, .ref (a 0)), (1, .ref (a 21)), (2, .ref (a 22)), (3, .ref (a 23)), (4, .ref (a 24)), (5, .ref (a 25)), (6, .ref (a 26))]) hx hb dL_isSo_194 hl (by decide) rfl (fun ls hl => ?_)
                  refine lv_iload hx hb dL_isSo_196 (lv_at hl 9 rfl) ?_
                  refine lv_iload hx hb dL_isSo_198 (lv_at hl 4 rfl) ?_
                  refine lv_if_eq (tgt := 229) hx hb dL_isSo_200 (by decide) (fun c_15 => ?_) (fun c_15 => ?_)
                  · have n_15 := c_15
                    refine lv_iconst (v := 0) hx hb dL_isSo_229 (by decide) ?_
                    refine lv_iadd hx hb dL_isSo_230 ?_
                    refine b_ti (y := 0) (by decide) ?_
                    refine lv_istore (lv' := [(9, .int (0)), (8, .int (0)), (17, .int (0)), (16, .int (0)), (15, .int (0)), (14, .int (0)), (13, .int (nI (k1))), (12, .int (1)), (11, .int (0)), (10, .int (0)), (7, .int (1)), (0, .ref (a 0)), (1, .ref (a 21)), (2, .ref (a 22)), (3, .ref (a 23)), (4, .ref (a 24)), (5, .ref (a 25)), (6, .ref (a 26))]) hx hb dL_isSo_231 hl (by decide) rfl (fun ls hl => ?_)
                    refine lv_iload hx hb dL_isSo_233 (lv_at hl 8 rfl) ?_
                    refine lv_iload hx hb dL_isSo_235 (lv_at hl 2 rfl) ?_
                    refine lv_iadd hx hb dL_isSo_237 ?_
                    refine b_ti (y := 0) (by decide) ?_
                    refine lv_istore (lv' := [(11, .int (0)), (9, .int (0)), (8, .int (0)), (17, .int (0)), (16, .int (0)), (15, .int (0)), (14, .int (0)), (13, .int (nI (k1))), (12, .int (1)), (10, .int (0)), (7, .int (1)), (0, .ref (a 0)), (1, .ref (a 21)), (2, .ref (a 22)), (3, .ref (a 23)), (4, .ref (a 24)), (5, .ref (a 25)), (6, .ref (a 26))]) hx hb dL_isSo_238 hl (by decide) rfl (fun ls hl => ?_)
                    refine lv_aload_n hx hb dL_isSo_240 rfl (lv_at hl 11 rfl) ?_
                    refine lv_iload hx hb dL_isSo_241 (lv_at hl 7 rfl) ?_
                    refine b_csi (v := tr (z32 k1) ((rtI 6) k1) - tr (z32 k1) ((rtI 6) k1)) (W.runV (As := [.int (nI (k1))]) (rest := []) ⟨hx, hb, hml, hown, hts⟩ (c_X3_netValue ll D a cI cJ z32 (nuI 6) (dnmI 6) z64 am nx z32 z32 z32 z32 (rtI 6) (rtI 6) (rtI 6) z32 z32 z32 z32 0 k1 (by omega)) (cwV 1 hts gL_isSo_X3_netValue rfl rfl rfl (by decide +kernel) ⟨Nat.le_of_ble_eq_true rfl, Nat.le_of_ble_eq_true rfl⟩) ⟨PR.blind, va_recv hK hP (ci := 3) (q0 := 0) rfl rfl, PR.goP (wr := (LR a cI nw)) hP hK hE⟩ rfl rfl hl.1 rfl (lv_room (Nat.le_of_ble_eq_true rfl)) dL_isSo_243 ⟨(by show cl1 + 0 ≤ 6; omega), (by show sl1 + 0 ≤ 36; omega)⟩) ?_
                    refine b_ti (y := 0) (kq_net (k1) (by omega)) ?_
                    refine lv_iload hx hb dL_isSo_246 (lv_at hl 7 rfl) ?_
                    refine lv_aload hx hb dL_isSo_248 (lv_at hl 15 rfl) ?_
                    refine b_csi (v := 0) (W.runS (As := [.int (nI (k1)), .ref (a 24)]) (rest := [.int (0)]) ⟨hx, hb, hml, hown, hts⟩ (c_L_net ll D a cI cJ am nx nw k1 (by omega)) (va_cwS 2 hts gL_isSo_L_net rfl rfl rfl (by decide +kernel) ⟨Nat.le_of_ble_eq_true rfl, Nat.le_of_ble_eq_true rfl⟩) ⟨PR.blind, PR.go hP hK hE⟩ rfl rfl hl.1 rfl (lv_room (Nat.le_of_ble_eq_true rfl)) dL_isSo_250 ⟨(by show cl1 + 0 ≤ 6; omega), (by show sl1 + 0 ≤ 36; omega)⟩) ?_
                    refine lv_icmp_ne (tgt := 329) hx hb dL_isSo_253 (by decide) (fun c_16 => ?_) (fun c_16 => ?_)
                    · have n_16 := c_16
                      exact absurd c_16 (by decide)
                    · have n_16 := c_16
                      refine lv_aload_n hx hb dL_isSo_256 rfl (lv_at hl 11 rfl) ?_
                      refine lv_iload hx hb dL_isSo_257 (lv_at hl 7 rfl) ?_
                      refine b_csi (v := tr (z32 k1) ((rtI 6) k1)) (W.runV (As := [.int (nI (k1))]) (rest := []) ⟨hx, hb, hml, hown, hts⟩ (c_X3_translatedEquity ll D a cI cJ z32 (nuI 6) (dnmI 6) z64 am nx z32 z32 z32 z32 (rtI 6) (rtI 6) (rtI 6) z32 z32 z32 z32 0 k1 (by omega)) (cwV 1 hts gL_isSo_X3_translatedEquity rfl rfl rfl (by decide +kernel) ⟨Nat.le_of_ble_eq_true rfl, Nat.le_of_ble_eq_true rfl⟩) ⟨PR.blind, va_recv hK hP (ci := 3) (q0 := 0) rfl rfl, PR.goP (wr := (LR a cI nw)) hP hK hE⟩ rfl rfl hl.1 rfl (lv_room (Nat.le_of_ble_eq_true rfl)) dL_isSo_259 ⟨(by show cl1 + 0 ≤ 6; omega), (by show sl1 + 0 ≤ 36; omega)⟩) ?_
                      refine b_ti (y := 0) (kq_tr (k1) (by omega)) ?_
                      refine lv_iload hx hb dL_isSo_262 (lv_at hl 5 rfl) ?_
                      refine lv_icmp_ne (tgt := 329) hx hb dL_isSo_264 (by decide) (fun c_17 => ?_) (fun c_17 => ?_)
                      · have n_17 := c_17
                        exact absurd c_17 (by decide)
                      · have n_17 := c_17
                        refine lv_aload_n hx hb dL_isSo_267 rfl (lv_at hl 11 rfl) ?_
                        refine lv_iload hx hb dL_isSo_268 (lv_at hl 7 rfl) ?_
                        refine b_csi (v := tr (z32 k1) ((rtI 6) k1)) (W.runV (As := [.int (nI (k1))]) (rest := []) ⟨hx, hb, hml, hown, hts⟩ (c_X3_translatedResult ll D a cI cJ z32 (nuI 6) (dnmI 6) z64 am nx z32 z32 z32 z32 (rtI 6) (rtI 6) (rtI 6) z32 z32 z32 z32 0 k1 (by omega)) (cwV 1 hts gL_isSo_X3_translatedResult rfl rfl rfl (by decide +kernel) ⟨Nat.le_of_ble_eq_true rfl, Nat.le_of_ble_eq_true rfl⟩) ⟨PR.blind, va_recv hK hP (ci := 3) (q0 := 0) rfl rfl, PR.goP (wr := (LR a cI nw)) hP hK hE⟩ rfl rfl hl.1 rfl (lv_room (Nat.le_of_ble_eq_true rfl)) dL_isSo_270 ⟨(by show cl1 + 0 ≤ 6; omega), (by show sl1 + 0 ≤ 36; omega)⟩) ?_
                        refine b_ti (y := 0) (kq_tr (k1) (by omega)) ?_
                        refine lv_iload hx hb dL_isSo_273 (lv_at hl 4 rfl) ?_
                        refine lv_icmp_ne (tgt := 329) hx hb dL_isSo_275 (by decide) (fun c_18 => ?_) (fun c_18 => ?_)
                        · have n_18 := c_18
                          exact absurd c_18 (by decide)
                        · have n_18 := c_18
                          refine lv_aload_n hx hb dL_isSo_278 rfl (lv_at hl 11 rfl) ?_
                          refine lv_iload hx hb dL_isSo_279 (lv_at hl 7 rfl) ?_
                          refine b_csi (v := tr (z32 k1) ((rtI 6) k1) - tr (z32 k1) ((rtI 6) k1) - tr (z32 k1) ((rtI 6) k1) - tr (z32 k1) ((rtI 6) k1)) (W.runV (As := [.int (nI (k1))]) (rest := []) ⟨hx, hb, hml, hown, hts⟩ (c_X3_reserve ll D a cI cJ z32 (nuI 6) (dnmI 6) z64 am nx z32 z32 z32 z32 (rtI 6) (rtI 6) (rtI 6) z32 z32 z32 z32 0 k1 (by omega)) (cwV 1 hts gL_isSo_X3_reserve rfl rfl rfl (by decide +kernel) ⟨Nat.le_of_ble_eq_true rfl, Nat.le_of_ble_eq_true rfl⟩) ⟨PR.blind, va_recv hK hP (ci := 3) (q0 := 0) rfl rfl, PR.goP (wr := (LR a cI nw)) hP hK hE⟩ rfl rfl hl.1 rfl (lv_room (Nat.le_of_ble_eq_true rfl)) dL_isSo_281 ⟨(by show cl1 + 0 ≤ 6; omega), (by show sl1 + 0 ≤ 36; omega)⟩) ?_
                          refine b_ti (y := 0) (kq_res (k1) (by omega)) ?_
                          refine lv_iload hx hb dL_isSo_284 (lv_at hl 7 rfl) ?_
                          refine lv_aload hx hb dL_isSo_286 (lv_at hl 15 rfl) ?_
                          refine b_csi (v := 0) (W.runS (As := [.int (nI (k1)), .ref (a 24)]) (rest := [.int (0)]) ⟨hx, hb, hml, hown, hts⟩ (c_L_net ll D a cI cJ am nx nw k1 (by omega)) (va_cwS 2 hts gL_isSo_L_net rfl rfl rfl (by decide +kernel) ⟨Nat.le_of_ble_eq_true rfl, Nat.le_of_ble_eq_true rfl⟩) ⟨PR.blind, PR.go hP hK hE⟩ rfl rfl hl.1 rfl (lv_room (Nat.le_of_ble_eq_true rfl)) dL_isSo_288 ⟨(by show cl1 + 0 ≤ 6; omega), (by show sl1 + 0 ≤ 36; omega)⟩) ?_
                          refine lv_iload hx hb dL_isSo_291 (lv_at hl 5 rfl) ?_
                          refine lv_isub hx hb dL_isSo_293 ?_
                          refine b_ti (y := 0) (by decide) ?_
                          refine lv_iload hx hb dL_isSo_294 (lv_at hl 4 rfl) ?_
                          refine lv_isub hx hb dL_isSo_296 ?_
                          refine b_ti (y := 0) (by decide) ?_
                          refine lv_icmp_ne (tgt := 329) hx hb dL_isSo_297 (by decide) (fun c_19 => ?_) (fun c_19 => ?_)
                          · have n_19 := c_19
                            exact absurd c_19 (by decide)
                          · have n_19 := c_19
                            refine lv_aload_n hx hb dL_isSo_300 rfl (lv_at hl 11 rfl) ?_
                            refine lv_iload hx hb dL_isSo_301 (lv_at hl 7 rfl) ?_
                            refine b_csi (v := mAm z32 z32 (rtI 6) (nuI 6) (dnmI 6) (mem z32 5) k1) (W.runV (As := [.int (nI (k1))]) (rest := []) ⟨hx, hb, hml, hown, hts⟩ (c_X3_minority ll D a cI cJ z32 (nuI 6) (dnmI 6) z64 am nx z32 z32 z32 z32 (rtI 6) (rtI 6) (rtI 6) z32 z32 z32 z32 0 k1 (by omega)) (cwV 1 hts gL_isSo_X3_minority rfl rfl rfl (by decide +kernel) ⟨Nat.le_of_ble_eq_true rfl, Nat.le_of_ble_eq_true rfl⟩) ⟨PR.blind, va_recv hK hP (ci := 3) (q0 := 0) rfl rfl, PR.goP (wr := (LR a cI nw)) hP hK hE⟩ rfl rfl hl.1 rfl (lv_room (Nat.le_of_ble_eq_true rfl)) dL_isSo_303 ⟨(by show cl1 + 0 ≤ 6; omega), (by show sl1 + 0 ≤ 36; omega)⟩) ?_
                            refine b_ti (y := 0) (kq_min (k1) (by omega)) ?_
                            refine lv_iload hx hb dL_isSo_306 (lv_at hl 3 rfl) ?_
                            refine lv_icmp_ne (tgt := 329) hx hb dL_isSo_308 (by decide) (fun c_20 => ?_) (fun c_20 => ?_)
                            · have n_20 := c_20
                              exact absurd c_20 (by decide)
                            · have n_20 := c_20
                              refine lv_aload_n hx hb dL_isSo_311 rfl (lv_at hl 11 rfl) ?_
                              refine lv_iload hx hb dL_isSo_312 (lv_at hl 7 rfl) ?_
                              refine b_csi (v := z32 k1) (W.runV (As := [.int (nI (k1))]) (rest := []) ⟨hx, hb, hml, hown, hts⟩ (c_X3_goodwill ll D a cI cJ z32 (nuI 6) (dnmI 6) z64 am nx z32 z32 z32 z32 (rtI 6) (rtI 6) (rtI 6) z32 z32 z32 z32 0 k1 (by omega)) (cwV 1 hts gL_isSo_X3_goodwill rfl rfl rfl (by decide +kernel) ⟨Nat.le_of_ble_eq_true rfl, Nat.le_of_ble_eq_true rfl⟩) ⟨PR.blind, va_recv hK hP (ci := 3) (q0 := 0) rfl rfl, PR.goP (wr := (LR a cI nw)) hP hK hE⟩ rfl rfl hl.1 rfl (lv_room (Nat.le_of_ble_eq_true rfl)) dL_isSo_314 ⟨(by show cl1 + 0 ≤ 6; omega), (by show sl1 + 0 ≤ 36; omega)⟩) ?_
                              refine b_ti (y := 0) rfl ?_
                              refine lv_aload hx hb dL_isSo_317 (lv_at hl 16 rfl) ?_
                              refine lv_iload hx hb dL_isSo_319 (lv_at hl 7 rfl) ?_
                              refine b_iald hx hb hK hP 25 0 (f := z32) rfl rfl (j := k1) (by omega) (by decide) dL_isSo_321 ?_
                              refine b_ti (y := 0) rfl ?_
                              refine lv_icmp_ne (tgt := 329) hx hb dL_isSo_322 (by decide) (fun c_21 => ?_) (fun c_21 => ?_)
                              · have n_21 := c_21
                                exact absurd c_21 (by decide)
                              · have n_21 := c_21
                                refine lv_iconst (v := 1) hx hb dL_isSo_325 (by decide) ?_
                                refine lv_goto (tgt := 330) hx hb dL_isSo_326 (by decide) ?_
                                refine lv_istore (lv' := [(12, .int (1)), (11, .int (0)), (9, .int (0)), (8, .int (0)), (17, .int (0)), (16, .int (0)), (15, .int (0)), (14, .int (0)), (13, .int (nI (k1))), (10, .int (0)), (7, .int (1)), (0, .ref (a 0)), (1, .ref (a 21)), (2, .ref (a 22)), (3, .ref (a 23)), (4, .ref (a 24)), (5, .ref (a 25)), (6, .ref (a 26))]) hx hb dL_isSo_330 hl (by decide) rfl (fun ls hl => ?_)
                                refine lv_iconst (v := 0) hx hb dL_isSo_332 (by decide) ?_
                                refine lv_istore (lv' := [(18, .int (0)), (12, .int (1)), (11, .int (0)), (9, .int (0)), (8, .int (0)), (17, .int (0)), (16, .int (0)), (15, .int (0)), (14, .int (0)), (13, .int (nI (k1))), (10, .int (0)), (7, .int (1)), (0, .ref (a 0)), (1, .ref (a 21)), (2, .ref (a 22)), (3, .ref (a 23)), (4, .ref (a 24)), (5, .ref (a 25)), (6, .ref (a 26))]) hx hb dL_isSo_333 hl (by decide) rfl (fun ls hl => ?_)
                                have L2 : ∀ (n2 k2 : Nat) (gg : Nat), k2 + n2 = 6 → (k2 ≤ k1 ∧ gg = 0 ∨ k1 < k2 ∧ gg = 1) → ∀ (cl2 sl2 : Nat) (H : Heap) (locs : List Loc) (ls : Array Slot), cl2 ≤ k1 + gg → sl2 ≤ 6 * (k1 + gg) → ss.heap.size + (k1 + gg) ≤ H.size → va_P D vwCl (KW a cI cJ am nx nw) H → va_D A (KW a cI cJ am nx nw) → va_S A ss.heap H locs → lv_has ls 20 [(18, .int (nI (k2))), (12, .int (1)), (11, .int (0)), (9, .int (0)), (8, .int (0)), (17, .int (0)), (16, .int (0)), (15, .int (0)), (14, .int (0)), (13, .int (nI (k1))), (10, .int (0)), (7, .int (1)), (0, .ref (a 0)), (1, .ref (a 21)), (2, .ref (a 22)), (3, .ref (a 23)), (4, .ref (a 24)), (5, .ref (a 25)), (6, .ref (a 26))] → W pp ll ee rmL_isSo ss mm (([.ref (a 0), .ref (a 21), .ref (a 22), .ref (a 23), .ref (a 24), .ref (a 25), .ref (a 26)] : List Value).toArray) bel mth cde H locs cl2 sl2 Z (F0 mm 335 ls []) := by
                                  intro n2
                                  induction n2 with
                                  | zero =>
                                    intro k2 gg hk2 hy2_0 cl2 sl2 H locs ls hcl2 hsl2 hg hP hD hS hl
                                    have hk2b : 6 = k2 := by omega
                                    subst hk2b
                                    refine lv_iload hx hb dL_isSo_335 (lv_at hl 0 rfl) ?_
                                    refine lv_bipush (v := 6) hx hb dL_isSo_337 (by decide) ?_
                                    refine lv_icmp_ge (tgt := 503) hx hb dL_isSo_339 (by decide) (fun c_22 => ?_) (fun c_22 => ?_)
                                    · have n_22 : (6) ≤ (6) := (nI_leI (a := 6) (b := 6) (by omega) (by omega)).mp c_22
                                      refine lv_iinc (v := nI (k1 + 1)) (lv' := [(13, .int (nI (k1 + 1))), (18, .int (nI (6))), (12, .int (1)), (11, .int (0)), (9, .int (0)), (8, .int (0)), (17, .int (0)), (16, .int (0)), (15, .int (0)), (14, .int (0)), (10, .int (0)), (7, .int (1)), (0, .ref (a 0)), (1, .ref (a 21)), (2, .ref (a 22)), (3, .ref (a 23)), (4, .ref (a 24)), (5, .ref (a 25)), (6, .ref (a 26))]) hx hb dL_isSo_503 hl (k := 9) rfl (nI_1 (k1)) (by decide) rfl (fun ls hl => ?_)
                                      refine lv_goto (tgt := 37) hx hb dL_isSo_506 (by decide) ?_
                                      exact ih1 (k1 + 1) (by omega) _ _ _ _ ls (by omega) (by omega) (by omega) (by exact hP) (by exact hD) hS (lv_sub hl [0, 2, 3, 10, 4, 5, 11, 12, 13, 14, 15, 16, 17, 18] rfl)
                                    · have n_22 : ¬ ((6) ≤ (6)) := fun h => c_22 ((nI_leI (a := 6) (b := 6) (by omega) (by omega)).mpr h)
                                      exfalso; omega
                                  | succ n2 ih2 =>
                                    intro k2 gg hk2 hy2_0 cl2 sl2 H locs ls hcl2 hsl2 hg hP hD hS hl
                                    have hk2b : k2 < 6 := by omega
                                    refine lv_iload hx hb dL_isSo_335 (lv_at hl 0 rfl) ?_
                                    refine lv_bipush (v := 6) hx hb dL_isSo_337 (by decide) ?_
                                    refine lv_icmp_ge (tgt := 503) hx hb dL_isSo_339 (by decide) (fun c_23 => ?_) (fun c_23 => ?_)
                                    · have n_23 : (6) ≤ (k2) := (nI_leI (a := 6) (b := k2) (by omega) (by omega)).mp c_23
                                      exfalso; omega
                                    · have n_23 : ¬ ((6) ≤ (k2)) := fun h => c_23 ((nI_leI (a := 6) (b := k2) (by omega) (by omega)).mpr h)
                                      refine lv_iload hx hb dL_isSo_342 (lv_at hl 1 rfl) ?_
                                      refine lv_if_eq (tgt := 503) hx hb dL_isSo_344 (by decide) (fun c_24 => ?_) (fun c_24 => ?_)
                                      · have n_24 := c_24
                                        exact absurd c_24 (by decide)
                                      · have n_24 := c_24
                                        refine lv_aload_n hx hb dL_isSo_347 rfl (lv_at hl 14 rfl) ?_
                                        refine lv_bipush (v := 6) hx hb dL_isSo_348 (by decide) ?_
                                        refine lv_iload hx hb dL_isSo_350 (lv_at hl 9 rfl) ?_
                                        refine lv_imul hx hb dL_isSo_352 ?_
                                        refine b_ti (pk_mul (6) (k1)) ?_
                                        refine lv_iload hx hb dL_isSo_353 (lv_at hl 0 rfl) ?_
                                        refine lv_iadd hx hb dL_isSo_355 ?_
                                        refine b_ti (nI_add ((6) * (k1)) (k2)) ?_
                                        refine b_iald hx hb hK hP 22 0 (f := z32) rfl rfl (j := ((6) * (k1)) + (k2)) (by omega) (by decide) dL_isSo_356 ?_
                                        refine b_ti (y := 0) rfl ?_
                                        refine lv_aload_n hx hb dL_isSo_357 rfl (lv_at hl 15 rfl) ?_
                                        refine lv_bipush (v := 6) hx hb dL_isSo_358 (by decide) ?_
                                        refine lv_iload hx hb dL_isSo_360 (lv_at hl 9 rfl) ?_
                                        refine lv_imul hx hb dL_isSo_362 ?_
                                        refine b_ti (pk_mul (6) (k1)) ?_
                                        refine lv_iload hx hb dL_isSo_363 (lv_at hl 0 rfl) ?_
                                        refine lv_iadd hx hb dL_isSo_365 ?_
                                        refine b_ti (nI_add ((6) * (k1)) (k2)) ?_
                                        refine b_iald hx hb hK hP 23 0 (f := z32) rfl rfl (j := ((6) * (k1)) + (k2)) (by omega) (by decide) dL_isSo_366 ?_
                                        refine b_ti (y := 0) rfl ?_
                                        refine lv_icmp_ge (tgt := 383) hx hb dL_isSo_367 (by decide) (fun c_25 => ?_) (fun c_25 => ?_)
                                        · have n_25 := c_25
                                          refine lv_aload_n hx hb dL_isSo_383 rfl (lv_at hl 15 rfl) ?_
                                          refine lv_bipush (v := 6) hx hb dL_isSo_384 (by decide) ?_
                                          refine lv_iload hx hb dL_isSo_386 (lv_at hl 9 rfl) ?_
                                          refine lv_imul hx hb dL_isSo_388 ?_
                                          refine b_ti (pk_mul (6) (k1)) ?_
                                          refine lv_iload hx hb dL_isSo_389 (lv_at hl 0 rfl) ?_
                                          refine lv_iadd hx hb dL_isSo_391 ?_
                                          refine b_ti (nI_add ((6) * (k1)) (k2)) ?_
                                          refine b_iald hx hb hK hP 23 0 (f := z32) rfl rfl (j := ((6) * (k1)) + (k2)) (by omega) (by decide) dL_isSo_392 ?_
                                          refine b_ti (y := 0) rfl ?_
                                          refine lv_istore (lv' := [(19, .int (0)), (18, .int (nI (k2))), (12, .int (1)), (11, .int (0)), (9, .int (0)), (8, .int (0)), (17, .int (0)), (16, .int (0)), (15, .int (0)), (14, .int (0)), (13, .int (nI (k1))), (10, .int (0)), (7, .int (1)), (0, .ref (a 0)), (1, .ref (a 21)), (2, .ref (a 22)), (3, .ref (a 23)), (4, .ref (a 24)), (5, .ref (a 25)), (6, .ref (a 26))]) hx hb dL_isSo_393 hl (by decide) rfl (fun ls hl => ?_)
                                          refine lv_iload hx hb dL_isSo_395 (lv_at hl 11 rfl) ?_
                                          refine lv_iload hx hb dL_isSo_397 (lv_at hl 9 rfl) ?_
                                          refine lv_if_eq (tgt := 418) hx hb dL_isSo_399 (by decide) (fun c_26 => ?_) (fun c_26 => ?_)
                                          · have n_26 := c_26
                                            refine lv_iconst (v := 0) hx hb dL_isSo_418 (by decide) ?_
                                            refine lv_iadd hx hb dL_isSo_419 ?_
                                            refine b_ti (y := 0) (by decide) ?_
                                            refine lv_istore (lv' := [(10, .int (0)), (19, .int (0)), (18, .int (nI (k2))), (12, .int (1)), (11, .int (0)), (9, .int (0)), (8, .int (0)), (17, .int (0)), (16, .int (0)), (15, .int (0)), (14, .int (0)), (13, .int (nI (k1))), (7, .int (1)), (0, .ref (a 0)), (1, .ref (a 21)), (2, .ref (a 22)), (3, .ref (a 23)), (4, .ref (a 24)), (5, .ref (a 25)), (6, .ref (a 26))]) hx hb dL_isSo_420 hl (by decide) rfl (fun ls hl => ?_)
                                            refine lv_aload_n hx hb dL_isSo_422 rfl (lv_at hl 13 rfl) ?_
                                            refine lv_iload hx hb dL_isSo_423 (lv_at hl 11 rfl) ?_
                                            refine lv_iload hx hb dL_isSo_425 (lv_at hl 2 rfl) ?_
                                            refine b_csi (v := z32 (6 * k1 + k2)) (W.runV (As := [.int (nI (k1)), .int (nI (k2))]) (rest := []) ⟨hx, hb, hml, hown, hts⟩ (c_X3_held ll D a cI cJ z32 (nuI 6) (dnmI 6) z64 am nx z32 z32 z32 z32 (rtI 6) (rtI 6) (rtI 6) z32 z32 z32 z32 0 k1 k2 (by omega) (by omega)) (cwV 2 hts gL_isSo_X3_held rfl rfl rfl (by decide +kernel) ⟨Nat.le_of_ble_eq_true rfl, Nat.le_of_ble_eq_true rfl⟩) ⟨PR.blind, va_recv hK hP (ci := 3) (q0 := 0) rfl rfl, PR.goP (wr := (LR a cI nw)) hP hK hE⟩ rfl rfl hl.1 rfl (lv_room (Nat.le_of_ble_eq_true rfl)) dL_isSo_427 ⟨(by show cl2 + 0 ≤ 6; omega), (by show sl2 + 0 ≤ 36; omega)⟩) ?_
                                            refine b_ti (y := 0) rfl ?_
                                            refine lv_aload_n hx hb dL_isSo_430 rfl (lv_at hl 14 rfl) ?_
                                            refine lv_bipush (v := 6) hx hb dL_isSo_431 (by decide) ?_
                                            refine lv_iload hx hb dL_isSo_433 (lv_at hl 11 rfl) ?_
                                            refine lv_imul hx hb dL_isSo_435 ?_
                                            refine b_ti (pk_mul (6) (k1)) ?_
                                            refine lv_iload hx hb dL_isSo_436 (lv_at hl 2 rfl) ?_
                                            refine lv_iadd hx hb dL_isSo_438 ?_
                                            refine b_ti (nI_add ((6) * (k1)) (k2)) ?_
                                            refine b_iald hx hb hK hP 21 0 (f := z32) rfl rfl (j := ((6) * (k1)) + (k2)) (by omega) (by decide) dL_isSo_439 ?_
                                            refine b_ti (y := 0) rfl ?_
                                            refine lv_icmp_ne (tgt := 494) hx hb dL_isSo_440 (by decide) (fun c_27 => ?_) (fun c_27 => ?_)
                                            · have n_27 := c_27
                                              exact absurd c_27 (by decide)
                                            · have n_27 := c_27
                                              refine lv_aload_n hx hb dL_isSo_443 rfl (lv_at hl 13 rfl) ?_
                                              refine lv_iconst (v := 5) hx hb dL_isSo_444 (by decide) ?_
                                              refine lv_iload hx hb dL_isSo_445 (lv_at hl 11 rfl) ?_
                                              refine lv_iload hx hb dL_isSo_447 (lv_at hl 2 rfl) ?_
                                              refine lv_iconst (v := 0) hx hb dL_isSo_449 (by decide) ?_
                                              refine lv_iconst (v := 0) hx hb dL_isSo_450 (by decide) ?_
                                              by_cases q_28 : (k1) = (k2)
                                              · refine b_calliG (S := Unit) (g := 1) (w' := fun _ => KW a cI cJ am nx nw) hP hD hS hA (vx_runSW (hh := [(0, 83, 84, 34), (0, 83, 89, 37)]) (As := [.ref (a 0), .int (5), .int (nI (k1)), .int (nI (k2)), .int (0), .int (0)]) (rest := []) ⟨hx, hb, hml, hown, hts⟩ (c_L_calls_eq ll hst D a cI cJ _ am nx nw k1 k2 (by omega) (by omega) q_28) (vx_cwSW (hh := [(0, 83, 84, 34), (0, 83, 89, 37)]) 6 hts gL_isSo_L_calls rfl rfl rfl (by decide +kernel) ⟨Nat.le_of_ble_eq_true rfl, Nat.le_of_ble_eq_true rfl⟩) ⟨PY.blind, PY.goS hP hK hD hE hV hDC hS hA⟩ rfl rfl hl.1 rfl (lv_room (Nat.le_of_ble_eq_true rfl)) dL_isSo_451 ⟨(by show cl2 + 1 ≤ 6; omega), (by show sl2 + 6 ≤ 36; omega)⟩) (fun r9 u9 H locs hr9 hgN hP hD hS => ?_)
                                                obtain rfl : r9 = (-2000002) := hr9
                                                refine lv_iload hx hb dL_isSo_454 (lv_at hl 11 rfl) ?_
                                                refine lv_iload hx hb dL_isSo_456 (lv_at hl 2 rfl) ?_
                                                refine lv_icmp_ne (tgt := 466) hx hb dL_isSo_458 (by decide) (fun c_29 => ?_) (fun c_29 => ?_)
                                                · have n_29 : ¬ ((k1) = (k2)) := fun h => c_29 ((nI_eq (a := k1) (b := k2) (by omega) (by omega)).mpr h)
                                                  exact absurd q_28 n_29
                                                · have n_29 : (k1) = (k2) := (nI_eq (a := k1) (b := k2) (by omega) (by omega)).mp c_29
                                                  refine lv_ldc (v := -2000002) hx hb hown (hts (.constant RL 36 (-2000002)) (by decide +kernel)) dL_isSo_461 ?_
                                                  refine lv_goto (tgt := 487) hx hb dL_isSo_463 (by decide) ?_
                                                  refine lv_icmp_ne (tgt := 494) hx hb dL_isSo_487 (by decide) (fun c_30 => ?_) (fun c_30 => ?_)
                                                  · have n_30 := c_30
                                                    exact absurd c_30 (by decide)
                                                  · have n_30 := c_30
                                                    refine lv_iconst (v := 1) hx hb dL_isSo_490 (by decide) ?_
                                                    refine lv_goto (tgt := 495) hx hb dL_isSo_491 (by decide) ?_
                                                    refine lv_istore (lv' := [(12, .int (1)), (10, .int (0)), (19, .int (0)), (18, .int (nI (k2))), (11, .int (0)), (9, .int (0)), (8, .int (0)), (17, .int (0)), (16, .int (0)), (15, .int (0)), (14, .int (0)), (13, .int (nI (k1))), (7, .int (1)), (0, .ref (a 0)), (1, .ref (a 21)), (2, .ref (a 22)), (3, .ref (a 23)), (4, .ref (a 24)), (5, .ref (a 25)), (6, .ref (a 26))]) hx hb dL_isSo_495 hl (by decide) rfl (fun ls hl => ?_)
                                                    refine lv_iinc (v := nI (k2 + 1)) (lv' := [(18, .int (nI (k2 + 1))), (12, .int (1)), (10, .int (0)), (19, .int (0)), (11, .int (0)), (9, .int (0)), (8, .int (0)), (17, .int (0)), (16, .int (0)), (15, .int (0)), (14, .int (0)), (13, .int (nI (k1))), (7, .int (1)), (0, .ref (a 0)), (1, .ref (a 21)), (2, .ref (a 22)), (3, .ref (a 23)), (4, .ref (a 24)), (5, .ref (a 25)), (6, .ref (a 26))]) hx hb dL_isSo_497 hl (k := 3) rfl (nI_1 (k2)) (by decide) rfl (fun ls hl => ?_)
                                                    refine lv_goto (tgt := 335) hx hb dL_isSo_500 (by decide) ?_
                                                    exact ih2 (k2 + 1) (gg + 1) (by omega) (by omega) _ _ _ _ ls (by omega) (by omega) (by omega) (by exact hP) (by exact hD) hS (lv_sub hl [0, 1, 4, 5, 6, 7, 8, 9, 10, 11, 2, 12, 13, 14, 15, 16, 17, 18, 19] rfl)
                                              · refine b_csi (v := 0) ((vx_runSW (hh := [(0, 83, 84, 34), (0, 83, 89, 37)]) (As := [.ref (a 0), .int (5), .int (nI (k1)), .int (nI (k2)), .int (0), .int (0)]) (rest := []) ⟨hx, hb, hml, hown, hts⟩ (c_L_calls_ne ll D a cI cJ am nx nw k1 k2 (by omega) (by omega) q_28) (vx_cwSW (hh := [(0, 83, 84, 34), (0, 83, 89, 37)]) 6 hts gL_isSo_L_calls rfl rfl rfl (by decide +kernel) ⟨Nat.le_of_ble_eq_true rfl, Nat.le_of_ble_eq_true rfl⟩) ⟨PR.blind, PR.go hP hK hE⟩ rfl rfl hl.1 rfl (lv_room (Nat.le_of_ble_eq_true rfl)) dL_isSo_451 ⟨(by show cl2 + 0 ≤ 6; omega), (by show sl2 + 0 ≤ 36; omega)⟩).run) ?_
                                                refine lv_iload hx hb dL_isSo_454 (lv_at hl 11 rfl) ?_
                                                refine lv_iload hx hb dL_isSo_456 (lv_at hl 2 rfl) ?_
                                                refine lv_icmp_ne (tgt := 466) hx hb dL_isSo_458 (by decide) (fun c_31 => ?_) (fun c_31 => ?_)
                                                · have n_31 : ¬ ((k1) = (k2)) := fun h => c_31 ((nI_eq (a := k1) (b := k2) (by omega) (by omega)).mpr h)
                                                  refine lv_aload_n hx hb dL_isSo_466 rfl (lv_at hl 15 rfl) ?_
                                                  refine lv_bipush (v := 6) hx hb dL_isSo_467 (by decide) ?_
                                                  refine lv_iload hx hb dL_isSo_469 (lv_at hl 11 rfl) ?_
                                                  refine lv_imul hx hb dL_isSo_471 ?_
                                                  refine b_ti (pk_mul (6) (k1)) ?_
                                                  refine lv_iload hx hb dL_isSo_472 (lv_at hl 2 rfl) ?_
                                                  refine lv_iadd hx hb dL_isSo_474 ?_
                                                  refine b_ti (nI_add ((6) * (k1)) (k2)) ?_
                                                  refine b_iald hx hb hK hP 22 0 (f := z32) rfl rfl (j := ((6) * (k1)) + (k2)) (by omega) (by decide) dL_isSo_475 ?_
                                                  refine b_ti (y := 0) rfl ?_
                                                  refine lv_aload_n hx hb dL_isSo_476 rfl (lv_at hl 16 rfl) ?_
                                                  refine lv_bipush (v := 6) hx hb dL_isSo_477 (by decide) ?_
                                                  refine lv_iload hx hb dL_isSo_479 (lv_at hl 11 rfl) ?_
                                                  refine lv_imul hx hb dL_isSo_481 ?_
                                                  refine b_ti (pk_mul (6) (k1)) ?_
                                                  refine lv_iload hx hb dL_isSo_482 (lv_at hl 2 rfl) ?_
                                                  refine lv_iadd hx hb dL_isSo_484 ?_
                                                  refine b_ti (nI_add ((6) * (k1)) (k2)) ?_
                                                  refine b_iald hx hb hK hP 23 0 (f := z32) rfl rfl (j := ((6) * (k1)) + (k2)) (by omega) (by decide) dL_isSo_485 ?_
                                                  refine b_ti (y := 0) rfl ?_
                                                  refine lv_isub hx hb dL_isSo_486 ?_
                                                  refine b_ti (y := 0) (by decide) ?_
                                                  refine lv_icmp_ne (tgt := 494) hx hb dL_isSo_487 (by decide) (fun c_32 => ?_) (fun c_32 => ?_)
                                                  · have n_32 := c_32
                                                    exact absurd c_32 (by decide)
                                                  · have n_32 := c_32
                                                    refine lv_iconst (v := 1) hx hb dL_isSo_490 (by decide) ?_
                                                    refine lv_goto (tgt := 495) hx hb dL_isSo_491 (by decide) ?_
                                                    refine lv_istore (lv' := [(12, .int (1)), (10, .int (0)), (19, .int (0)), (18, .int (nI (k2))), (11, .int (0)), (9, .int (0)), (8, .int (0)), (17, .int (0)), (16, .int (0)), (15, .int (0)), (14, .int (0)), (13, .int (nI (k1))), (7, .int (1)), (0, .ref (a 0)), (1, .ref (a 21)), (2, .ref (a 22)), (3, .ref (a 23)), (4, .ref (a 24)), (5, .ref (a 25)), (6, .ref (a 26))]) hx hb dL_isSo_495 hl (by decide) rfl (fun ls hl => ?_)
                                                    refine lv_iinc (v := nI (k2 + 1)) (lv' := [(18, .int (nI (k2 + 1))), (12, .int (1)), (10, .int (0)), (19, .int (0)), (11, .int (0)), (9, .int (0)), (8, .int (0)), (17, .int (0)), (16, .int (0)), (15, .int (0)), (14, .int (0)), (13, .int (nI (k1))), (7, .int (1)), (0, .ref (a 0)), (1, .ref (a 21)), (2, .ref (a 22)), (3, .ref (a 23)), (4, .ref (a 24)), (5, .ref (a 25)), (6, .ref (a 26))]) hx hb dL_isSo_497 hl (k := 3) rfl (nI_1 (k2)) (by decide) rfl (fun ls hl => ?_)
                                                    refine lv_goto (tgt := 335) hx hb dL_isSo_500 (by decide) ?_
                                                    exact ih2 (k2 + 1) gg (by omega) (by omega) _ _ _ _ ls (by omega) (by omega) (by omega) (by exact hP) (by exact hD) hS (lv_sub hl [0, 1, 4, 5, 6, 7, 8, 9, 10, 11, 2, 12, 13, 14, 15, 16, 17, 18, 19] rfl)
                                                · have n_31 : (k1) = (k2) := (nI_eq (a := k1) (b := k2) (by omega) (by omega)).mp c_31
                                                  exact absurd n_31 q_28
                                          · have n_26 := c_26
                                            exact absurd c_26 (by decide)
                                        · have n_25 := c_25
                                          exact absurd c_25 (by decide)
                                exact L2 (6) 0 0 (by omega) (by omega) _ _ _ _ ls (by omega) (by omega) (by omega) (by exact hP) (by exact hD) hS (lv_sub hl [0, 1, 2, 3, 4, 5, 6, 7, 8, 9, 10, 11, 12, 13, 14, 15, 16, 17, 18] rfl)
                  · have n_15 := c_15
                    exact absurd c_15 (by decide)
                · have n_14 := c_14
                  exact absurd c_14 (by decide)
              · have n_13 := c_13
                exact absurd c_13 (by decide)
            · have n_12 := c_12
              refine lv_iconst (v := 1) hx hb dL_isSo_60 (by decide) ?_
              refine lv_goto (tgt := 65) hx hb dL_isSo_61 (by decide) ?_
              refine lv_istore (lv' := [(14, .int (1)), (13, .int (nI (k1))), (12, .int (1)), (11, .int (0)), (10, .int (0)), (9, .int (0)), (8, .int (0)), (7, .int (1)), (0, .ref (a 0)), (1, .ref (a 21)), (2, .ref (a 22)), (3, .ref (a 23)), (4, .ref (a 24)), (5, .ref (a 25)), (6, .ref (a 26))]) hx hb dL_isSo_65 hl (by decide) rfl (fun ls hl => ?_)
              refine lv_aload hx hb dL_isSo_67 (lv_at hl 12 rfl) ?_
              refine lv_bipush (v := 7) hx hb dL_isSo_69 (by decide) ?_
              refine lv_iload hx hb dL_isSo_71 (lv_at hl 1 rfl) ?_
              refine lv_imul hx hb dL_isSo_73 ?_
              refine b_ti (pk_mul (7) (k1)) ?_
              refine lv_iconst (v := 2) hx hb dL_isSo_74 (by decide) ?_
              refine lv_iadd hx hb dL_isSo_75 ?_
              refine b_ti (nI_add ((7) * (k1)) (2)) ?_
              refine b_iald hx hb hK hP 24 0 (f := (bbI 6)) rfl rfl (j := ((7) * (k1)) + (2)) (by omega) (by decide) dL_isSo_76 ?_
              refine b_ti (y := 0) ((kb_v (k1) (by omega)).2.2.1) ?_
              refine lv_aload hx hb dL_isSo_77 (lv_at hl 12 rfl) ?_
              refine lv_bipush (v := 7) hx hb dL_isSo_79 (by decide) ?_
              refine lv_iload hx hb dL_isSo_81 (lv_at hl 1 rfl) ?_
              refine lv_imul hx hb dL_isSo_83 ?_
              refine b_ti (pk_mul (7) (k1)) ?_
              refine lv_bipush (v := 6) hx hb dL_isSo_84 (by decide) ?_
              refine lv_iadd hx hb dL_isSo_86 ?_
              refine b_ti (nI_add ((7) * (k1)) (6)) ?_
              refine b_iald hx hb hK hP 24 0 (f := (bbI 6)) rfl rfl (j := ((7) * (k1)) + (6)) (by omega) (by decide) dL_isSo_87 ?_
              refine b_ti (y := 100) ((kb_v (k1) (by omega)).2.2.2.2.2.2) ?_
              refine b_csi (v := 0) (W.runS (As := [.int (0), .int (100)]) (rest := []) ⟨hx, hb, hml, hown, hts⟩ (c_L_at ll  ) (va_cwS 2 hts gL_isSo_L_at rfl rfl rfl (by decide +kernel) ⟨Nat.le_of_ble_eq_true rfl, Nat.le_of_ble_eq_true rfl⟩) ⟨PT.blind, PT.to⟩ rfl rfl hl.1 rfl (lv_room (Nat.le_of_ble_eq_true rfl)) dL_isSo_88 ⟨(by show cl1 + 0 ≤ 6; omega), (by show sl1 + 0 ≤ 36; omega)⟩) ?_
              refine lv_istore (lv' := [(15, .int (0)), (14, .int (1)), (13, .int (nI (k1))), (12, .int (1)), (11, .int (0)), (10, .int (0)), (9, .int (0)), (8, .int (0)), (7, .int (1)), (0, .ref (a 0)), (1, .ref (a 21)), (2, .ref (a 22)), (3, .ref (a 23)), (4, .ref (a 24)), (5, .ref (a 25)), (6, .ref (a 26))]) hx hb dL_isSo_91 hl (by decide) rfl (fun ls hl => ?_)
              refine lv_aload hx hb dL_isSo_93 (lv_at hl 13 rfl) ?_
              refine lv_bipush (v := 7) hx hb dL_isSo_95 (by decide) ?_
              refine lv_iload hx hb dL_isSo_97 (lv_at hl 2 rfl) ?_
              refine lv_imul hx hb dL_isSo_99 ?_
              refine b_ti (pk_mul (7) (k1)) ?_
              refine lv_iconst (v := 3) hx hb dL_isSo_100 (by decide) ?_
              refine lv_iadd hx hb dL_isSo_101 ?_
              refine b_ti (nI_add ((7) * (k1)) (3)) ?_
              refine b_iald hx hb hK hP 24 0 (f := (bbI 6)) rfl rfl (j := ((7) * (k1)) + (3)) (by omega) (by decide) dL_isSo_102 ?_
              refine b_ti (y := 0) ((kb_v (k1) (by omega)).2.2.2.1) ?_
              refine lv_aload hx hb dL_isSo_103 (lv_at hl 13 rfl) ?_
              refine lv_bipush (v := 7) hx hb dL_isSo_105 (by decide) ?_
              refine lv_iload hx hb dL_isSo_107 (lv_at hl 2 rfl) ?_
              refine lv_imul hx hb dL_isSo_109 ?_
              refine b_ti (pk_mul (7) (k1)) ?_
              refine lv_iconst (v := 5) hx hb dL_isSo_110 (by decide) ?_
              refine lv_iadd hx hb dL_isSo_111 ?_
              refine b_ti (nI_add ((7) * (k1)) (5)) ?_
              refine b_iald hx hb hK hP 24 0 (f := (bbI 6)) rfl rfl (j := ((7) * (k1)) + (5)) (by omega) (by decide) dL_isSo_112 ?_
              refine b_ti (y := 100) ((kb_v (k1) (by omega)).2.2.2.2.2.1) ?_
              refine b_csi (v := 0) (W.runS (As := [.int (0), .int (100)]) (rest := []) ⟨hx, hb, hml, hown, hts⟩ (c_L_at ll  ) (va_cwS 2 hts gL_isSo_L_at rfl rfl rfl (by decide +kernel) ⟨Nat.le_of_ble_eq_true rfl, Nat.le_of_ble_eq_true rfl⟩) ⟨PT.blind, PT.to⟩ rfl rfl hl.1 rfl (lv_room (Nat.le_of_ble_eq_true rfl)) dL_isSo_113 ⟨(by show cl1 + 0 ≤ 6; omega), (by show sl1 + 0 ≤ 36; omega)⟩) ?_
              refine lv_istore (lv' := [(16, .int (0)), (15, .int (0)), (14, .int (1)), (13, .int (nI (k1))), (12, .int (1)), (11, .int (0)), (10, .int (0)), (9, .int (0)), (8, .int (0)), (7, .int (1)), (0, .ref (a 0)), (1, .ref (a 21)), (2, .ref (a 22)), (3, .ref (a 23)), (4, .ref (a 24)), (5, .ref (a 25)), (6, .ref (a 26))]) hx hb dL_isSo_116 hl (by decide) rfl (fun ls hl => ?_)
              refine lv_iload hx hb dL_isSo_118 (lv_at hl 2 rfl) ?_
              refine lv_if_eq (tgt := 158) hx hb dL_isSo_120 (by decide) (fun c_33 => ?_) (fun c_33 => ?_)
              · have n_33 := c_33
                exact absurd c_33 (by decide)
              · have n_33 := c_33
                refine lv_iload hx hb dL_isSo_123 (lv_at hl 3 rfl) ?_
                refine lv_aload hx hb dL_isSo_125 (lv_at hl 14 rfl) ?_
                refine b_csi (v := 0) (W.runS (As := [.int (nI (k1)), .ref (a 24)]) (rest := []) ⟨hx, hb, hml, hown, hts⟩ (c_L_net ll D a cI cJ am nx nw k1 (by omega)) (va_cwS 2 hts gL_isSo_L_net rfl rfl rfl (by decide +kernel) ⟨Nat.le_of_ble_eq_true rfl, Nat.le_of_ble_eq_true rfl⟩) ⟨PR.blind, PR.go hP hK hE⟩ rfl rfl hl.1 rfl (lv_room (Nat.le_of_ble_eq_true rfl)) dL_isSo_127 ⟨(by show cl1 + 0 ≤ 6; omega), (by show sl1 + 0 ≤ 36; omega)⟩) ?_
                refine lv_i2l (v := (0 : Int32).toInt64) hx hb dL_isSo_130 rfl ?_
                refine b_tl (y := 0) (by decide) ?_
                refine lv_aload_n hx hb dL_isSo_131 rfl (lv_at hl 10 rfl) ?_
                refine lv_iload hx hb dL_isSo_132 (lv_at hl 3 rfl) ?_
                refine b_csl (v := (dnmI 6) k1) (W.runV (As := [.int (nI (k1))]) (rest := [.long (0)]) ⟨hx, hb, hml, hown, hts⟩ (c_X3_shareDenominator ll D a cI cJ z32 (nuI 6) (dnmI 6) z64 am nx z32 z32 z32 z32 (rtI 6) (rtI 6) (rtI 6) z32 z32 z32 z32 0 k1 (by omega)) (cwV 1 hts gL_isSo_X3_shareDenominator rfl rfl rfl (by decide +kernel) ⟨Nat.le_of_ble_eq_true rfl, Nat.le_of_ble_eq_true rfl⟩) ⟨PR.blind, va_recv hK hP (ci := 3) (q0 := 0) rfl rfl, PR.goP (wr := (LR a cI nw)) hP hK hE⟩ rfl rfl hl.1 rfl (lv_room (Nat.le_of_ble_eq_true rfl)) dL_isSo_134 ⟨(by show cl1 + 0 ≤ 6; omega), (by show sl1 + 0 ≤ 36; omega)⟩) ?_
                refine b_tl (y := 1) (kq_de (k1) (by omega)) ?_
                refine lv_aload_n hx hb dL_isSo_137 rfl (lv_at hl 10 rfl) ?_
                refine lv_iload hx hb dL_isSo_138 (lv_at hl 3 rfl) ?_
                refine b_csl (v := (nuI 6) k1) (W.runV (As := [.int (nI (k1))]) (rest := [.long (1), .long (0)]) ⟨hx, hb, hml, hown, hts⟩ (c_X3_shareNumerator ll D a cI cJ z32 (nuI 6) (dnmI 6) z64 am nx z32 z32 z32 z32 (rtI 6) (rtI 6) (rtI 6) z32 z32 z32 z32 0 k1 (by omega)) (cwV 1 hts gL_isSo_X3_shareNumerator rfl rfl rfl (by decide +kernel) ⟨Nat.le_of_ble_eq_true rfl, Nat.le_of_ble_eq_true rfl⟩) ⟨PR.blind, va_recv hK hP (ci := 3) (q0 := 0) rfl rfl, PR.goP (wr := (LR a cI nw)) hP hK hE⟩ rfl rfl hl.1 rfl (lv_room (Nat.le_of_ble_eq_true rfl)) dL_isSo_140 ⟨(by show cl1 + 0 ≤ 6; omega), (by show sl1 + 0 ≤ 36; omega)⟩) ?_
                refine lv_lsub hx hb dL_isSo_143 ?_
                refine lv_lmul hx hb dL_isSo_144 ?_
                refine b_tl (y := 0) Int64.zero_mul ?_
                refine lv_aload_n hx hb dL_isSo_145 rfl (lv_at hl 10 rfl) ?_
                refine lv_iload hx hb dL_isSo_146 (lv_at hl 3 rfl) ?_
                refine b_csl (v := (dnmI 6) k1) (W.runV (As := [.int (nI (k1))]) (rest := [.long (0)]) ⟨hx, hb, hml, hown, hts⟩ (c_X3_shareDenominator ll D a cI cJ z32 (nuI 6) (dnmI 6) z64 am nx z32 z32 z32 z32 (rtI 6) (rtI 6) (rtI 6) z32 z32 z32 z32 0 k1 (by omega)) (cwV 1 hts gL_isSo_X3_shareDenominator rfl rfl rfl (by decide +kernel) ⟨Nat.le_of_ble_eq_true rfl, Nat.le_of_ble_eq_true rfl⟩) ⟨PR.blind, va_recv hK hP (ci := 3) (q0 := 0) rfl rfl, PR.goP (wr := (LR a cI nw)) hP hK hE⟩ rfl rfl hl.1 rfl (lv_room (Nat.le_of_ble_eq_true rfl)) dL_isSo_148 ⟨(by show cl1 + 0 ≤ 6; omega), (by show sl1 + 0 ≤ 36; omega)⟩) ?_
                refine b_tl (y := 1) (kq_de (k1) (by omega)) ?_
                refine b_csl (v := 0) (W.runS (As := [.long (0), .long (1)]) (rest := []) ⟨hx, hb, hml, hown, hts⟩ (c_L_floor_1 ll  ) (va_cwS 2 hts gL_isSo_L_floor rfl rfl rfl (by decide +kernel) ⟨Nat.le_of_ble_eq_true rfl, Nat.le_of_ble_eq_true rfl⟩) ⟨PT.blind, PT.to⟩ rfl rfl hl.1 rfl (lv_room (Nat.le_of_ble_eq_true rfl)) dL_isSo_151 ⟨(by show cl1 + 0 ≤ 6; omega), (by show sl1 + 0 ≤ 36; omega)⟩) ?_
                refine lv_l2i (v := (0 : Int64).toInt32) hx hb dL_isSo_154 rfl ?_
                refine b_ti (y := 0) (by decide) ?_
                refine lv_goto (tgt := 159) hx hb dL_isSo_155 (by decide) ?_
                refine lv_istore (lv' := [(17, .int (0)), (16, .int (0)), (15, .int (0)), (14, .int (1)), (13, .int (nI (k1))), (12, .int (1)), (11, .int (0)), (10, .int (0)), (9, .int (0)), (8, .int (0)), (7, .int (1)), (0, .ref (a 0)), (1, .ref (a 21)), (2, .ref (a 22)), (3, .ref (a 23)), (4, .ref (a 24)), (5, .ref (a 25)), (6, .ref (a 26))]) hx hb dL_isSo_159 hl (by decide) rfl (fun ls hl => ?_)
                refine lv_iload hx hb dL_isSo_161 (lv_at hl 9 rfl) ?_
                refine lv_iload hx hb dL_isSo_163 (lv_at hl 3 rfl) ?_
                refine lv_if_eq (tgt := 192) hx hb dL_isSo_165 (by decide) (fun c_34 => ?_) (fun c_34 => ?_)
                · have n_34 := c_34
                  exact absurd c_34 (by decide)
                · have n_34 := c_34
                  refine lv_aload hx hb dL_isSo_168 (lv_at hl 15 rfl) ?_
                  refine lv_bipush (v := 7) hx hb dL_isSo_170 (by decide) ?_
                  refine lv_iload hx hb dL_isSo_172 (lv_at hl 4 rfl) ?_
                  refine lv_imul hx hb dL_isSo_174 ?_
                  refine b_ti (pk_mul (7) (k1)) ?_
                  refine b_iald hx hb hK hP 24 0 (f := (bbI 6)) rfl rfl (j := (7) * (k1)) (by omega) (by decide) dL_isSo_175 ?_
                  refine b_ti (y := 0) ((kb_v (k1) (by omega)).1) ?_
                  refine lv_aload hx hb dL_isSo_176 (lv_at hl 15 rfl) ?_
                  refine lv_bipush (v := 7) hx hb dL_isSo_178 (by decide) ?_
                  refine lv_iload hx hb dL_isSo_180 (lv_at hl 4 rfl) ?_
                  refine lv_imul hx hb dL_isSo_182 ?_
                  refine b_ti (pk_mul (7) (k1)) ?_
                  refine lv_iconst (v := 4) hx hb dL_isSo_183 (by decide) ?_
                  refine lv_iadd hx hb dL_isSo_184 ?_
                  refine b_ti (nI_add ((7) * (k1)) (4)) ?_
                  refine b_iald hx hb hK hP 24 0 (f := (bbI 6)) rfl rfl (j := ((7) * (k1)) + (4)) (by omega) (by decide) dL_isSo_185 ?_
                  refine b_ti (y := 100) ((kb_v (k1) (by omega)).2.2.2.2.1) ?_
                  refine b_csi (v := 0) (W.runS (As := [.int (0), .int (100)]) (rest := [.int (0)]) ⟨hx, hb, hml, hown, hts⟩ (c_L_at ll  ) (va_cwS 2 hts gL_isSo_L_at rfl rfl rfl (by decide +kernel) ⟨Nat.le_of_ble_eq_true rfl, Nat.le_of_ble_eq_true rfl⟩) ⟨PT.blind, PT.to⟩ rfl rfl hl.1 rfl (lv_room (Nat.le_of_ble_eq_true rfl)) dL_isSo_186 ⟨(by show cl1 + 0 ≤ 6; omega), (by show sl1 + 0 ≤ 36; omega)⟩) ?_
                  refine lv_goto (tgt := 193) hx hb dL_isSo_189 (by decide) ?_
                  refine lv_iadd hx hb dL_isSo_193 ?_
                  refine b_ti (y := 0) (by decide) ?_
                  refine lv_istore (lv' := [(8, .int (0)), (17, .int (0)), (16, .int (0)), (15, .int (0)), (14, .int (1)), (13, .int (nI (k1))), (12, .int (1)), (11, .int (0)), (10, .int (0)), (9, .int (0)), (7, .int (1)), (0, .ref (a 0)), (1, .ref (a 21)), (2, .ref (a 22)), (3, .ref (a 23)), (4, .ref (a 24)), (5, .ref (a 25)), (6, .ref (a 26))]) hx hb dL_isSo_194 hl (by decide) rfl (fun ls hl => ?_)
                  refine lv_iload hx hb dL_isSo_196 (lv_at hl 9 rfl) ?_
                  refine lv_iload hx hb dL_isSo_198 (lv_at hl 4 rfl) ?_
                  refine lv_if_eq (tgt := 229) hx hb dL_isSo_200 (by decide) (fun c_35 => ?_) (fun c_35 => ?_)
                  · have n_35 := c_35
                    exact absurd c_35 (by decide)
                  · have n_35 := c_35
                    refine lv_aload hx hb dL_isSo_203 (lv_at hl 15 rfl) ?_
                    refine lv_bipush (v := 7) hx hb dL_isSo_205 (by decide) ?_
                    refine lv_iload hx hb dL_isSo_207 (lv_at hl 5 rfl) ?_
                    refine lv_imul hx hb dL_isSo_209 ?_
                    refine b_ti (pk_mul (7) (k1)) ?_
                    refine lv_iconst (v := 1) hx hb dL_isSo_210 (by decide) ?_
                    refine lv_iadd hx hb dL_isSo_211 ?_
                    refine b_ti (nI_add ((7) * (k1)) (1)) ?_
                    refine b_iald hx hb hK hP 24 0 (f := (bbI 6)) rfl rfl (j := ((7) * (k1)) + (1)) (by omega) (by decide) dL_isSo_212 ?_
                    refine b_ti (y := 0) ((kb_v (k1) (by omega)).2.1) ?_
                    refine lv_aload hx hb dL_isSo_213 (lv_at hl 15 rfl) ?_
                    refine lv_bipush (v := 7) hx hb dL_isSo_215 (by decide) ?_
                    refine lv_iload hx hb dL_isSo_217 (lv_at hl 5 rfl) ?_
                    refine lv_imul hx hb dL_isSo_219 ?_
                    refine b_ti (pk_mul (7) (k1)) ?_
                    refine lv_iconst (v := 4) hx hb dL_isSo_220 (by decide) ?_
                    refine lv_iadd hx hb dL_isSo_221 ?_
                    refine b_ti (nI_add ((7) * (k1)) (4)) ?_
                    refine b_iald hx hb hK hP 24 0 (f := (bbI 6)) rfl rfl (j := ((7) * (k1)) + (4)) (by omega) (by decide) dL_isSo_222 ?_
                    refine b_ti (y := 100) ((kb_v (k1) (by omega)).2.2.2.2.1) ?_
                    refine b_csi (v := 0) (W.runS (As := [.int (0), .int (100)]) (rest := [.int (0)]) ⟨hx, hb, hml, hown, hts⟩ (c_L_at ll  ) (va_cwS 2 hts gL_isSo_L_at rfl rfl rfl (by decide +kernel) ⟨Nat.le_of_ble_eq_true rfl, Nat.le_of_ble_eq_true rfl⟩) ⟨PT.blind, PT.to⟩ rfl rfl hl.1 rfl (lv_room (Nat.le_of_ble_eq_true rfl)) dL_isSo_223 ⟨(by show cl1 + 0 ≤ 6; omega), (by show sl1 + 0 ≤ 36; omega)⟩) ?_
                    refine lv_goto (tgt := 230) hx hb dL_isSo_226 (by decide) ?_
                    refine lv_iadd hx hb dL_isSo_230 ?_
                    refine b_ti (y := 0) (by decide) ?_
                    refine lv_istore (lv' := [(9, .int (0)), (8, .int (0)), (17, .int (0)), (16, .int (0)), (15, .int (0)), (14, .int (1)), (13, .int (nI (k1))), (12, .int (1)), (11, .int (0)), (10, .int (0)), (7, .int (1)), (0, .ref (a 0)), (1, .ref (a 21)), (2, .ref (a 22)), (3, .ref (a 23)), (4, .ref (a 24)), (5, .ref (a 25)), (6, .ref (a 26))]) hx hb dL_isSo_231 hl (by decide) rfl (fun ls hl => ?_)
                    refine lv_iload hx hb dL_isSo_233 (lv_at hl 8 rfl) ?_
                    refine lv_iload hx hb dL_isSo_235 (lv_at hl 2 rfl) ?_
                    refine lv_iadd hx hb dL_isSo_237 ?_
                    refine b_ti (y := 0) (by decide) ?_
                    refine lv_istore (lv' := [(11, .int (0)), (9, .int (0)), (8, .int (0)), (17, .int (0)), (16, .int (0)), (15, .int (0)), (14, .int (1)), (13, .int (nI (k1))), (12, .int (1)), (10, .int (0)), (7, .int (1)), (0, .ref (a 0)), (1, .ref (a 21)), (2, .ref (a 22)), (3, .ref (a 23)), (4, .ref (a 24)), (5, .ref (a 25)), (6, .ref (a 26))]) hx hb dL_isSo_238 hl (by decide) rfl (fun ls hl => ?_)
                    refine lv_aload_n hx hb dL_isSo_240 rfl (lv_at hl 11 rfl) ?_
                    refine lv_iload hx hb dL_isSo_241 (lv_at hl 7 rfl) ?_
                    refine b_csi (v := tr (z32 k1) ((rtI 6) k1) - tr (z32 k1) ((rtI 6) k1)) (W.runV (As := [.int (nI (k1))]) (rest := []) ⟨hx, hb, hml, hown, hts⟩ (c_X3_netValue ll D a cI cJ z32 (nuI 6) (dnmI 6) z64 am nx z32 z32 z32 z32 (rtI 6) (rtI 6) (rtI 6) z32 z32 z32 z32 0 k1 (by omega)) (cwV 1 hts gL_isSo_X3_netValue rfl rfl rfl (by decide +kernel) ⟨Nat.le_of_ble_eq_true rfl, Nat.le_of_ble_eq_true rfl⟩) ⟨PR.blind, va_recv hK hP (ci := 3) (q0 := 0) rfl rfl, PR.goP (wr := (LR a cI nw)) hP hK hE⟩ rfl rfl hl.1 rfl (lv_room (Nat.le_of_ble_eq_true rfl)) dL_isSo_243 ⟨(by show cl1 + 0 ≤ 6; omega), (by show sl1 + 0 ≤ 36; omega)⟩) ?_
                    refine b_ti (y := 0) (kq_net (k1) (by omega)) ?_
                    refine lv_iload hx hb dL_isSo_246 (lv_at hl 7 rfl) ?_
                    refine lv_aload hx hb dL_isSo_248 (lv_at hl 15 rfl) ?_
                    refine b_csi (v := 0) (W.runS (As := [.int (nI (k1)), .ref (a 24)]) (rest := [.int (0)]) ⟨hx, hb, hml, hown, hts⟩ (c_L_net ll D a cI cJ am nx nw k1 (by omega)) (va_cwS 2 hts gL_isSo_L_net rfl rfl rfl (by decide +kernel) ⟨Nat.le_of_ble_eq_true rfl, Nat.le_of_ble_eq_true rfl⟩) ⟨PR.blind, PR.go hP hK hE⟩ rfl rfl hl.1 rfl (lv_room (Nat.le_of_ble_eq_true rfl)) dL_isSo_250 ⟨(by show cl1 + 0 ≤ 6; omega), (by show sl1 + 0 ≤ 36; omega)⟩) ?_
                    refine lv_icmp_ne (tgt := 329) hx hb dL_isSo_253 (by decide) (fun c_36 => ?_) (fun c_36 => ?_)
                    · have n_36 := c_36
                      exact absurd c_36 (by decide)
                    · have n_36 := c_36
                      refine lv_aload_n hx hb dL_isSo_256 rfl (lv_at hl 11 rfl) ?_
                      refine lv_iload hx hb dL_isSo_257 (lv_at hl 7 rfl) ?_
                      refine b_csi (v := tr (z32 k1) ((rtI 6) k1)) (W.runV (As := [.int (nI (k1))]) (rest := []) ⟨hx, hb, hml, hown, hts⟩ (c_X3_translatedEquity ll D a cI cJ z32 (nuI 6) (dnmI 6) z64 am nx z32 z32 z32 z32 (rtI 6) (rtI 6) (rtI 6) z32 z32 z32 z32 0 k1 (by omega)) (cwV 1 hts gL_isSo_X3_translatedEquity rfl rfl rfl (by decide +kernel) ⟨Nat.le_of_ble_eq_true rfl, Nat.le_of_ble_eq_true rfl⟩) ⟨PR.blind, va_recv hK hP (ci := 3) (q0 := 0) rfl rfl, PR.goP (wr := (LR a cI nw)) hP hK hE⟩ rfl rfl hl.1 rfl (lv_room (Nat.le_of_ble_eq_true rfl)) dL_isSo_259 ⟨(by show cl1 + 0 ≤ 6; omega), (by show sl1 + 0 ≤ 36; omega)⟩) ?_
                      refine b_ti (y := 0) (kq_tr (k1) (by omega)) ?_
                      refine lv_iload hx hb dL_isSo_262 (lv_at hl 5 rfl) ?_
                      refine lv_icmp_ne (tgt := 329) hx hb dL_isSo_264 (by decide) (fun c_37 => ?_) (fun c_37 => ?_)
                      · have n_37 := c_37
                        exact absurd c_37 (by decide)
                      · have n_37 := c_37
                        refine lv_aload_n hx hb dL_isSo_267 rfl (lv_at hl 11 rfl) ?_
                        refine lv_iload hx hb dL_isSo_268 (lv_at hl 7 rfl) ?_
                        refine b_csi (v := tr (z32 k1) ((rtI 6) k1)) (W.runV (As := [.int (nI (k1))]) (rest := []) ⟨hx, hb, hml, hown, hts⟩ (c_X3_translatedResult ll D a cI cJ z32 (nuI 6) (dnmI 6) z64 am nx z32 z32 z32 z32 (rtI 6) (rtI 6) (rtI 6) z32 z32 z32 z32 0 k1 (by omega)) (cwV 1 hts gL_isSo_X3_translatedResult rfl rfl rfl (by decide +kernel) ⟨Nat.le_of_ble_eq_true rfl, Nat.le_of_ble_eq_true rfl⟩) ⟨PR.blind, va_recv hK hP (ci := 3) (q0 := 0) rfl rfl, PR.goP (wr := (LR a cI nw)) hP hK hE⟩ rfl rfl hl.1 rfl (lv_room (Nat.le_of_ble_eq_true rfl)) dL_isSo_270 ⟨(by show cl1 + 0 ≤ 6; omega), (by show sl1 + 0 ≤ 36; omega)⟩) ?_
                        refine b_ti (y := 0) (kq_tr (k1) (by omega)) ?_
                        refine lv_iload hx hb dL_isSo_273 (lv_at hl 4 rfl) ?_
                        refine lv_icmp_ne (tgt := 329) hx hb dL_isSo_275 (by decide) (fun c_38 => ?_) (fun c_38 => ?_)
                        · have n_38 := c_38
                          exact absurd c_38 (by decide)
                        · have n_38 := c_38
                          refine lv_aload_n hx hb dL_isSo_278 rfl (lv_at hl 11 rfl) ?_
                          refine lv_iload hx hb dL_isSo_279 (lv_at hl 7 rfl) ?_
                          refine b_csi (v := tr (z32 k1) ((rtI 6) k1) - tr (z32 k1) ((rtI 6) k1) - tr (z32 k1) ((rtI 6) k1) - tr (z32 k1) ((rtI 6) k1)) (W.runV (As := [.int (nI (k1))]) (rest := []) ⟨hx, hb, hml, hown, hts⟩ (c_X3_reserve ll D a cI cJ z32 (nuI 6) (dnmI 6) z64 am nx z32 z32 z32 z32 (rtI 6) (rtI 6) (rtI 6) z32 z32 z32 z32 0 k1 (by omega)) (cwV 1 hts gL_isSo_X3_reserve rfl rfl rfl (by decide +kernel) ⟨Nat.le_of_ble_eq_true rfl, Nat.le_of_ble_eq_true rfl⟩) ⟨PR.blind, va_recv hK hP (ci := 3) (q0 := 0) rfl rfl, PR.goP (wr := (LR a cI nw)) hP hK hE⟩ rfl rfl hl.1 rfl (lv_room (Nat.le_of_ble_eq_true rfl)) dL_isSo_281 ⟨(by show cl1 + 0 ≤ 6; omega), (by show sl1 + 0 ≤ 36; omega)⟩) ?_
                          refine b_ti (y := 0) (kq_res (k1) (by omega)) ?_
                          refine lv_iload hx hb dL_isSo_284 (lv_at hl 7 rfl) ?_
                          refine lv_aload hx hb dL_isSo_286 (lv_at hl 15 rfl) ?_
                          refine b_csi (v := 0) (W.runS (As := [.int (nI (k1)), .ref (a 24)]) (rest := [.int (0)]) ⟨hx, hb, hml, hown, hts⟩ (c_L_net ll D a cI cJ am nx nw k1 (by omega)) (va_cwS 2 hts gL_isSo_L_net rfl rfl rfl (by decide +kernel) ⟨Nat.le_of_ble_eq_true rfl, Nat.le_of_ble_eq_true rfl⟩) ⟨PR.blind, PR.go hP hK hE⟩ rfl rfl hl.1 rfl (lv_room (Nat.le_of_ble_eq_true rfl)) dL_isSo_288 ⟨(by show cl1 + 0 ≤ 6; omega), (by show sl1 + 0 ≤ 36; omega)⟩) ?_
                          refine lv_iload hx hb dL_isSo_291 (lv_at hl 5 rfl) ?_
                          refine lv_isub hx hb dL_isSo_293 ?_
                          refine b_ti (y := 0) (by decide) ?_
                          refine lv_iload hx hb dL_isSo_294 (lv_at hl 4 rfl) ?_
                          refine lv_isub hx hb dL_isSo_296 ?_
                          refine b_ti (y := 0) (by decide) ?_
                          refine lv_icmp_ne (tgt := 329) hx hb dL_isSo_297 (by decide) (fun c_39 => ?_) (fun c_39 => ?_)
                          · have n_39 := c_39
                            exact absurd c_39 (by decide)
                          · have n_39 := c_39
                            refine lv_aload_n hx hb dL_isSo_300 rfl (lv_at hl 11 rfl) ?_
                            refine lv_iload hx hb dL_isSo_301 (lv_at hl 7 rfl) ?_
                            refine b_csi (v := mAm z32 z32 (rtI 6) (nuI 6) (dnmI 6) (mem z32 5) k1) (W.runV (As := [.int (nI (k1))]) (rest := []) ⟨hx, hb, hml, hown, hts⟩ (c_X3_minority ll D a cI cJ z32 (nuI 6) (dnmI 6) z64 am nx z32 z32 z32 z32 (rtI 6) (rtI 6) (rtI 6) z32 z32 z32 z32 0 k1 (by omega)) (cwV 1 hts gL_isSo_X3_minority rfl rfl rfl (by decide +kernel) ⟨Nat.le_of_ble_eq_true rfl, Nat.le_of_ble_eq_true rfl⟩) ⟨PR.blind, va_recv hK hP (ci := 3) (q0 := 0) rfl rfl, PR.goP (wr := (LR a cI nw)) hP hK hE⟩ rfl rfl hl.1 rfl (lv_room (Nat.le_of_ble_eq_true rfl)) dL_isSo_303 ⟨(by show cl1 + 0 ≤ 6; omega), (by show sl1 + 0 ≤ 36; omega)⟩) ?_
                            refine b_ti (y := 0) (kq_min (k1) (by omega)) ?_
                            refine lv_iload hx hb dL_isSo_306 (lv_at hl 3 rfl) ?_
                            refine lv_icmp_ne (tgt := 329) hx hb dL_isSo_308 (by decide) (fun c_40 => ?_) (fun c_40 => ?_)
                            · have n_40 := c_40
                              exact absurd c_40 (by decide)
                            · have n_40 := c_40
                              refine lv_aload_n hx hb dL_isSo_311 rfl (lv_at hl 11 rfl) ?_
                              refine lv_iload hx hb dL_isSo_312 (lv_at hl 7 rfl) ?_
                              refine b_csi (v := z32 k1) (W.runV (As := [.int (nI (k1))]) (rest := []) ⟨hx, hb, hml, hown, hts⟩ (c_X3_goodwill ll D a cI cJ z32 (nuI 6) (dnmI 6) z64 am nx z32 z32 z32 z32 (rtI 6) (rtI 6) (rtI 6) z32 z32 z32 z32 0 k1 (by omega)) (cwV 1 hts gL_isSo_X3_goodwill rfl rfl rfl (by decide +kernel) ⟨Nat.le_of_ble_eq_true rfl, Nat.le_of_ble_eq_true rfl⟩) ⟨PR.blind, va_recv hK hP (ci := 3) (q0 := 0) rfl rfl, PR.goP (wr := (LR a cI nw)) hP hK hE⟩ rfl rfl hl.1 rfl (lv_room (Nat.le_of_ble_eq_true rfl)) dL_isSo_314 ⟨(by show cl1 + 0 ≤ 6; omega), (by show sl1 + 0 ≤ 36; omega)⟩) ?_
                              refine b_ti (y := 0) rfl ?_
                              refine lv_aload hx hb dL_isSo_317 (lv_at hl 16 rfl) ?_
                              refine lv_iload hx hb dL_isSo_319 (lv_at hl 7 rfl) ?_
                              refine b_iald hx hb hK hP 25 0 (f := z32) rfl rfl (j := k1) (by omega) (by decide) dL_isSo_321 ?_
                              refine b_ti (y := 0) rfl ?_
                              refine lv_icmp_ne (tgt := 329) hx hb dL_isSo_322 (by decide) (fun c_41 => ?_) (fun c_41 => ?_)
                              · have n_41 := c_41
                                exact absurd c_41 (by decide)
                              · have n_41 := c_41
                                refine lv_iconst (v := 1) hx hb dL_isSo_325 (by decide) ?_
                                refine lv_goto (tgt := 330) hx hb dL_isSo_326 (by decide) ?_
                                refine lv_istore (lv' := [(12, .int (1)), (11, .int (0)), (9, .int (0)), (8, .int (0)), (17, .int (0)), (16, .int (0)), (15, .int (0)), (14, .int (1)), (13, .int (nI (k1))), (10, .int (0)), (7, .int (1)), (0, .ref (a 0)), (1, .ref (a 21)), (2, .ref (a 22)), (3, .ref (a 23)), (4, .ref (a 24)), (5, .ref (a 25)), (6, .ref (a 26))]) hx hb dL_isSo_330 hl (by decide) rfl (fun ls hl => ?_)
                                refine lv_iconst (v := 0) hx hb dL_isSo_332 (by decide) ?_
                                refine lv_istore (lv' := [(18, .int (0)), (12, .int (1)), (11, .int (0)), (9, .int (0)), (8, .int (0)), (17, .int (0)), (16, .int (0)), (15, .int (0)), (14, .int (1)), (13, .int (nI (k1))), (10, .int (0)), (7, .int (1)), (0, .ref (a 0)), (1, .ref (a 21)), (2, .ref (a 22)), (3, .ref (a 23)), (4, .ref (a 24)), (5, .ref (a 25)), (6, .ref (a 26))]) hx hb dL_isSo_333 hl (by decide) rfl (fun ls hl => ?_)
                                have L3 : ∀ (n3 k3 : Nat) (gg : Nat), k3 + n3 = 6 → (k3 ≤ k1 ∧ gg = 0 ∨ k1 < k3 ∧ gg = 1) → ∀ (cl3 sl3 : Nat) (H : Heap) (locs : List Loc) (ls : Array Slot), cl3 ≤ k1 + gg → sl3 ≤ 6 * (k1 + gg) → ss.heap.size + (k1 + gg) ≤ H.size → va_P D vwCl (KW a cI cJ am nx nw) H → va_D A (KW a cI cJ am nx nw) → va_S A ss.heap H locs → lv_has ls 20 [(18, .int (nI (k3))), (12, .int (1)), (11, .int (0)), (9, .int (0)), (8, .int (0)), (17, .int (0)), (16, .int (0)), (15, .int (0)), (14, .int (1)), (13, .int (nI (k1))), (10, .int (0)), (7, .int (1)), (0, .ref (a 0)), (1, .ref (a 21)), (2, .ref (a 22)), (3, .ref (a 23)), (4, .ref (a 24)), (5, .ref (a 25)), (6, .ref (a 26))] → W pp ll ee rmL_isSo ss mm (([.ref (a 0), .ref (a 21), .ref (a 22), .ref (a 23), .ref (a 24), .ref (a 25), .ref (a 26)] : List Value).toArray) bel mth cde H locs cl3 sl3 Z (F0 mm 335 ls []) := by
                                  intro n3
                                  induction n3 with
                                  | zero =>
                                    intro k3 gg hk3 hy3_0 cl3 sl3 H locs ls hcl3 hsl3 hg hP hD hS hl
                                    have hk3b : 6 = k3 := by omega
                                    subst hk3b
                                    refine lv_iload hx hb dL_isSo_335 (lv_at hl 0 rfl) ?_
                                    refine lv_bipush (v := 6) hx hb dL_isSo_337 (by decide) ?_
                                    refine lv_icmp_ge (tgt := 503) hx hb dL_isSo_339 (by decide) (fun c_42 => ?_) (fun c_42 => ?_)
                                    · have n_42 : (6) ≤ (6) := (nI_leI (a := 6) (b := 6) (by omega) (by omega)).mp c_42
                                      refine lv_iinc (v := nI (k1 + 1)) (lv' := [(13, .int (nI (k1 + 1))), (18, .int (nI (6))), (12, .int (1)), (11, .int (0)), (9, .int (0)), (8, .int (0)), (17, .int (0)), (16, .int (0)), (15, .int (0)), (14, .int (1)), (10, .int (0)), (7, .int (1)), (0, .ref (a 0)), (1, .ref (a 21)), (2, .ref (a 22)), (3, .ref (a 23)), (4, .ref (a 24)), (5, .ref (a 25)), (6, .ref (a 26))]) hx hb dL_isSo_503 hl (k := 9) rfl (nI_1 (k1)) (by decide) rfl (fun ls hl => ?_)
                                      refine lv_goto (tgt := 37) hx hb dL_isSo_506 (by decide) ?_
                                      exact ih1 (k1 + 1) (by omega) _ _ _ _ ls (by omega) (by omega) (by omega) (by exact hP) (by exact hD) hS (lv_sub hl [0, 2, 3, 10, 4, 5, 11, 12, 13, 14, 15, 16, 17, 18] rfl)
                                    · have n_42 : ¬ ((6) ≤ (6)) := fun h => c_42 ((nI_leI (a := 6) (b := 6) (by omega) (by omega)).mpr h)
                                      exfalso; omega
                                  | succ n3 ih3 =>
                                    intro k3 gg hk3 hy3_0 cl3 sl3 H locs ls hcl3 hsl3 hg hP hD hS hl
                                    have hk3b : k3 < 6 := by omega
                                    refine lv_iload hx hb dL_isSo_335 (lv_at hl 0 rfl) ?_
                                    refine lv_bipush (v := 6) hx hb dL_isSo_337 (by decide) ?_
                                    refine lv_icmp_ge (tgt := 503) hx hb dL_isSo_339 (by decide) (fun c_43 => ?_) (fun c_43 => ?_)
                                    · have n_43 : (6) ≤ (k3) := (nI_leI (a := 6) (b := k3) (by omega) (by omega)).mp c_43
                                      exfalso; omega
                                    · have n_43 : ¬ ((6) ≤ (k3)) := fun h => c_43 ((nI_leI (a := 6) (b := k3) (by omega) (by omega)).mpr h)
                                      refine lv_iload hx hb dL_isSo_342 (lv_at hl 1 rfl) ?_
                                      refine lv_if_eq (tgt := 503) hx hb dL_isSo_344 (by decide) (fun c_44 => ?_) (fun c_44 => ?_)
                                      · have n_44 := c_44
                                        exact absurd c_44 (by decide)
                                      · have n_44 := c_44
                                        refine lv_aload_n hx hb dL_isSo_347 rfl (lv_at hl 14 rfl) ?_
                                        refine lv_bipush (v := 6) hx hb dL_isSo_348 (by decide) ?_
                                        refine lv_iload hx hb dL_isSo_350 (lv_at hl 9 rfl) ?_
                                        refine lv_imul hx hb dL_isSo_352 ?_
                                        refine b_ti (pk_mul (6) (k1)) ?_
                                        refine lv_iload hx hb dL_isSo_353 (lv_at hl 0 rfl) ?_
                                        refine lv_iadd hx hb dL_isSo_355 ?_
                                        refine b_ti (nI_add ((6) * (k1)) (k3)) ?_
                                        refine b_iald hx hb hK hP 22 0 (f := z32) rfl rfl (j := ((6) * (k1)) + (k3)) (by omega) (by decide) dL_isSo_356 ?_
                                        refine b_ti (y := 0) rfl ?_
                                        refine lv_aload_n hx hb dL_isSo_357 rfl (lv_at hl 15 rfl) ?_
                                        refine lv_bipush (v := 6) hx hb dL_isSo_358 (by decide) ?_
                                        refine lv_iload hx hb dL_isSo_360 (lv_at hl 9 rfl) ?_
                                        refine lv_imul hx hb dL_isSo_362 ?_
                                        refine b_ti (pk_mul (6) (k1)) ?_
                                        refine lv_iload hx hb dL_isSo_363 (lv_at hl 0 rfl) ?_
                                        refine lv_iadd hx hb dL_isSo_365 ?_
                                        refine b_ti (nI_add ((6) * (k1)) (k3)) ?_
                                        refine b_iald hx hb hK hP 23 0 (f := z32) rfl rfl (j := ((6) * (k1)) + (k3)) (by omega) (by decide) dL_isSo_366 ?_
                                        refine b_ti (y := 0) rfl ?_
                                        refine lv_icmp_ge (tgt := 383) hx hb dL_isSo_367 (by decide) (fun c_45 => ?_) (fun c_45 => ?_)
                                        · have n_45 := c_45
                                          refine lv_aload_n hx hb dL_isSo_383 rfl (lv_at hl 15 rfl) ?_
                                          refine lv_bipush (v := 6) hx hb dL_isSo_384 (by decide) ?_
                                          refine lv_iload hx hb dL_isSo_386 (lv_at hl 9 rfl) ?_
                                          refine lv_imul hx hb dL_isSo_388 ?_
                                          refine b_ti (pk_mul (6) (k1)) ?_
                                          refine lv_iload hx hb dL_isSo_389 (lv_at hl 0 rfl) ?_
                                          refine lv_iadd hx hb dL_isSo_391 ?_
                                          refine b_ti (nI_add ((6) * (k1)) (k3)) ?_
                                          refine b_iald hx hb hK hP 23 0 (f := z32) rfl rfl (j := ((6) * (k1)) + (k3)) (by omega) (by decide) dL_isSo_392 ?_
                                          refine b_ti (y := 0) rfl ?_
                                          refine lv_istore (lv' := [(19, .int (0)), (18, .int (nI (k3))), (12, .int (1)), (11, .int (0)), (9, .int (0)), (8, .int (0)), (17, .int (0)), (16, .int (0)), (15, .int (0)), (14, .int (1)), (13, .int (nI (k1))), (10, .int (0)), (7, .int (1)), (0, .ref (a 0)), (1, .ref (a 21)), (2, .ref (a 22)), (3, .ref (a 23)), (4, .ref (a 24)), (5, .ref (a 25)), (6, .ref (a 26))]) hx hb dL_isSo_393 hl (by decide) rfl (fun ls hl => ?_)
                                          refine lv_iload hx hb dL_isSo_395 (lv_at hl 11 rfl) ?_
                                          refine lv_iload hx hb dL_isSo_397 (lv_at hl 9 rfl) ?_
                                          refine lv_if_eq (tgt := 418) hx hb dL_isSo_399 (by decide) (fun c_46 => ?_) (fun c_46 => ?_)
                                          · have n_46 := c_46
                                            exact absurd c_46 (by decide)
                                          · have n_46 := c_46
                                            refine lv_iload hx hb dL_isSo_402 (lv_at hl 12 rfl) ?_
                                            refine lv_iload hx hb dL_isSo_404 (lv_at hl 1 rfl) ?_
                                            refine lv_ishr hx hb dL_isSo_406 ?_
                                            refine lv_iconst (v := 1) hx hb dL_isSo_407 (by decide) ?_
                                            refine lv_iand hx hb dL_isSo_408 ?_
                                            refine lv_iconst (v := 1) hx hb dL_isSo_409 (by decide) ?_
                                            refine lv_icmp_ne (tgt := 418) hx hb dL_isSo_410 (by decide) (fun c_47 => ?_) (fun c_47 => ?_)
                                            · have n_47 := c_47
                                              refine lv_iconst (v := 0) hx hb dL_isSo_418 (by decide) ?_
                                              refine lv_iadd hx hb dL_isSo_419 ?_
                                              refine b_ti (y := 0) (by decide) ?_
                                              refine lv_istore (lv' := [(10, .int (0)), (19, .int (0)), (18, .int (nI (k3))), (12, .int (1)), (11, .int (0)), (9, .int (0)), (8, .int (0)), (17, .int (0)), (16, .int (0)), (15, .int (0)), (14, .int (1)), (13, .int (nI (k1))), (7, .int (1)), (0, .ref (a 0)), (1, .ref (a 21)), (2, .ref (a 22)), (3, .ref (a 23)), (4, .ref (a 24)), (5, .ref (a 25)), (6, .ref (a 26))]) hx hb dL_isSo_420 hl (by decide) rfl (fun ls hl => ?_)
                                              refine lv_aload_n hx hb dL_isSo_422 rfl (lv_at hl 13 rfl) ?_
                                              refine lv_iload hx hb dL_isSo_423 (lv_at hl 11 rfl) ?_
                                              refine lv_iload hx hb dL_isSo_425 (lv_at hl 2 rfl) ?_
                                              refine b_csi (v := z32 (6 * k1 + k3)) (W.runV (As := [.int (nI (k1)), .int (nI (k3))]) (rest := []) ⟨hx, hb, hml, hown, hts⟩ (c_X3_held ll D a cI cJ z32 (nuI 6) (dnmI 6) z64 am nx z32 z32 z32 z32 (rtI 6) (rtI 6) (rtI 6) z32 z32 z32 z32 0 k1 k3 (by omega) (by omega)) (cwV 2 hts gL_isSo_X3_held rfl rfl rfl (by decide +kernel) ⟨Nat.le_of_ble_eq_true rfl, Nat.le_of_ble_eq_true rfl⟩) ⟨PR.blind, va_recv hK hP (ci := 3) (q0 := 0) rfl rfl, PR.goP (wr := (LR a cI nw)) hP hK hE⟩ rfl rfl hl.1 rfl (lv_room (Nat.le_of_ble_eq_true rfl)) dL_isSo_427 ⟨(by show cl3 + 0 ≤ 6; omega), (by show sl3 + 0 ≤ 36; omega)⟩) ?_
                                              refine b_ti (y := 0) rfl ?_
                                              refine lv_aload_n hx hb dL_isSo_430 rfl (lv_at hl 14 rfl) ?_
                                              refine lv_bipush (v := 6) hx hb dL_isSo_431 (by decide) ?_
                                              refine lv_iload hx hb dL_isSo_433 (lv_at hl 11 rfl) ?_
                                              refine lv_imul hx hb dL_isSo_435 ?_
                                              refine b_ti (pk_mul (6) (k1)) ?_
                                              refine lv_iload hx hb dL_isSo_436 (lv_at hl 2 rfl) ?_
                                              refine lv_iadd hx hb dL_isSo_438 ?_
                                              refine b_ti (nI_add ((6) * (k1)) (k3)) ?_
                                              refine b_iald hx hb hK hP 21 0 (f := z32) rfl rfl (j := ((6) * (k1)) + (k3)) (by omega) (by decide) dL_isSo_439 ?_
                                              refine b_ti (y := 0) rfl ?_
                                              refine lv_icmp_ne (tgt := 494) hx hb dL_isSo_440 (by decide) (fun c_48 => ?_) (fun c_48 => ?_)
                                              · have n_48 := c_48
                                                exact absurd c_48 (by decide)
                                              · have n_48 := c_48
                                                refine lv_aload_n hx hb dL_isSo_443 rfl (lv_at hl 13 rfl) ?_
                                                refine lv_iconst (v := 5) hx hb dL_isSo_444 (by decide) ?_
                                                refine lv_iload hx hb dL_isSo_445 (lv_at hl 11 rfl) ?_
                                                refine lv_iload hx hb dL_isSo_447 (lv_at hl 2 rfl) ?_
                                                refine lv_iconst (v := 0) hx hb dL_isSo_449 (by decide) ?_
                                                refine lv_iconst (v := 0) hx hb dL_isSo_450 (by decide) ?_
                                                by_cases q_49 : (k1) = (k3)
                                                · refine b_calliG (S := Unit) (g := 1) (w' := fun _ => KW a cI cJ am nx nw) hP hD hS hA (vx_runSW (hh := [(0, 83, 84, 34), (0, 83, 89, 37)]) (As := [.ref (a 0), .int (5), .int (nI (k1)), .int (nI (k3)), .int (0), .int (0)]) (rest := []) ⟨hx, hb, hml, hown, hts⟩ (c_L_calls_eq ll hst D a cI cJ _ am nx nw k1 k3 (by omega) (by omega) q_49) (vx_cwSW (hh := [(0, 83, 84, 34), (0, 83, 89, 37)]) 6 hts gL_isSo_L_calls rfl rfl rfl (by decide +kernel) ⟨Nat.le_of_ble_eq_true rfl, Nat.le_of_ble_eq_true rfl⟩) ⟨PY.blind, PY.goS hP hK hD hE hV hDC hS hA⟩ rfl rfl hl.1 rfl (lv_room (Nat.le_of_ble_eq_true rfl)) dL_isSo_451 ⟨(by show cl3 + 1 ≤ 6; omega), (by show sl3 + 6 ≤ 36; omega)⟩) (fun r9 u9 H locs hr9 hgN hP hD hS => ?_)
                                                  obtain rfl : r9 = (-2000002) := hr9
                                                  refine lv_iload hx hb dL_isSo_454 (lv_at hl 11 rfl) ?_
                                                  refine lv_iload hx hb dL_isSo_456 (lv_at hl 2 rfl) ?_
                                                  refine lv_icmp_ne (tgt := 466) hx hb dL_isSo_458 (by decide) (fun c_50 => ?_) (fun c_50 => ?_)
                                                  · have n_50 : ¬ ((k1) = (k3)) := fun h => c_50 ((nI_eq (a := k1) (b := k3) (by omega) (by omega)).mpr h)
                                                    exact absurd q_49 n_50
                                                  · have n_50 : (k1) = (k3) := (nI_eq (a := k1) (b := k3) (by omega) (by omega)).mp c_50
                                                    refine lv_ldc (v := -2000002) hx hb hown (hts (.constant RL 36 (-2000002)) (by decide +kernel)) dL_isSo_461 ?_
                                                    refine lv_goto (tgt := 487) hx hb dL_isSo_463 (by decide) ?_
                                                    refine lv_icmp_ne (tgt := 494) hx hb dL_isSo_487 (by decide) (fun c_51 => ?_) (fun c_51 => ?_)
                                                    · have n_51 := c_51
                                                      exact absurd c_51 (by decide)
                                                    · have n_51 := c_51
                                                      refine lv_iconst (v := 1) hx hb dL_isSo_490 (by decide) ?_
                                                      refine lv_goto (tgt := 495) hx hb dL_isSo_491 (by decide) ?_
                                                      refine lv_istore (lv' := [(12, .int (1)), (10, .int (0)), (19, .int (0)), (18, .int (nI (k3))), (11, .int (0)), (9, .int (0)), (8, .int (0)), (17, .int (0)), (16, .int (0)), (15, .int (0)), (14, .int (1)), (13, .int (nI (k1))), (7, .int (1)), (0, .ref (a 0)), (1, .ref (a 21)), (2, .ref (a 22)), (3, .ref (a 23)), (4, .ref (a 24)), (5, .ref (a 25)), (6, .ref (a 26))]) hx hb dL_isSo_495 hl (by decide) rfl (fun ls hl => ?_)
                                                      refine lv_iinc (v := nI (k3 + 1)) (lv' := [(18, .int (nI (k3 + 1))), (12, .int (1)), (10, .int (0)), (19, .int (0)), (11, .int (0)), (9, .int (0)), (8, .int (0)), (17, .int (0)), (16, .int (0)), (15, .int (0)), (14, .int (1)), (13, .int (nI (k1))), (7, .int (1)), (0, .ref (a 0)), (1, .ref (a 21)), (2, .ref (a 22)), (3, .ref (a 23)), (4, .ref (a 24)), (5, .ref (a 25)), (6, .ref (a 26))]) hx hb dL_isSo_497 hl (k := 3) rfl (nI_1 (k3)) (by decide) rfl (fun ls hl => ?_)
                                                      refine lv_goto (tgt := 335) hx hb dL_isSo_500 (by decide) ?_
                                                      exact ih3 (k3 + 1) (gg + 1) (by omega) (by omega) _ _ _ _ ls (by omega) (by omega) (by omega) (by exact hP) (by exact hD) hS (lv_sub hl [0, 1, 4, 5, 6, 7, 8, 9, 10, 11, 2, 12, 13, 14, 15, 16, 17, 18, 19] rfl)
                                                · refine b_csi (v := 0) ((vx_runSW (hh := [(0, 83, 84, 34), (0, 83, 89, 37)]) (As := [.ref (a 0), .int (5), .int (nI (k1)), .int (nI (k3)), .int (0), .int (0)]) (rest := []) ⟨hx, hb, hml, hown, hts⟩ (c_L_calls_ne ll D a cI cJ am nx nw k1 k3 (by omega) (by omega) q_49) (vx_cwSW (hh := [(0, 83, 84, 34), (0, 83, 89, 37)]) 6 hts gL_isSo_L_calls rfl rfl rfl (by decide +kernel) ⟨Nat.le_of_ble_eq_true rfl, Nat.le_of_ble_eq_true rfl⟩) ⟨PR.blind, PR.go hP hK hE⟩ rfl rfl hl.1 rfl (lv_room (Nat.le_of_ble_eq_true rfl)) dL_isSo_451 ⟨(by show cl3 + 0 ≤ 6; omega), (by show sl3 + 0 ≤ 36; omega)⟩).run) ?_
                                                  refine lv_iload hx hb dL_isSo_454 (lv_at hl 11 rfl) ?_
                                                  refine lv_iload hx hb dL_isSo_456 (lv_at hl 2 rfl) ?_
                                                  refine lv_icmp_ne (tgt := 466) hx hb dL_isSo_458 (by decide) (fun c_52 => ?_) (fun c_52 => ?_)
                                                  · have n_52 : ¬ ((k1) = (k3)) := fun h => c_52 ((nI_eq (a := k1) (b := k3) (by omega) (by omega)).mpr h)
                                                    refine lv_aload_n hx hb dL_isSo_466 rfl (lv_at hl 15 rfl) ?_
                                                    refine lv_bipush (v := 6) hx hb dL_isSo_467 (by decide) ?_
                                                    refine lv_iload hx hb dL_isSo_469 (lv_at hl 11 rfl) ?_
                                                    refine lv_imul hx hb dL_isSo_471 ?_
                                                    refine b_ti (pk_mul (6) (k1)) ?_
                                                    refine lv_iload hx hb dL_isSo_472 (lv_at hl 2 rfl) ?_
                                                    refine lv_iadd hx hb dL_isSo_474 ?_
                                                    refine b_ti (nI_add ((6) * (k1)) (k3)) ?_
                                                    refine b_iald hx hb hK hP 22 0 (f := z32) rfl rfl (j := ((6) * (k1)) + (k3)) (by omega) (by decide) dL_isSo_475 ?_
                                                    refine b_ti (y := 0) rfl ?_
                                                    refine lv_aload_n hx hb dL_isSo_476 rfl (lv_at hl 16 rfl) ?_
                                                    refine lv_bipush (v := 6) hx hb dL_isSo_477 (by decide) ?_
                                                    refine lv_iload hx hb dL_isSo_479 (lv_at hl 11 rfl) ?_
                                                    refine lv_imul hx hb dL_isSo_481 ?_
                                                    refine b_ti (pk_mul (6) (k1)) ?_
                                                    refine lv_iload hx hb dL_isSo_482 (lv_at hl 2 rfl) ?_
                                                    refine lv_iadd hx hb dL_isSo_484 ?_
                                                    refine b_ti (nI_add ((6) * (k1)) (k3)) ?_
                                                    refine b_iald hx hb hK hP 23 0 (f := z32) rfl rfl (j := ((6) * (k1)) + (k3)) (by omega) (by decide) dL_isSo_485 ?_
                                                    refine b_ti (y := 0) rfl ?_
                                                    refine lv_isub hx hb dL_isSo_486 ?_
                                                    refine b_ti (y := 0) (by decide) ?_
                                                    refine lv_icmp_ne (tgt := 494) hx hb dL_isSo_487 (by decide) (fun c_53 => ?_) (fun c_53 => ?_)
                                                    · have n_53 := c_53
                                                      exact absurd c_53 (by decide)
                                                    · have n_53 := c_53
                                                      refine lv_iconst (v := 1) hx hb dL_isSo_490 (by decide) ?_
                                                      refine lv_goto (tgt := 495) hx hb dL_isSo_491 (by decide) ?_
                                                      refine lv_istore (lv' := [(12, .int (1)), (10, .int (0)), (19, .int (0)), (18, .int (nI (k3))), (11, .int (0)), (9, .int (0)), (8, .int (0)), (17, .int (0)), (16, .int (0)), (15, .int (0)), (14, .int (1)), (13, .int (nI (k1))), (7, .int (1)), (0, .ref (a 0)), (1, .ref (a 21)), (2, .ref (a 22)), (3, .ref (a 23)), (4, .ref (a 24)), (5, .ref (a 25)), (6, .ref (a 26))]) hx hb dL_isSo_495 hl (by decide) rfl (fun ls hl => ?_)
                                                      refine lv_iinc (v := nI (k3 + 1)) (lv' := [(18, .int (nI (k3 + 1))), (12, .int (1)), (10, .int (0)), (19, .int (0)), (11, .int (0)), (9, .int (0)), (8, .int (0)), (17, .int (0)), (16, .int (0)), (15, .int (0)), (14, .int (1)), (13, .int (nI (k1))), (7, .int (1)), (0, .ref (a 0)), (1, .ref (a 21)), (2, .ref (a 22)), (3, .ref (a 23)), (4, .ref (a 24)), (5, .ref (a 25)), (6, .ref (a 26))]) hx hb dL_isSo_497 hl (k := 3) rfl (nI_1 (k3)) (by decide) rfl (fun ls hl => ?_)
                                                      refine lv_goto (tgt := 335) hx hb dL_isSo_500 (by decide) ?_
                                                      exact ih3 (k3 + 1) gg (by omega) (by omega) _ _ _ _ ls (by omega) (by omega) (by omega) (by exact hP) (by exact hD) hS (lv_sub hl [0, 1, 4, 5, 6, 7, 8, 9, 10, 11, 2, 12, 13, 14, 15, 16, 17, 18, 19] rfl)
                                                  · have n_52 : (k1) = (k3) := (nI_eq (a := k1) (b := k3) (by omega) (by omega)).mp c_52
                                                    exact absurd n_52 q_49
                                            · have n_47 := c_47
                                              refine lv_iload hx hb dL_isSo_413 (lv_at hl 0 rfl) ?_
                                              refine lv_goto (tgt := 419) hx hb dL_isSo_415 (by decide) ?_
                                              refine lv_iadd hx hb dL_isSo_419 ?_
                                              refine b_ti (y := 0) (by decide) ?_
                                              refine lv_istore (lv' := [(10, .int (0)), (19, .int (0)), (18, .int (nI (k3))), (12, .int (1)), (11, .int (0)), (9, .int (0)), (8, .int (0)), (17, .int (0)), (16, .int (0)), (15, .int (0)), (14, .int (1)), (13, .int (nI (k1))), (7, .int (1)), (0, .ref (a 0)), (1, .ref (a 21)), (2, .ref (a 22)), (3, .ref (a 23)), (4, .ref (a 24)), (5, .ref (a 25)), (6, .ref (a 26))]) hx hb dL_isSo_420 hl (by decide) rfl (fun ls hl => ?_)
                                              refine lv_aload_n hx hb dL_isSo_422 rfl (lv_at hl 13 rfl) ?_
                                              refine lv_iload hx hb dL_isSo_423 (lv_at hl 11 rfl) ?_
                                              refine lv_iload hx hb dL_isSo_425 (lv_at hl 2 rfl) ?_
                                              refine b_csi (v := z32 (6 * k1 + k3)) (W.runV (As := [.int (nI (k1)), .int (nI (k3))]) (rest := []) ⟨hx, hb, hml, hown, hts⟩ (c_X3_held ll D a cI cJ z32 (nuI 6) (dnmI 6) z64 am nx z32 z32 z32 z32 (rtI 6) (rtI 6) (rtI 6) z32 z32 z32 z32 0 k1 k3 (by omega) (by omega)) (cwV 2 hts gL_isSo_X3_held rfl rfl rfl (by decide +kernel) ⟨Nat.le_of_ble_eq_true rfl, Nat.le_of_ble_eq_true rfl⟩) ⟨PR.blind, va_recv hK hP (ci := 3) (q0 := 0) rfl rfl, PR.goP (wr := (LR a cI nw)) hP hK hE⟩ rfl rfl hl.1 rfl (lv_room (Nat.le_of_ble_eq_true rfl)) dL_isSo_427 ⟨(by show cl3 + 0 ≤ 6; omega), (by show sl3 + 0 ≤ 36; omega)⟩) ?_
                                              refine b_ti (y := 0) rfl ?_
                                              refine lv_aload_n hx hb dL_isSo_430 rfl (lv_at hl 14 rfl) ?_
                                              refine lv_bipush (v := 6) hx hb dL_isSo_431 (by decide) ?_
                                              refine lv_iload hx hb dL_isSo_433 (lv_at hl 11 rfl) ?_
                                              refine lv_imul hx hb dL_isSo_435 ?_
                                              refine b_ti (pk_mul (6) (k1)) ?_
                                              refine lv_iload hx hb dL_isSo_436 (lv_at hl 2 rfl) ?_
                                              refine lv_iadd hx hb dL_isSo_438 ?_
                                              refine b_ti (nI_add ((6) * (k1)) (k3)) ?_
                                              refine b_iald hx hb hK hP 21 0 (f := z32) rfl rfl (j := ((6) * (k1)) + (k3)) (by omega) (by decide) dL_isSo_439 ?_
                                              refine b_ti (y := 0) rfl ?_
                                              refine lv_icmp_ne (tgt := 494) hx hb dL_isSo_440 (by decide) (fun c_54 => ?_) (fun c_54 => ?_)
                                              · have n_54 := c_54
                                                exact absurd c_54 (by decide)
                                              · have n_54 := c_54
                                                refine lv_aload_n hx hb dL_isSo_443 rfl (lv_at hl 13 rfl) ?_
                                                refine lv_iconst (v := 5) hx hb dL_isSo_444 (by decide) ?_
                                                refine lv_iload hx hb dL_isSo_445 (lv_at hl 11 rfl) ?_
                                                refine lv_iload hx hb dL_isSo_447 (lv_at hl 2 rfl) ?_
                                                refine lv_iconst (v := 0) hx hb dL_isSo_449 (by decide) ?_
                                                refine lv_iconst (v := 0) hx hb dL_isSo_450 (by decide) ?_
                                                by_cases q_55 : (k1) = (k3)
                                                · refine b_calliG (S := Unit) (g := 1) (w' := fun _ => KW a cI cJ am nx nw) hP hD hS hA (vx_runSW (hh := [(0, 83, 84, 34), (0, 83, 89, 37)]) (As := [.ref (a 0), .int (5), .int (nI (k1)), .int (nI (k3)), .int (0), .int (0)]) (rest := []) ⟨hx, hb, hml, hown, hts⟩ (c_L_calls_eq ll hst D a cI cJ _ am nx nw k1 k3 (by omega) (by omega) q_55) (vx_cwSW (hh := [(0, 83, 84, 34), (0, 83, 89, 37)]) 6 hts gL_isSo_L_calls rfl rfl rfl (by decide +kernel) ⟨Nat.le_of_ble_eq_true rfl, Nat.le_of_ble_eq_true rfl⟩) ⟨PY.blind, PY.goS hP hK hD hE hV hDC hS hA⟩ rfl rfl hl.1 rfl (lv_room (Nat.le_of_ble_eq_true rfl)) dL_isSo_451 ⟨(by show cl3 + 1 ≤ 6; omega), (by show sl3 + 6 ≤ 36; omega)⟩) (fun r9 u9 H locs hr9 hgN hP hD hS => ?_)
                                                  obtain rfl : r9 = (-2000002) := hr9
                                                  refine lv_iload hx hb dL_isSo_454 (lv_at hl 11 rfl) ?_
                                                  refine lv_iload hx hb dL_isSo_456 (lv_at hl 2 rfl) ?_
                                                  refine lv_icmp_ne (tgt := 466) hx hb dL_isSo_458 (by decide) (fun c_56 => ?_) (fun c_56 => ?_)
                                                  · have n_56 : ¬ ((k1) = (k3)) := fun h => c_56 ((nI_eq (a := k1) (b := k3) (by omega) (by omega)).mpr h)
                                                    exact absurd q_55 n_56
                                                  · have n_56 : (k1) = (k3) := (nI_eq (a := k1) (b := k3) (by omega) (by omega)).mp c_56
                                                    refine lv_ldc (v := -2000002) hx hb hown (hts (.constant RL 36 (-2000002)) (by decide +kernel)) dL_isSo_461 ?_
                                                    refine lv_goto (tgt := 487) hx hb dL_isSo_463 (by decide) ?_
                                                    refine lv_icmp_ne (tgt := 494) hx hb dL_isSo_487 (by decide) (fun c_57 => ?_) (fun c_57 => ?_)
                                                    · have n_57 := c_57
                                                      exact absurd c_57 (by decide)
                                                    · have n_57 := c_57
                                                      refine lv_iconst (v := 1) hx hb dL_isSo_490 (by decide) ?_
                                                      refine lv_goto (tgt := 495) hx hb dL_isSo_491 (by decide) ?_
                                                      refine lv_istore (lv' := [(12, .int (1)), (10, .int (0)), (19, .int (0)), (18, .int (nI (k3))), (11, .int (0)), (9, .int (0)), (8, .int (0)), (17, .int (0)), (16, .int (0)), (15, .int (0)), (14, .int (1)), (13, .int (nI (k1))), (7, .int (1)), (0, .ref (a 0)), (1, .ref (a 21)), (2, .ref (a 22)), (3, .ref (a 23)), (4, .ref (a 24)), (5, .ref (a 25)), (6, .ref (a 26))]) hx hb dL_isSo_495 hl (by decide) rfl (fun ls hl => ?_)
                                                      refine lv_iinc (v := nI (k3 + 1)) (lv' := [(18, .int (nI (k3 + 1))), (12, .int (1)), (10, .int (0)), (19, .int (0)), (11, .int (0)), (9, .int (0)), (8, .int (0)), (17, .int (0)), (16, .int (0)), (15, .int (0)), (14, .int (1)), (13, .int (nI (k1))), (7, .int (1)), (0, .ref (a 0)), (1, .ref (a 21)), (2, .ref (a 22)), (3, .ref (a 23)), (4, .ref (a 24)), (5, .ref (a 25)), (6, .ref (a 26))]) hx hb dL_isSo_497 hl (k := 3) rfl (nI_1 (k3)) (by decide) rfl (fun ls hl => ?_)
                                                      refine lv_goto (tgt := 335) hx hb dL_isSo_500 (by decide) ?_
                                                      exact ih3 (k3 + 1) (gg + 1) (by omega) (by omega) _ _ _ _ ls (by omega) (by omega) (by omega) (by exact hP) (by exact hD) hS (lv_sub hl [0, 1, 4, 5, 6, 7, 8, 9, 10, 11, 2, 12, 13, 14, 15, 16, 17, 18, 19] rfl)
                                                · refine b_csi (v := 0) ((vx_runSW (hh := [(0, 83, 84, 34), (0, 83, 89, 37)]) (As := [.ref (a 0), .int (5), .int (nI (k1)), .int (nI (k3)), .int (0), .int (0)]) (rest := []) ⟨hx, hb, hml, hown, hts⟩ (c_L_calls_ne ll D a cI cJ am nx nw k1 k3 (by omega) (by omega) q_55) (vx_cwSW (hh := [(0, 83, 84, 34), (0, 83, 89, 37)]) 6 hts gL_isSo_L_calls rfl rfl rfl (by decide +kernel) ⟨Nat.le_of_ble_eq_true rfl, Nat.le_of_ble_eq_true rfl⟩) ⟨PR.blind, PR.go hP hK hE⟩ rfl rfl hl.1 rfl (lv_room (Nat.le_of_ble_eq_true rfl)) dL_isSo_451 ⟨(by show cl3 + 0 ≤ 6; omega), (by show sl3 + 0 ≤ 36; omega)⟩).run) ?_
                                                  refine lv_iload hx hb dL_isSo_454 (lv_at hl 11 rfl) ?_
                                                  refine lv_iload hx hb dL_isSo_456 (lv_at hl 2 rfl) ?_
                                                  refine lv_icmp_ne (tgt := 466) hx hb dL_isSo_458 (by decide) (fun c_58 => ?_) (fun c_58 => ?_)
                                                  · have n_58 : ¬ ((k1) = (k3)) := fun h => c_58 ((nI_eq (a := k1) (b := k3) (by omega) (by omega)).mpr h)
                                                    refine lv_aload_n hx hb dL_isSo_466 rfl (lv_at hl 15 rfl) ?_
                                                    refine lv_bipush (v := 6) hx hb dL_isSo_467 (by decide) ?_
                                                    refine lv_iload hx hb dL_isSo_469 (lv_at hl 11 rfl) ?_
                                                    refine lv_imul hx hb dL_isSo_471 ?_
                                                    refine b_ti (pk_mul (6) (k1)) ?_
                                                    refine lv_iload hx hb dL_isSo_472 (lv_at hl 2 rfl) ?_
                                                    refine lv_iadd hx hb dL_isSo_474 ?_
                                                    refine b_ti (nI_add ((6) * (k1)) (k3)) ?_
                                                    refine b_iald hx hb hK hP 22 0 (f := z32) rfl rfl (j := ((6) * (k1)) + (k3)) (by omega) (by decide) dL_isSo_475 ?_
                                                    refine b_ti (y := 0) rfl ?_
                                                    refine lv_aload_n hx hb dL_isSo_476 rfl (lv_at hl 16 rfl) ?_
                                                    refine lv_bipush (v := 6) hx hb dL_isSo_477 (by decide) ?_
                                                    refine lv_iload hx hb dL_isSo_479 (lv_at hl 11 rfl) ?_
                                                    refine lv_imul hx hb dL_isSo_481 ?_
                                                    refine b_ti (pk_mul (6) (k1)) ?_
                                                    refine lv_iload hx hb dL_isSo_482 (lv_at hl 2 rfl) ?_
                                                    refine lv_iadd hx hb dL_isSo_484 ?_
                                                    refine b_ti (nI_add ((6) * (k1)) (k3)) ?_
                                                    refine b_iald hx hb hK hP 23 0 (f := z32) rfl rfl (j := ((6) * (k1)) + (k3)) (by omega) (by decide) dL_isSo_485 ?_
                                                    refine b_ti (y := 0) rfl ?_
                                                    refine lv_isub hx hb dL_isSo_486 ?_
                                                    refine b_ti (y := 0) (by decide) ?_
                                                    refine lv_icmp_ne (tgt := 494) hx hb dL_isSo_487 (by decide) (fun c_59 => ?_) (fun c_59 => ?_)
                                                    · have n_59 := c_59
                                                      exact absurd c_59 (by decide)
                                                    · have n_59 := c_59
                                                      refine lv_iconst (v := 1) hx hb dL_isSo_490 (by decide) ?_
                                                      refine lv_goto (tgt := 495) hx hb dL_isSo_491 (by decide) ?_
                                                      refine lv_istore (lv' := [(12, .int (1)), (10, .int (0)), (19, .int (0)), (18, .int (nI (k3))), (11, .int (0)), (9, .int (0)), (8, .int (0)), (17, .int (0)), (16, .int (0)), (15, .int (0)), (14, .int (1)), (13, .int (nI (k1))), (7, .int (1)), (0, .ref (a 0)), (1, .ref (a 21)), (2, .ref (a 22)), (3, .ref (a 23)), (4, .ref (a 24)), (5, .ref (a 25)), (6, .ref (a 26))]) hx hb dL_isSo_495 hl (by decide) rfl (fun ls hl => ?_)
                                                      refine lv_iinc (v := nI (k3 + 1)) (lv' := [(18, .int (nI (k3 + 1))), (12, .int (1)), (10, .int (0)), (19, .int (0)), (11, .int (0)), (9, .int (0)), (8, .int (0)), (17, .int (0)), (16, .int (0)), (15, .int (0)), (14, .int (1)), (13, .int (nI (k1))), (7, .int (1)), (0, .ref (a 0)), (1, .ref (a 21)), (2, .ref (a 22)), (3, .ref (a 23)), (4, .ref (a 24)), (5, .ref (a 25)), (6, .ref (a 26))]) hx hb dL_isSo_497 hl (k := 3) rfl (nI_1 (k3)) (by decide) rfl (fun ls hl => ?_)
                                                      refine lv_goto (tgt := 335) hx hb dL_isSo_500 (by decide) ?_
                                                      exact ih3 (k3 + 1) gg (by omega) (by omega) _ _ _ _ ls (by omega) (by omega) (by omega) (by exact hP) (by exact hD) hS (lv_sub hl [0, 1, 4, 5, 6, 7, 8, 9, 10, 11, 2, 12, 13, 14, 15, 16, 17, 18, 19] rfl)
                                                  · have n_58 : (k1) = (k3) := (nI_eq (a := k1) (b := k3) (by omega) (by omega)).mp c_58
                                                    exact absurd n_58 q_55
                                        · have n_45 := c_45
                                          exact absurd c_45 (by decide)
                                exact L3 (6) 0 0 (by omega) (by omega) _ _ _ _ ls (by omega) (by omega) (by omega) (by exact hP) (by exact hD) hS (lv_sub hl [0, 1, 2, 3, 4, 5, 6, 7, 8, 9, 10, 11, 12, 13, 14, 15, 16, 17, 18] rfl)
    exact L1 (6) 0 (by omega) _ _ _ _ ls (by omega) (by omega) (by omega) (by exact hP) (by exact hD) hS (lv_sub hl [0, 1, 2, 3, 4, 5, 6, 7, 8, 9, 10, 11, 12, 13] rfl)
