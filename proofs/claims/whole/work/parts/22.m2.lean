abbrev rmX4_determinant : Room := ({ frames := 1, cells := 0, slots := 0, locals := 25 } : Room)
set_option maxHeartbeats 4000000 in
set_option maxRecDepth 100000 in
theorem c_X4_determinant (ll : Launch) (D : va_G) (a : Nat → Nat) (cI cJ : ClassId) (sz : Nat) (he cm ad gw as de eq re co av hi ke : Nat → Int32) (sq ab be : Nat → Int64) (nw tn : Nat → Int32) (th cd : Int32)   : Met ll yX4_determinant wsX4_determinant rmX4_determinant (va_Pc [.ref (a 0)] (PW D (tyG cI cJ) (MW a cI cJ he cm ad gw as de eq re co av hi ke sq ab be nw tn th cd) sz)) (va_Ql (fun (rr : Int64) (u : Nat → Int64) => rr = dtG 4 0 sq 1 1) (fun (u : Nat → Int64) t => AW D (tyG cI cJ) (va_A (MW a cI cJ he cm ad gw as de eq re co av hi ke sq ab be nw tn th cd) sz) (MW a cI cJ he cm ad gw as de eq re co av hi ke u ab be nw tn th cd) t) (va_A (MW a cI cJ he cm ad gw as de eq re co av hi ke sq ab be nw tn th cd) sz)) 0 0 (va_A (MW a cI cJ he cm ad gw as de eq re co av hi ke sq ab be nw tn th cd) sz) := by
  refine Met.ofW (cc := cX4_determinant) (maxL := 9) (ret := (some .long)) (by decide) rfl ?_
  intro pp ee ss mm ar bel mth cde s₁ B hml hv
  obtain ⟨rfl, hsz, hP, hK, hD0, hE⟩ := hv
  have hx := B.exec
  have hb := B.bytes
  have hr := B.returns
  have hts := atoms_spec (ws := wsX4_determinant) B.pre
  have hown : ss.vm.findClass RX4 = some mm.cls := findClass_of_methodNamed B.named
  have hlocks := B.notSynchronized
  subst hsz
  have hD := hD0.self (sz := ss.heap.size)
  generalize hAe : va_A (MW a cI cJ he cm ad gw as de eq re co av hi ke sq ab be nw tn th cd) ss.heap.size = A at hD ⊢
  have hA : ∀ q : Nat, ss.heap.size ≤ q → A q := fun q h => by rw [← hAe]; exact Or.inr h
  have hS : va_S A ss.heap ss.heap [] := va_S.rf
  have hin : ∀ w ∈ wsX40, w.before ([.ref (a 0)] : List Value).toArray ss = true := fun w h => hts w ((by decide +kernel : ∀ w ∈ wsX40, w ∈ wsX4_determinant) w h)
  have hl := lv_entry [.ref (a 0)] (n := 9) (Nat.le_of_ble_eq_true rfl)
  rw [lg_entry_eq]
  generalize (lg_sl [.ref (a 0)] ++ List.replicate (9 - (lg_sl [.ref (a 0)]).length) Slot.unset).toArray = ls at hl ⊢
  have hl : lv_has ls 9 [(0, .ref (a 0))] := hl
  generalize hZ : MQ bel _ _ ss _ _ _ = Z
  refine lv_lconst (v := 1) hx hb dX4_determinant_0 (by decide) ?_
  refine lv_lstore_n (lv' := [(1, .long (1)), (0, .ref (a 0))]) hx hb dX4_determinant_1 rfl hl (by decide) rfl (fun ls hl => ?_)
  refine lv_lconst (v := 1) hx hb dX4_determinant_2 (by decide) ?_
  refine lv_lstore_n (lv' := [(3, .long (1)), (1, .long (1)), (0, .ref (a 0))]) hx hb dX4_determinant_3 rfl hl (by decide) rfl (fun ls hl => ?_)
  refine lv_iconst (v := 0) hx hb dX4_determinant_4 (by decide) ?_
  refine lv_istore (lv' := [(5, .int (0)), (3, .long (1)), (1, .long (1)), (0, .ref (a 0))]) hx hb dX4_determinant_5 hl (by decide) rfl (fun ls hl => ?_)
  have L1 : ∀ (n1 k1 : Nat) (sg1 : Int64) (bf1 : Int64) (s1 : Nat → Int64), k1 + n1 = 4 → ¬ bf1 = 0 → dtG n1 k1 s1 sg1 bf1 = dtG 4 0 sq 1 1 → ∀ (H : Heap) (locs : List Loc) (ls : Array Slot), va_P D vwCl (MW a cI cJ he cm ad gw as de eq re co av hi ke s1 ab be nw tn th cd) H → va_D A (MW a cI cJ he cm ad gw as de eq re co av hi ke s1 ab be nw tn th cd) → va_S A ss.heap H locs → lv_has ls 9 [(5, .int (nI (k1))), (3, .long (bf1)), (1, .long (sg1)), (0, .ref (a 0))] → W pp ll ee rmX4_determinant ss mm (([.ref (a 0)] : List Value).toArray) bel mth cde H locs 0 0 Z (F0 mm 7 ls []) := by
    intro n1
    induction n1 with
    | zero =>
      intro k1 sg1 bf1 s1 hk1 hy1_0 hy1_1 H locs ls hP hD hS hl
      have hk1b : 4 = k1 := by omega
      refine lv_iload hx hb dX4_determinant_7 (lv_at hl 0 rfl) ?_
      refine lv_iconst (v := 4) hx hb dX4_determinant_9 (by decide) ?_
      refine lv_icmp_ge (tgt := 188) hx hb dX4_determinant_10 (by decide) (fun c_1 => ?_) (fun c_1 => ?_)
      · have n_1 : (4) ≤ (k1) := (nI_leI (a := 4) (b := k1) (by omega) (by omega)).mp c_1
        refine lv_lload_n hx hb dX4_determinant_188 rfl (lv_at hl 2 rfl) ?_
        refine lv_aload_n hx hb dX4_determinant_189 rfl (lv_at hl 3 rfl) ?_
        refine va_get (D := D) (ci := 4) (v := .ref (a 13)) (C := RX4) (T := TX4) (N := 19) (Ts := wsX40) hx hb hin (fun _ h9 => h9) hown hK hP 0 rfl rfl 14 (by decide) (hts (.fieldLink RX4 46 "GroupbooksModel" "square" "[J") (by decide +kernel)) (fun _ h9 => h9) rfl dX4_determinant_190 ?_
        refine lv_bipush (v := 24) hx hb dX4_determinant_193 (by decide) ?_
        refine b_lald hx hb hK hP 13 1 (f := s1) rfl rfl (j := 24) (by omega) (by decide) dX4_determinant_195 ?_
        refine lv_lmul hx hb dX4_determinant_196 ?_
        subst hZ
        refine W.lret hx hb hr (fun t ht hW => ?_) hS.2.2 dX4_determinant_197
        refine ⟨⟨_, (s1), rfl, ?_, ?_, va_K.moved hW.alike hK, ?_⟩, hS.F ht⟩
        · try dsimp only
          exact hy1_1
        · rw [ht]
          try dsimp only
          exact hP
        · try dsimp only
          exact hD
      · have n_1 : ¬ ((4) ≤ (k1)) := fun h => c_1 ((nI_leI (a := 4) (b := k1) (by omega) (by omega)).mpr h)
        exfalso; omega
    | succ n1 ih1 =>
      intro k1 sg1 bf1 s1 hk1 hy1_0 hy1_1 H locs ls hP hD hS hl
      have hk1b : k1 < 4 := by omega
      refine lv_iload hx hb dX4_determinant_7 (lv_at hl 0 rfl) ?_
      refine lv_iconst (v := 4) hx hb dX4_determinant_9 (by decide) ?_
      refine lv_icmp_ge (tgt := 188) hx hb dX4_determinant_10 (by decide) (fun c_2 => ?_) (fun c_2 => ?_)
      · have n_2 : (4) ≤ (k1) := (nI_leI (a := 4) (b := k1) (by omega) (by omega)).mp c_2
        exfalso; omega
      · have n_2 : ¬ ((4) ≤ (k1)) := fun h => c_2 ((nI_leI (a := 4) (b := k1) (by omega) (by omega)).mpr h)
        refine lv_iload hx hb dX4_determinant_13 (lv_at hl 0 rfl) ?_
        refine lv_istore (lv' := [(6, .int (nI (k1))), (5, .int (nI (k1))), (3, .long (bf1)), (1, .long (sg1)), (0, .ref (a 0))]) hx hb dX4_determinant_15 hl (by decide) rfl (fun ls hl => ?_)
        have L2 : ∀ (n2 j2 : Nat), j2 + n2 = 5 - k1 → frF s1 k1 n2 (k1 + j2) = frF s1 k1 (5 - k1) k1 → ∀ (H : Heap) (locs : List Loc) (ls : Array Slot), va_P D vwCl (MW a cI cJ he cm ad gw as de eq re co av hi ke s1 ab be nw tn th cd) H → va_D A (MW a cI cJ he cm ad gw as de eq re co av hi ke s1 ab be nw tn th cd) → va_S A ss.heap H locs → lv_has ls 9 [(6, .int (nI (k1 + j2))), (5, .int (nI (k1))), (3, .long (bf1)), (1, .long (sg1)), (0, .ref (a 0))] → W pp ll ee rmX4_determinant ss mm (([.ref (a 0)] : List Value).toArray) bel mth cde H locs 0 0 Z (F0 mm 17 ls []) := by
          intro n2
          induction n2 with
          | zero =>
            intro j2 hk2 hy2_0 H locs ls hP hD hS hl
            have hk2b : 5 - k1 = j2 := by omega
            refine lv_iload hx hb dX4_determinant_17 (lv_at hl 0 rfl) ?_
            refine lv_iconst (v := 5) hx hb dX4_determinant_19 (by decide) ?_
            refine lv_icmp_ge (tgt := 46) hx hb dX4_determinant_20 (by decide) (fun c_3 => ?_) (fun c_3 => ?_)
            · have n_3 : (5) ≤ (k1 + j2) := (nI_leI (a := 5) (b := k1 + j2) (by omega) (by omega)).mp c_3
              refine lv_iload hx hb dX4_determinant_46 (lv_at hl 0 rfl) ?_
              refine lv_iconst (v := 5) hx hb dX4_determinant_48 (by decide) ?_
              refine lv_icmp_ne (tgt := 54) hx hb dX4_determinant_49 (by decide) (fun c_4 => ?_) (fun c_4 => ?_)
              · have n_4 : ¬ ((k1 + j2) = (5)) := fun h => c_4 ((nI_eq (a := k1 + j2) (b := 5) (by omega) (by omega)).mpr h)
                exfalso; omega
              · have n_4 : (k1 + j2) = (5) := (nI_eq (a := k1 + j2) (b := 5) (by omega) (by omega)).mp c_4
                refine lv_lconst (v := 0) hx hb dX4_determinant_52 (by decide) ?_
                subst hZ
                refine W.lret hx hb hr (fun t ht hW => ?_) hS.2.2 dX4_determinant_53
                refine ⟨⟨_, (s1), rfl, ?_, ?_, va_K.moved hW.alike hK, ?_⟩, hS.F ht⟩
                · try dsimp only
                  exact (by have h9 := (dtG_s _ _ _ _ _).symm.trans hy1_1; rw [if_pos (hy2_0.symm.trans (show k1 + j2 = 5 by omega))] at h9; exact h9)
                · rw [ht]
                  try dsimp only
                  exact hP
                · try dsimp only
                  exact hD
            · have n_3 : ¬ ((5) ≤ (k1 + j2)) := fun h => c_3 ((nI_leI (a := 5) (b := k1 + j2) (by omega) (by omega)).mpr h)
              exfalso; omega
          | succ n2 ih2 =>
            intro j2 hk2 hy2_0 H locs ls hP hD hS hl
            have hk2b : j2 < 5 - k1 := by omega
            refine lv_iload hx hb dX4_determinant_17 (lv_at hl 0 rfl) ?_
            refine lv_iconst (v := 5) hx hb dX4_determinant_19 (by decide) ?_
            refine lv_icmp_ge (tgt := 46) hx hb dX4_determinant_20 (by decide) (fun c_5 => ?_) (fun c_5 => ?_)
            · have n_5 : (5) ≤ (k1 + j2) := (nI_leI (a := 5) (b := k1 + j2) (by omega) (by omega)).mp c_5
              exfalso; omega
            · have n_5 : ¬ ((5) ≤ (k1 + j2)) := fun h => c_5 ((nI_leI (a := 5) (b := k1 + j2) (by omega) (by omega)).mpr h)
              refine lv_aload_n hx hb dX4_determinant_23 rfl (lv_at hl 4 rfl) ?_
              refine va_get (D := D) (ci := 4) (v := .ref (a 13)) (C := RX4) (T := TX4) (N := 19) (Ts := wsX40) hx hb hin (fun _ h9 => h9) hown hK hP 0 rfl rfl 14 (by decide) (hts (.fieldLink RX4 46 "GroupbooksModel" "square" "[J") (by decide +kernel)) (fun _ h9 => h9) rfl dX4_determinant_24 ?_
              refine lv_iconst (v := 5) hx hb dX4_determinant_27 (by decide) ?_
              refine lv_iload hx hb dX4_determinant_28 (lv_at hl 0 rfl) ?_
              refine lv_imul hx hb dX4_determinant_30 ?_
              refine b_ti (pk_mul (5) (k1 + j2)) ?_
              refine lv_iload hx hb dX4_determinant_31 (lv_at hl 1 rfl) ?_
              refine lv_iadd hx hb dX4_determinant_33 ?_
              refine b_ti (nI_add ((5) * (k1 + j2)) (k1)) ?_
              refine b_lald hx hb hK hP 13 1 (f := s1) rfl rfl (j := ((5) * (k1 + j2)) + (k1)) (by omega) (by decide) dX4_determinant_34 ?_
              refine lv_lconst (v := 0) hx hb dX4_determinant_35 (by decide) ?_
              refine W.lcmp hx hb dX4_determinant_36 ?_
              refine lv_if_ne (tgt := 46) hx hb dX4_determinant_37 (by decide) (fun c_6 => ?_) (fun c_6 => ?_)
              · have n_6 : ¬ (s1 (((5) * (k1 + j2)) + (k1)) = 0) := fun h => c_6 ((lg_cmp_eq _ _).mpr h)
                have hfr : frF s1 k1 (5 - k1) k1 = k1 + j2 := by rw [← hy2_0, frF_s, if_neg n_6]
                have hnz := n_6
                refine lv_iload hx hb dX4_determinant_46 (lv_at hl 0 rfl) ?_
                refine lv_iconst (v := 5) hx hb dX4_determinant_48 (by decide) ?_
                refine lv_icmp_ne (tgt := 54) hx hb dX4_determinant_49 (by decide) (fun c_7 => ?_) (fun c_7 => ?_)
                · have n_7 : ¬ ((k1 + j2) = (5)) := fun h => c_7 ((nI_eq (a := k1 + j2) (b := 5) (by omega) (by omega)).mpr h)
                  have C8 : ∀ (H : Heap) (locs : List Loc) (ls : Array Slot), va_P D vwCl (MW a cI cJ he cm ad gw as de eq re co av hi ke (swp s1 k1 (k1 + j2)) ab be nw tn th cd) H → va_D A (MW a cI cJ he cm ad gw as de eq re co av hi ke (swp s1 k1 (k1 + j2)) ab be nw tn th cd) → va_S A ss.heap H locs → lv_has ls 9 [(6, .int (nI (k1 + j2))), (5, .int (nI (k1))), (3, .long (bf1)), (1, .long (if k1 + j2 = k1 then sg1 else -sg1)), (0, .ref (a 0))] → W pp ll ee rmX4_determinant ss mm (([.ref (a 0)] : List Value).toArray) bel mth cde H locs 0 0 Z (F0 mm 72 ls []) := by
                    intro H locs ls hP hD hS hl
                    refine lv_iload hx hb dX4_determinant_72 (lv_at hl 1 rfl) ?_
                    refine lv_iconst (v := 1) hx hb dX4_determinant_74 (by decide) ?_
                    refine lv_iadd hx hb dX4_determinant_75 ?_
                    refine b_ti (nI_add (k1) (1)) ?_
                    refine lv_istore (lv' := [(7, .int (nI ((k1) + (1)))), (6, .int (nI (k1 + j2))), (5, .int (nI (k1))), (3, .long (bf1)), (1, .long (if k1 + j2 = k1 then sg1 else -sg1)), (0, .ref (a 0))]) hx hb dX4_determinant_76 hl (by decide) rfl (fun ls hl => ?_)
                    have L3 : ∀ (n3 t3 : Nat), t3 + n3 = 5 - (k1 + 1) → ∀ (H : Heap) (locs : List Loc) (ls : Array Slot), va_P D vwCl (MW a cI cJ he cm ad gw as de eq re co av hi ke (deI (swp s1 k1 (k1 + j2)) k1 bf1 (t3)) ab be nw tn th cd) H → va_D A (MW a cI cJ he cm ad gw as de eq re co av hi ke (deI (swp s1 k1 (k1 + j2)) k1 bf1 (t3)) ab be nw tn th cd) → va_S A ss.heap H locs → lv_has ls 9 [(7, .int (nI (k1 + 1 + t3))), (6, .int (nI (k1 + j2))), (5, .int (nI (k1))), (3, .long (bf1)), (1, .long (if k1 + j2 = k1 then sg1 else -sg1)), (0, .ref (a 0))] → W pp ll ee rmX4_determinant ss mm (([.ref (a 0)] : List Value).toArray) bel mth cde H locs 0 0 Z (F0 mm 78 ls []) := by
                      intro n3
                      induction n3 with
                      | zero =>
                        intro t3 hk3  H locs ls hP hD hS hl
                        have hk3b : 5 - (k1 + 1) = t3 := by omega
                        subst hk3b
                        refine lv_iload hx hb dX4_determinant_78 (lv_at hl 0 rfl) ?_
                        refine lv_iconst (v := 5) hx hb dX4_determinant_80 (by decide) ?_
                        refine lv_icmp_ge (tgt := 171) hx hb dX4_determinant_81 (by decide) (fun c_9 => ?_) (fun c_9 => ?_)
                        · have n_9 : (5) ≤ (k1 + 1 + (5 - (k1 + 1))) := (nI_leI (a := 5) (b := k1 + 1 + (5 - (k1 + 1))) (by omega) (by omega)).mp c_9
                          refine lv_aload_n hx hb dX4_determinant_171 rfl (lv_at hl 5 rfl) ?_
                          refine va_get (D := D) (ci := 4) (v := .ref (a 13)) (C := RX4) (T := TX4) (N := 19) (Ts := wsX40) hx hb hin (fun _ h9 => h9) hown hK hP 0 rfl rfl 14 (by decide) (hts (.fieldLink RX4 46 "GroupbooksModel" "square" "[J") (by decide +kernel)) (fun _ h9 => h9) rfl dX4_determinant_172 ?_
                          refine lv_bipush (v := 6) hx hb dX4_determinant_175 (by decide) ?_
                          refine lv_iload hx hb dX4_determinant_177 (lv_at hl 2 rfl) ?_
                          refine lv_imul hx hb dX4_determinant_179 ?_
                          refine b_ti (pk_mul (6) (k1)) ?_
                          refine b_lald hx hb hK hP 13 1 (f := (deI (swp s1 k1 (k1 + j2)) k1 bf1 ((5 - (k1 + 1))))) rfl rfl (j := (6) * (k1)) (by omega) (by decide) dX4_determinant_180 ?_
                          refine lv_lstore_n (lv' := [(3, .long ((deI (swp s1 k1 (k1 + j2)) k1 bf1 ((5 - (k1 + 1)))) ((6) * (k1)))), (7, .int (nI (k1 + 1 + (5 - (k1 + 1))))), (6, .int (nI (k1 + j2))), (5, .int (nI (k1))), (1, .long (if k1 + j2 = k1 then sg1 else -sg1)), (0, .ref (a 0))]) hx hb dX4_determinant_181 rfl hl (by decide) rfl (fun ls hl => ?_)
                          refine lv_iinc (v := nI (k1 + 1)) (lv' := [(5, .int (nI (k1 + 1))), (3, .long ((deI (swp s1 k1 (k1 + j2)) k1 bf1 ((5 - (k1 + 1)))) ((6) * (k1)))), (7, .int (nI (k1 + 1 + (5 - (k1 + 1))))), (6, .int (nI (k1 + j2))), (1, .long (if k1 + j2 = k1 then sg1 else -sg1)), (0, .ref (a 0))]) hx hb dX4_determinant_182 hl (k := 3) rfl (nI_1 (k1)) (by decide) rfl (fun ls hl => ?_)
                          refine lv_goto (tgt := 7) hx hb dX4_determinant_185 (by decide) ?_
                          exact ih1 (k1 + 1) (if k1 + j2 = k1 then sg1 else -sg1) ((deI (swp s1 k1 (k1 + j2)) k1 bf1 ((5 - (k1 + 1)))) ((6) * (k1))) (deI (swp s1 k1 (k1 + j2)) k1 bf1 ((5 - (k1 + 1)))) (by omega) (by rw [de_d _ _ hk1b (by omega)]; exact hnz) (by have h9 := (dtG_s _ _ _ _ _).symm.trans hy1_1; rw [hfr, if_neg (by omega)] at h9; exact h9) _ _ ls hP hD hS (lv_sub hl [0, 1, 4, 5] rfl)
                        · have n_9 : ¬ ((5) ≤ (k1 + 1 + (5 - (k1 + 1)))) := fun h => c_9 ((nI_leI (a := 5) (b := k1 + 1 + (5 - (k1 + 1))) (by omega) (by omega)).mpr h)
                          exfalso; omega
                      | succ n3 ih3 =>
                        intro t3 hk3  H locs ls hP hD hS hl
                        have hk3b : t3 < 5 - (k1 + 1) := by omega
                        refine lv_iload hx hb dX4_determinant_78 (lv_at hl 0 rfl) ?_
                        refine lv_iconst (v := 5) hx hb dX4_determinant_80 (by decide) ?_
                        refine lv_icmp_ge (tgt := 171) hx hb dX4_determinant_81 (by decide) (fun c_10 => ?_) (fun c_10 => ?_)
                        · have n_10 : (5) ≤ (k1 + 1 + t3) := (nI_leI (a := 5) (b := k1 + 1 + t3) (by omega) (by omega)).mp c_10
                          exfalso; omega
                        · have n_10 : ¬ ((5) ≤ (k1 + 1 + t3)) := fun h => c_10 ((nI_leI (a := 5) (b := k1 + 1 + t3) (by omega) (by omega)).mpr h)
                          refine lv_iload hx hb dX4_determinant_84 (lv_at hl 2 rfl) ?_
                          refine lv_iconst (v := 1) hx hb dX4_determinant_86 (by decide) ?_
                          refine lv_iadd hx hb dX4_determinant_87 ?_
                          refine b_ti (nI_add (k1) (1)) ?_
                          refine lv_istore (lv' := [(8, .int (nI ((k1) + (1)))), (7, .int (nI (k1 + 1 + t3))), (6, .int (nI (k1 + j2))), (5, .int (nI (k1))), (3, .long (bf1)), (1, .long (if k1 + j2 = k1 then sg1 else -sg1)), (0, .ref (a 0))]) hx hb dX4_determinant_88 hl (by decide) rfl (fun ls hl => ?_)
                          have L4 : ∀ (n4 v4 : Nat), v4 + n4 = 5 - (k1 + 1) → ∀ (H : Heap) (locs : List Loc) (ls : Array Slot), va_P D vwCl (MW a cI cJ he cm ad gw as de eq re co av hi ke (deJ (deI (swp s1 k1 (k1 + j2)) k1 bf1 t3) k1 (k1 + 1 + t3) bf1 (v4)) ab be nw tn th cd) H → va_D A (MW a cI cJ he cm ad gw as de eq re co av hi ke (deJ (deI (swp s1 k1 (k1 + j2)) k1 bf1 t3) k1 (k1 + 1 + t3) bf1 (v4)) ab be nw tn th cd) → va_S A ss.heap H locs → lv_has ls 9 [(8, .int (nI (k1 + 1 + v4))), (7, .int (nI (k1 + 1 + t3))), (6, .int (nI (k1 + j2))), (5, .int (nI (k1))), (3, .long (bf1)), (1, .long (if k1 + j2 = k1 then sg1 else -sg1)), (0, .ref (a 0))] → W pp ll ee rmX4_determinant ss mm (([.ref (a 0)] : List Value).toArray) bel mth cde H locs 0 0 Z (F0 mm 90 ls []) := by
                            intro n4
                            induction n4 with
                            | zero =>
                              intro v4 hk4  H locs ls hP hD hS hl
                              have hk4b : 5 - (k1 + 1) = v4 := by omega
                              subst hk4b
                              refine lv_iload hx hb dX4_determinant_90 (lv_at hl 0 rfl) ?_
                              refine lv_iconst (v := 5) hx hb dX4_determinant_92 (by decide) ?_
                              refine lv_icmp_ge (tgt := 165) hx hb dX4_determinant_93 (by decide) (fun c_11 => ?_) (fun c_11 => ?_)
                              · have n_11 : (5) ≤ (k1 + 1 + (5 - (k1 + 1))) := (nI_leI (a := 5) (b := k1 + 1 + (5 - (k1 + 1))) (by omega) (by omega)).mp c_11
                                refine lv_iinc (v := nI (k1 + 1 + t3 + 1)) (lv' := [(7, .int (nI (k1 + 1 + t3 + 1))), (8, .int (nI (k1 + 1 + (5 - (k1 + 1))))), (6, .int (nI (k1 + j2))), (5, .int (nI (k1))), (3, .long (bf1)), (1, .long (if k1 + j2 = k1 then sg1 else -sg1)), (0, .ref (a 0))]) hx hb dX4_determinant_165 hl (k := 1) rfl (nI_1 (k1 + 1 + t3)) (by decide) rfl (fun ls hl => ?_)
                                refine lv_goto (tgt := 78) hx hb dX4_determinant_168 (by decide) ?_
                                have e_12 : (deI (swp s1 k1 (k1 + j2)) k1 bf1 (t3 + 1)) = (deJ (deI (swp s1 k1 (k1 + j2)) k1 bf1 t3) k1 (k1 + 1 + t3) bf1 ((5 - (k1 + 1)))) := by first | rfl | exact if_pos (by assumption) | exact if_neg (by assumption) | (simp only [n_2, n_5, n_6, n_7, n_10, n_11, Bool.false_eq_true, ↓reduceIte])
                                exact ih3 (t3 + 1) (by omega) _ _ ls (by rw [e_12]; exact hP) (by rw [e_12]; exact hD) hS (lv_sub hl [0, 2, 3, 4, 5, 6] rfl)
                              · have n_11 : ¬ ((5) ≤ (k1 + 1 + (5 - (k1 + 1)))) := fun h => c_11 ((nI_leI (a := 5) (b := k1 + 1 + (5 - (k1 + 1))) (by omega) (by omega)).mpr h)
                                exfalso; omega
                            | succ n4 ih4 =>
                              intro v4 hk4  H locs ls hP hD hS hl
                              have hk4b : v4 < 5 - (k1 + 1) := by omega
                              refine lv_iload hx hb dX4_determinant_90 (lv_at hl 0 rfl) ?_
                              refine lv_iconst (v := 5) hx hb dX4_determinant_92 (by decide) ?_
                              refine lv_icmp_ge (tgt := 165) hx hb dX4_determinant_93 (by decide) (fun c_13 => ?_) (fun c_13 => ?_)
                              · have n_13 : (5) ≤ (k1 + 1 + v4) := (nI_leI (a := 5) (b := k1 + 1 + v4) (by omega) (by omega)).mp c_13
                                exfalso; omega
                              · have n_13 : ¬ ((5) ≤ (k1 + 1 + v4)) := fun h => c_13 ((nI_leI (a := 5) (b := k1 + 1 + v4) (by omega) (by omega)).mpr h)
                                refine lv_aload_n hx hb dX4_determinant_96 rfl (lv_at hl 6 rfl) ?_
                                refine va_get (D := D) (ci := 4) (v := .ref (a 13)) (C := RX4) (T := TX4) (N := 19) (Ts := wsX40) hx hb hin (fun _ h9 => h9) hown hK hP 0 rfl rfl 14 (by decide) (hts (.fieldLink RX4 46 "GroupbooksModel" "square" "[J") (by decide +kernel)) (fun _ h9 => h9) rfl dX4_determinant_97 ?_
                                refine lv_iconst (v := 5) hx hb dX4_determinant_100 (by decide) ?_
                                refine lv_iload hx hb dX4_determinant_101 (lv_at hl 1 rfl) ?_
                                refine lv_imul hx hb dX4_determinant_103 ?_
                                refine b_ti (pk_mul (5) (k1 + 1 + t3)) ?_
                                refine lv_iload hx hb dX4_determinant_104 (lv_at hl 0 rfl) ?_
                                refine lv_iadd hx hb dX4_determinant_106 ?_
                                refine b_ti (nI_add ((5) * (k1 + 1 + t3)) (k1 + 1 + v4)) ?_
                                refine lv_aload_n hx hb dX4_determinant_107 rfl (lv_at hl 6 rfl) ?_
                                refine va_get (D := D) (ci := 4) (v := .ref (a 13)) (C := RX4) (T := TX4) (N := 19) (Ts := wsX40) hx hb hin (fun _ h9 => h9) hown hK hP 0 rfl rfl 14 (by decide) (hts (.fieldLink RX4 46 "GroupbooksModel" "square" "[J") (by decide +kernel)) (fun _ h9 => h9) rfl dX4_determinant_108 ?_
                                refine lv_iconst (v := 5) hx hb dX4_determinant_111 (by decide) ?_
                                refine lv_iload hx hb dX4_determinant_112 (lv_at hl 1 rfl) ?_
                                refine lv_imul hx hb dX4_determinant_114 ?_
                                refine b_ti (pk_mul (5) (k1 + 1 + t3)) ?_
                                refine lv_iload hx hb dX4_determinant_115 (lv_at hl 0 rfl) ?_
                                refine lv_iadd hx hb dX4_determinant_117 ?_
                                refine b_ti (nI_add ((5) * (k1 + 1 + t3)) (k1 + 1 + v4)) ?_
                                refine b_lald hx hb hK hP 13 1 (f := (deJ (deI (swp s1 k1 (k1 + j2)) k1 bf1 t3) k1 (k1 + 1 + t3) bf1 (v4))) rfl rfl (j := ((5) * (k1 + 1 + t3)) + (k1 + 1 + v4)) (by omega) (by decide) dX4_determinant_118 ?_
                                refine lv_aload_n hx hb dX4_determinant_119 rfl (lv_at hl 6 rfl) ?_
                                refine va_get (D := D) (ci := 4) (v := .ref (a 13)) (C := RX4) (T := TX4) (N := 19) (Ts := wsX40) hx hb hin (fun _ h9 => h9) hown hK hP 0 rfl rfl 14 (by decide) (hts (.fieldLink RX4 46 "GroupbooksModel" "square" "[J") (by decide +kernel)) (fun _ h9 => h9) rfl dX4_determinant_120 ?_
                                refine lv_bipush (v := 6) hx hb dX4_determinant_123 (by decide) ?_
                                refine lv_iload hx hb dX4_determinant_125 (lv_at hl 3 rfl) ?_
                                refine lv_imul hx hb dX4_determinant_127 ?_
                                refine b_ti (pk_mul (6) (k1)) ?_
                                refine b_lald hx hb hK hP 13 1 (f := (deJ (deI (swp s1 k1 (k1 + j2)) k1 bf1 t3) k1 (k1 + 1 + t3) bf1 (v4))) rfl rfl (j := (6) * (k1)) (by omega) (by decide) dX4_determinant_128 ?_
                                refine lv_lmul hx hb dX4_determinant_129 ?_
                                refine lv_aload_n hx hb dX4_determinant_130 rfl (lv_at hl 6 rfl) ?_
                                refine va_get (D := D) (ci := 4) (v := .ref (a 13)) (C := RX4) (T := TX4) (N := 19) (Ts := wsX40) hx hb hin (fun _ h9 => h9) hown hK hP 0 rfl rfl 14 (by decide) (hts (.fieldLink RX4 46 "GroupbooksModel" "square" "[J") (by decide +kernel)) (fun _ h9 => h9) rfl dX4_determinant_131 ?_
                                refine lv_iconst (v := 5) hx hb dX4_determinant_134 (by decide) ?_
                                refine lv_iload hx hb dX4_determinant_135 (lv_at hl 1 rfl) ?_
                                refine lv_imul hx hb dX4_determinant_137 ?_
                                refine b_ti (pk_mul (5) (k1 + 1 + t3)) ?_
                                refine lv_iload hx hb dX4_determinant_138 (lv_at hl 3 rfl) ?_
                                refine lv_iadd hx hb dX4_determinant_140 ?_
                                refine b_ti (nI_add ((5) * (k1 + 1 + t3)) (k1)) ?_
                                refine b_lald hx hb hK hP 13 1 (f := (deJ (deI (swp s1 k1 (k1 + j2)) k1 bf1 t3) k1 (k1 + 1 + t3) bf1 (v4))) rfl rfl (j := ((5) * (k1 + 1 + t3)) + (k1)) (by omega) (by decide) dX4_determinant_141 ?_
                                refine lv_aload_n hx hb dX4_determinant_142 rfl (lv_at hl 6 rfl) ?_
                                refine va_get (D := D) (ci := 4) (v := .ref (a 13)) (C := RX4) (T := TX4) (N := 19) (Ts := wsX40) hx hb hin (fun _ h9 => h9) hown hK hP 0 rfl rfl 14 (by decide) (hts (.fieldLink RX4 46 "GroupbooksModel" "square" "[J") (by decide +kernel)) (fun _ h9 => h9) rfl dX4_determinant_143 ?_
                                refine lv_iconst (v := 5) hx hb dX4_determinant_146 (by decide) ?_
                                refine lv_iload hx hb dX4_determinant_147 (lv_at hl 3 rfl) ?_
                                refine lv_imul hx hb dX4_determinant_149 ?_
                                refine b_ti (pk_mul (5) (k1)) ?_
                                refine lv_iload hx hb dX4_determinant_150 (lv_at hl 0 rfl) ?_
                                refine lv_iadd hx hb dX4_determinant_152 ?_
                                refine b_ti (nI_add ((5) * (k1)) (k1 + 1 + v4)) ?_
                                refine b_lald hx hb hK hP 13 1 (f := (deJ (deI (swp s1 k1 (k1 + j2)) k1 bf1 t3) k1 (k1 + 1 + t3) bf1 (v4))) rfl rfl (j := ((5) * (k1)) + (k1 + 1 + v4)) (by omega) (by decide) dX4_determinant_153 ?_
                                refine lv_lmul hx hb dX4_determinant_154 ?_
                                refine lv_lsub hx hb dX4_determinant_155 ?_
                                refine lv_lload_n hx hb dX4_determinant_156 rfl (lv_at hl 4 rfl) ?_
                                refine lv_ldiv hx hb dX4_determinant_157 hy1_0 ?_
                                refine b_last (w' := MW a cI cJ he cm ad gw as de eq re co av hi ke (vp_updL (deJ (deI (swp s1 k1 (k1 + j2)) k1 bf1 t3) k1 (k1 + 1 + t3) bf1 (v4)) (((5) * (k1 + 1 + t3)) + (k1 + 1 + v4)) (((((deJ (deI (swp s1 k1 (k1 + j2)) k1 bf1 t3) k1 (k1 + 1 + t3) bf1 (v4)) (((5) * (k1 + 1 + t3)) + (k1 + 1 + v4))) * ((deJ (deI (swp s1 k1 (k1 + j2)) k1 bf1 t3) k1 (k1 + 1 + t3) bf1 (v4)) ((6) * (k1)))) - (((deJ (deI (swp s1 k1 (k1 + j2)) k1 bf1 t3) k1 (k1 + 1 + t3) bf1 (v4)) (((5) * (k1 + 1 + t3)) + (k1))) * ((deJ (deI (swp s1 k1 (k1 + j2)) k1 bf1 t3) k1 (k1 + 1 + t3) bf1 (v4)) (((5) * (k1)) + (k1 + 1 + v4))))) / (bf1))) ab be nw tn th cd) hx hb hK hP hD hS 13 1 (f := (deJ (deI (swp s1 k1 (k1 + j2)) k1 bf1 t3) k1 (k1 + 1 + t3) bf1 (v4))) rfl rfl (j := ((5) * (k1 + 1 + t3)) + (k1 + 1 + v4)) (by omega) (by decide) rfl dX4_determinant_158 (fun H locs hP hD hS => ?_)
                                refine lv_iinc (v := nI (k1 + 1 + v4 + 1)) (lv' := [(8, .int (nI (k1 + 1 + v4 + 1))), (7, .int (nI (k1 + 1 + t3))), (6, .int (nI (k1 + j2))), (5, .int (nI (k1))), (3, .long (bf1)), (1, .long (if k1 + j2 = k1 then sg1 else -sg1)), (0, .ref (a 0))]) hx hb dX4_determinant_159 hl (k := 0) rfl (nI_1 (k1 + 1 + v4)) (by decide) rfl (fun ls hl => ?_)
                                refine lv_goto (tgt := 90) hx hb dX4_determinant_162 (by decide) ?_
                                have e_14 : (deJ (deI (swp s1 k1 (k1 + j2)) k1 bf1 t3) k1 (k1 + 1 + t3) bf1 (v4 + 1)) = (vp_updL (deJ (deI (swp s1 k1 (k1 + j2)) k1 bf1 t3) k1 (k1 + 1 + t3) bf1 (v4)) (((5) * (k1 + 1 + t3)) + (k1 + 1 + v4)) (((((deJ (deI (swp s1 k1 (k1 + j2)) k1 bf1 t3) k1 (k1 + 1 + t3) bf1 (v4)) (((5) * (k1 + 1 + t3)) + (k1 + 1 + v4))) * ((deJ (deI (swp s1 k1 (k1 + j2)) k1 bf1 t3) k1 (k1 + 1 + t3) bf1 (v4)) ((6) * (k1)))) - (((deJ (deI (swp s1 k1 (k1 + j2)) k1 bf1 t3) k1 (k1 + 1 + t3) bf1 (v4)) (((5) * (k1 + 1 + t3)) + (k1))) * ((deJ (deI (swp s1 k1 (k1 + j2)) k1 bf1 t3) k1 (k1 + 1 + t3) bf1 (v4)) (((5) * (k1)) + (k1 + 1 + v4))))) / (bf1))) := by first | rfl | exact if_pos (by assumption) | exact if_neg (by assumption) | (simp only [n_2, n_5, n_6, n_7, n_10, n_13, Bool.false_eq_true, ↓reduceIte])
                                exact ih4 (v4 + 1) (by omega) _ _ ls (by rw [e_14]; exact hP) (by rw [e_14]; exact hD) hS (lv_sub hl [0, 1, 2, 3, 4, 5, 6] rfl)
                          exact L4 (5 - (k1 + 1)) 0 (by omega) _ _ ls hP hD hS (lv_sub hl [0, 1, 2, 3, 4, 5, 6] rfl)
                    exact L3 (5 - (k1 + 1)) 0 (by omega) _ _ ls hP hD hS (lv_sub hl [0, 1, 2, 3, 4, 5] rfl)
                  refine lv_iload hx hb dX4_determinant_54 (lv_at hl 0 rfl) ?_
                  refine lv_iload hx hb dX4_determinant_56 (lv_at hl 1 rfl) ?_
                  refine lv_icmp_eq (tgt := 72) hx hb dX4_determinant_58 (by decide) (fun c_15 => ?_) (fun c_15 => ?_)
                  · have n_15 : (k1 + j2) = (k1) := (nI_eq (a := k1 + j2) (b := k1) (by omega) (by omega)).mp c_15
                    have e_16 : (if k1 + j2 = k1 then sg1 else -sg1) = (sg1) := by first | rfl | exact if_pos (by assumption) | exact if_neg (by assumption) | (simp only [n_2, n_5, n_6, n_7, n_15, Bool.false_eq_true, ↓reduceIte])
                    have e_17 : (swp s1 k1 (k1 + j2)) = (s1) := by first | rfl | exact if_pos (by assumption) | exact if_neg (by assumption) | (simp only [n_2, n_5, n_6, n_7, n_15, Bool.false_eq_true, ↓reduceIte])
                    exact C8 _ _ ls (by rw [e_17]; exact hP) (by rw [e_17]; exact hD) hS (by rw [e_16]; exact lv_sub hl [0, 1, 2, 3, 4] rfl)
                  · have n_15 : ¬ ((k1 + j2) = (k1)) := fun h => c_15 ((nI_eq (a := k1 + j2) (b := k1) (by omega) (by omega)).mpr h)
                    refine lv_aload_n hx hb dX4_determinant_61 rfl (lv_at hl 4 rfl) ?_
                    refine lv_iload hx hb dX4_determinant_62 (lv_at hl 0 rfl) ?_
                    refine lv_iload hx hb dX4_determinant_64 (lv_at hl 1 rfl) ?_
                    refine b_callv0 (S := Unit) (w' := fun u => MW a cI cJ he cm ad gw as de eq re co av hi ke (exK s1 (k1 + j2) k1 5) ab be nw tn th cd) hP hD hS hA (va_runV (As := [.int (nI (k1 + j2)), .int (nI (k1))]) (rest := []) ⟨hx, hb, hml, hown, hts⟩ (c_X4_exchange ll D a cI cJ _ he cm ad gw as de eq re co av hi ke s1 ab be nw tn th cd (k1 + j2) k1 (by omega) (by omega)) (cwV 2 hts gX4_determinant_X4_exchange rfl rfl rfl (by decide +kernel) ⟨Nat.le_of_ble_eq_true rfl, Nat.le_of_ble_eq_true rfl⟩) ⟨PW.blind, va_recv hK hP (ci := 4) (q0 := 0) rfl rfl, PW.go hP hK hD hE⟩ rfl rfl hl.1 rfl (lv_room (Nat.le_of_ble_eq_true rfl)) dX4_determinant_66 ⟨Nat.le_of_ble_eq_true rfl, Nat.le_of_ble_eq_true rfl⟩) (fun u H locs h_18 hP hD hS => ?_)
                    refine lv_lload_n hx hb dX4_determinant_69 rfl (lv_at hl 3 rfl) ?_
                    refine lv_lneg hx hb dX4_determinant_70 ?_
                    refine lv_lstore_n (lv' := [(1, .long (-(sg1))), (6, .int (nI (k1 + j2))), (5, .int (nI (k1))), (3, .long (bf1)), (0, .ref (a 0))]) hx hb dX4_determinant_71 rfl hl (by decide) rfl (fun ls hl => ?_)
                    have e_19 : (if k1 + j2 = k1 then sg1 else -sg1) = (-(sg1)) := by first | rfl | exact if_pos (by assumption) | exact if_neg (by assumption) | (simp only [n_2, n_5, n_6, n_7, n_15, Bool.false_eq_true, ↓reduceIte])
                    have e_20 : (swp s1 k1 (k1 + j2)) = (exK s1 (k1 + j2) k1 5) := by first | rfl | exact if_pos (by assumption) | exact if_neg (by assumption) | (simp only [n_2, n_5, n_6, n_7, n_15, Bool.false_eq_true, ↓reduceIte])
                    exact C8 _ _ ls (by rw [e_20]; exact hP) (by rw [e_20]; exact hD) hS (by rw [e_19]; exact lv_sub hl [1, 2, 3, 0, 4] rfl)
                · have n_7 : (k1 + j2) = (5) := (nI_eq (a := k1 + j2) (b := 5) (by omega) (by omega)).mp c_7
                  exfalso; omega
              · have n_6 : s1 (((5) * (k1 + j2)) + (k1)) = 0 := (lg_cmp_eq _ _).mp c_6
                refine lv_iinc (v := nI (k1 + j2 + 1)) (lv' := [(6, .int (nI (k1 + j2 + 1))), (5, .int (nI (k1))), (3, .long (bf1)), (1, .long (sg1)), (0, .ref (a 0))]) hx hb dX4_determinant_40 hl (k := 0) rfl (nI_1 (k1 + j2)) (by decide) rfl (fun ls hl => ?_)
                refine lv_goto (tgt := 17) hx hb dX4_determinant_43 (by decide) ?_
                exact ih2 (j2 + 1) (by omega) (by have h9 := hy2_0; rw [frF_s, if_pos n_6] at h9; exact h9) _ _ ls hP hD hS (lv_sub hl [0, 1, 2, 3, 4] rfl)
        exact L2 (5 - k1) 0 (by omega) rfl _ _ ls hP hD hS (lv_sub hl [0, 1, 2, 3, 4] rfl)
  exact L1 (4) 0 1 1 sq (by omega) (by decide) rfl _ _ ls hP hD hS (lv_sub hl [0, 1, 2, 3] rfl)
