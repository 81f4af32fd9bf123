abbrev rmX4_groupSet : Room := ({ frames := 0, cells := 0, slots := 0, locals := 0 } : Room)
set_option maxHeartbeats 4000000 in
set_option maxRecDepth 100000 in
theorem c_X4_groupSet (ll : Launch) (D : va_G) (a : Nat → Nat) (cI cJ : ClassId) (he cm ad gw as de eq re co av hi ke : Nat → Int32) (sq ab be : Nat → Int64) (nw tn : Nat → Int32) (th cd : Int32)   : Met ll yX4_groupSet wsX4_groupSet rmX4_groupSet (va_Pc [.ref (a 0)] (PR D (tyG cI cJ) (MW a cI cJ he cm ad gw as de eq re co av hi ke sq ab be nw tn th cd))) (vp_Si (fun rr => rr = nI (grp he))) 0 0 (fun _ => False) := by
  refine Met.ofW (cc := cX4_groupSet) (maxL := 6) (ret := (some .int)) (by decide) rfl ?_
  intro pp ee ss mm ar bel mth cde s₁ B hml hv
  obtain ⟨rfl, hP, hK, hE⟩ := hv
  have hx := B.exec
  have hb := B.bytes
  have hr := B.returns
  have hts := atoms_spec (ws := wsX4_groupSet) B.pre
  have hown : ss.vm.findClass RX4 = some mm.cls := findClass_of_methodNamed B.named
  have hlocks := B.notSynchronized
  have hin : ∀ w ∈ wsX40, w.before ([.ref (a 0)] : List Value).toArray ss = true := fun w h => hts w ((by decide +kernel : ∀ w ∈ wsX40, w ∈ wsX4_groupSet) w h)
  have hl := lv_entry [.ref (a 0)] (n := 6) (Nat.le_of_ble_eq_true rfl)
  rw [lg_entry_eq]
  generalize (lg_sl [.ref (a 0)] ++ List.replicate (6 - (lg_sl [.ref (a 0)]).length) Slot.unset).toArray = ls at hl ⊢
  have hl : lv_has ls 6 [(0, .ref (a 0))] := hl
  generalize hZ : MQ bel _ _ ss _ _ _ = Z
  refine lv_iconst (v := 1) hx hb dX4_groupSet_0 (by decide) ?_
  refine lv_istore_n (lv' := [(1, .int (1)), (0, .ref (a 0))]) hx hb dX4_groupSet_1 rfl hl (by decide) rfl (fun ls hl => ?_)
  refine lv_iconst (v := 0) hx hb dX4_groupSet_2 (by decide) ?_
  refine lv_istore_n (lv' := [(2, .int (0)), (1, .int (1)), (0, .ref (a 0))]) hx hb dX4_groupSet_3 rfl hl (by decide) rfl (fun ls hl => ?_)
  have L1 : ∀ (n1 k1 : Nat) (s1 : Nat) (o1 : Nat), k1 + n1 = 66 → gF he n1 o1 s1 = grp he → o1 < 64 → s1 < 64 → (o1 = s1 ∧ 0 < n1) ∨ 65 - s1 < n1 → ∀ (ls : Array Slot), lv_has ls 6 [(2, .int (nI (o1))), (1, .int (nI (s1))), (0, .ref (a 0))] → W pp ll ee rmX4_groupSet ss mm (([.ref (a 0)] : List Value).toArray) bel mth cde ss.heap [] 0 0 Z (F0 mm 4 ls []) := by
    intro n1
    induction n1 with
    | zero =>
      intro k1 s1 o1 hk1 hy1_0 hy1_1 hy1_2 hy1_3 ls hl
      have hk1b : 66 = k1 := by omega
      exfalso; omega
    | succ n1 ih1 =>
      intro k1 s1 o1 hk1 hy1_0 hy1_1 hy1_2 hy1_3 ls hl
      have hk1b : k1 < 66 := by omega
      refine lv_iload_n hx hb dX4_groupSet_4 rfl (lv_at hl 0 rfl) ?_
      refine lv_iload_n hx hb dX4_groupSet_5 rfl (lv_at hl 1 rfl) ?_
      refine lv_icmp_eq (tgt := 88) hx hb dX4_groupSet_6 (by decide) (fun c_1 => ?_) (fun c_1 => ?_)
      · have n_1 : (o1) = (s1) := (nI_eq (a := o1) (b := s1) (by omega) (by omega)).mp c_1
        refine lv_iload_n hx hb dX4_groupSet_88 rfl (lv_at hl 1 rfl) ?_
        subst hZ; exact W.iret hx hb hr (fun t ht _ => ⟨_, rfl, (congrArg nI ((show s1 = gF he (n1 + 1) o1 s1 by rw [gF_s, if_pos n_1]).trans hy1_0)), ht⟩) (fun _ h => nomatch h) dX4_groupSet_89
      · have n_1 : ¬ ((o1) = (s1)) := fun h => c_1 ((nI_eq (a := o1) (b := s1) (by omega) (by omega)).mpr h)
        refine lv_iload_n hx hb dX4_groupSet_9 rfl (lv_at hl 1 rfl) ?_
        refine lv_istore_n (lv' := [(2, .int (nI (s1))), (1, .int (nI (s1))), (0, .ref (a 0))]) hx hb dX4_groupSet_10 rfl hl (by decide) rfl (fun ls hl => ?_)
        refine lv_iconst (v := 1) hx hb dX4_groupSet_11 (by decide) ?_
        refine lv_istore_n (lv' := [(3, .int (1)), (2, .int (nI (s1))), (1, .int (nI (s1))), (0, .ref (a 0))]) hx hb dX4_groupSet_12 rfl hl (by decide) rfl (fun ls hl => ?_)
        have L2 : ∀ (n2 i2 : Nat), i2 + n2 = 5 → gP he s1 (i2) < 64 → ∀ (ls : Array Slot), lv_has ls 6 [(3, .int (nI (i2 + 1))), (2, .int (nI (s1))), (1, .int (nI (gP he s1 (i2)))), (0, .ref (a 0))] → W pp ll ee rmX4_groupSet ss mm (([.ref (a 0)] : List Value).toArray) bel mth cde ss.heap [] 0 0 Z (F0 mm 13 ls []) := by
          intro n2
          induction n2 with
          | zero =>
            intro i2 hk2 hy2_0 ls hl
            have hk2b : 5 = i2 := by omega
            subst hk2b
            refine lv_iload_n hx hb dX4_groupSet_13 rfl (lv_at hl 0 rfl) ?_
            refine lv_bipush (v := 6) hx hb dX4_groupSet_14 (by decide) ?_
            refine lv_icmp_ge (tgt := 85) hx hb dX4_groupSet_16 (by decide) (fun c_2 => ?_) (fun c_2 => ?_)
            · have n_2 : (6) ≤ (5 + 1) := (nI_leI (a := 6) (b := 5 + 1) (by omega) (by omega)).mp c_2
              refine lv_goto (tgt := 4) hx hb dX4_groupSet_85 (by decide) ?_
              exact ih1 (k1 + 1) (gP he s1 (5)) s1 (by omega) (by have h9 := (gF_s _ _ _ _).symm.trans hy1_0; rw [if_neg (fun e9 => n_1 e9)] at h9; exact h9) hy1_2 (gP_lt he hy1_2 5 (Nat.le_refl 5)) (by have h9 := gP_ge he s1 5; rcases Nat.lt_or_ge s1 (gP he s1 5) with q9 | q9 <;> omega) ls (lv_sub hl [1, 2, 3] rfl)
            · have n_2 : ¬ ((6) ≤ (5 + 1)) := fun h => c_2 ((nI_leI (a := 6) (b := 5 + 1) (by omega) (by omega)).mpr h)
              exfalso; omega
          | succ n2 ih2 =>
            intro i2 hk2 hy2_0 ls hl
            have hk2b : i2 < 5 := by omega
            refine lv_iload_n hx hb dX4_groupSet_13 rfl (lv_at hl 0 rfl) ?_
            refine lv_bipush (v := 6) hx hb dX4_groupSet_14 (by decide) ?_
            refine lv_icmp_ge (tgt := 85) hx hb dX4_groupSet_16 (by decide) (fun c_3 => ?_) (fun c_3 => ?_)
            · have n_3 : (6) ≤ (i2 + 1) := (nI_leI (a := 6) (b := i2 + 1) (by omega) (by omega)).mp c_3
              exfalso; omega
            · have n_3 : ¬ ((6) ≤ (i2 + 1)) := fun h => c_3 ((nI_leI (a := 6) (b := i2 + 1) (by omega) (by omega)).mpr h)
              refine lv_iconst (v := 0) hx hb dX4_groupSet_19 (by decide) ?_
              refine lv_istore (lv' := [(4, .int (0)), (3, .int (nI (i2 + 1))), (2, .int (nI (s1))), (1, .int (nI (gP he s1 (i2)))), (0, .ref (a 0))]) hx hb dX4_groupSet_20 hl (by decide) rfl (fun ls hl => ?_)
              refine lv_iconst (v := 0) hx hb dX4_groupSet_22 (by decide) ?_
              refine lv_istore (lv' := [(5, .int (0)), (4, .int (0)), (3, .int (nI (i2 + 1))), (2, .int (nI (s1))), (1, .int (nI (gP he s1 (i2)))), (0, .ref (a 0))]) hx hb dX4_groupSet_23 hl (by decide) rfl (fun ls hl => ?_)
              have L3 : ∀ (n3 j3 : Nat), j3 + n3 = 6 → ∀ (ls : Array Slot), lv_has ls 6 [(5, .int (nI (j3))), (4, .int (gS he (gP he s1 i2) (i2 + 1) (j3))), (3, .int (nI (i2 + 1))), (2, .int (nI (s1))), (1, .int (nI (gP he s1 (i2)))), (0, .ref (a 0))] → W pp ll ee rmX4_groupSet ss mm (([.ref (a 0)] : List Value).toArray) bel mth cde ss.heap [] 0 0 Z (F0 mm 25 ls []) := by
                intro n3
                induction n3 with
                | zero =>
                  intro j3 hk3  ls hl
                  have hk3b : 6 = j3 := by omega
                  subst hk3b
                  refine lv_iload hx hb dX4_groupSet_25 (lv_at hl 0 rfl) ?_
                  refine lv_bipush (v := 6) hx hb dX4_groupSet_27 (by decide) ?_
                  refine lv_icmp_ge (tgt := 62) hx hb dX4_groupSet_29 (by decide) (fun c_4 => ?_) (fun c_4 => ?_)
                  · have n_4 : (6) ≤ (6) := (nI_leI (a := 6) (b := 6) (by omega) (by omega)).mp c_4
                    refine lv_iload_n hx hb dX4_groupSet_62 rfl (lv_at hl 4 rfl) ?_
                    refine lv_iload hx hb dX4_groupSet_63 (lv_at hl 1 rfl) ?_
                    refine lv_bipush (v := 50) hx hb dX4_groupSet_65 (by decide) ?_
                    refine lv_icmp_le (tgt := 76) hx hb dX4_groupSet_67 (by decide) (fun c_5 => ?_) (fun c_5 => ?_)
                    · have n_5 := c_5
                      refine lv_iconst (v := 0) hx hb dX4_groupSet_76 (by decide) ?_
                      refine lv_ior hx hb dX4_groupSet_77 ?_
                      refine b_ti (or_n (gP he s1 (i2)) (0)) ?_
                      refine lv_istore_n (lv' := [(1, .int (nI ((gP he s1 (i2)) ||| 0))), (5, .int (nI (6))), (4, .int (gS he (gP he s1 i2) (i2 + 1) (6))), (3, .int (nI (i2 + 1))), (2, .int (nI (s1))), (0, .ref (a 0))]) hx hb dX4_groupSet_78 rfl hl (by decide) rfl (fun ls hl => ?_)
                      refine lv_iinc (v := nI (i2 + 1 + 1)) (lv' := [(3, .int (nI (i2 + 1 + 1))), (1, .int (nI ((gP he s1 (i2)) ||| 0))), (5, .int (nI (6))), (4, .int (gS he (gP he s1 i2) (i2 + 1) (6))), (2, .int (nI (s1))), (0, .ref (a 0))]) hx hb dX4_groupSet_79 hl (k := 3) rfl (nI_1 (i2 + 1)) (by decide) rfl (fun ls hl => ?_)
                      refine lv_goto (tgt := 13) hx hb dX4_groupSet_82 (by decide) ?_
                      have e_6 : (gP he s1 (i2 + 1)) = ((gP he s1 (i2)) ||| 0) := by first | rfl | exact if_pos (by assumption) | exact if_neg (by assumption) | (simp only [gP, n_1, n_3, n_4, n_5, Bool.false_eq_true, ↓reduceIte])
                      exact ih2 (i2 + 1) (by omega) (gP_lt he hy1_2 _ (by omega)) ls (by rw [e_6]; exact lv_sub hl [0, 4, 1, 5] rfl)
                    · have n_5 := c_5
                      refine lv_iconst (v := 1) hx hb dX4_groupSet_70 (by decide) ?_
                      refine lv_iload_n hx hb dX4_groupSet_71 rfl (lv_at hl 2 rfl) ?_
                      refine lv_ishl hx hb dX4_groupSet_72 ?_
                      refine b_ti (sh_1 (i2 + 1) (by omega)) ?_
                      refine lv_goto (tgt := 77) hx hb dX4_groupSet_73 (by decide) ?_
                      refine lv_ior hx hb dX4_groupSet_77 ?_
                      refine b_ti (or_n (gP he s1 (i2)) (2 ^ (i2 + 1))) ?_
                      refine lv_istore_n (lv' := [(1, .int (nI ((gP he s1 (i2)) ||| (2 ^ (i2 + 1))))), (5, .int (nI (6))), (4, .int (gS he (gP he s1 i2) (i2 + 1) (6))), (3, .int (nI (i2 + 1))), (2, .int (nI (s1))), (0, .ref (a 0))]) hx hb dX4_groupSet_78 rfl hl (by decide) rfl (fun ls hl => ?_)
                      refine lv_iinc (v := nI (i2 + 1 + 1)) (lv' := [(3, .int (nI (i2 + 1 + 1))), (1, .int (nI ((gP he s1 (i2)) ||| (2 ^ (i2 + 1))))), (5, .int (nI (6))), (4, .int (gS he (gP he s1 i2) (i2 + 1) (6))), (2, .int (nI (s1))), (0, .ref (a 0))]) hx hb dX4_groupSet_79 hl (k := 3) rfl (nI_1 (i2 + 1)) (by decide) rfl (fun ls hl => ?_)
                      refine lv_goto (tgt := 13) hx hb dX4_groupSet_82 (by decide) ?_
                      have e_7 : (gP he s1 (i2 + 1)) = ((gP he s1 (i2)) ||| (2 ^ (i2 + 1))) := by first | rfl | exact if_pos (by assumption) | exact if_neg (by assumption) | (simp only [gP, n_1, n_3, n_4, n_5, Bool.false_eq_true, ↓reduceIte])
                      exact ih2 (i2 + 1) (by omega) (gP_lt he hy1_2 _ (by omega)) ls (by rw [e_7]; exact lv_sub hl [0, 4, 1, 5] rfl)
                  · have n_4 : ¬ ((6) ≤ (6)) := fun h => c_4 ((nI_leI (a := 6) (b := 6) (by omega) (by omega)).mpr h)
                    exfalso; omega
                | succ n3 ih3 =>
                  intro j3 hk3  ls hl
                  have hk3b : j3 < 6 := by omega
                  refine lv_iload hx hb dX4_groupSet_25 (lv_at hl 0 rfl) ?_
                  refine lv_bipush (v := 6) hx hb dX4_groupSet_27 (by decide) ?_
                  refine lv_icmp_ge (tgt := 62) hx hb dX4_groupSet_29 (by decide) (fun c_8 => ?_) (fun c_8 => ?_)
                  · have n_8 : (6) ≤ (j3) := (nI_leI (a := 6) (b := j3) (by omega) (by omega)).mp c_8
                    exfalso; omega
                  · have n_8 : ¬ ((6) ≤ (j3)) := fun h => c_8 ((nI_leI (a := 6) (b := j3) (by omega) (by omega)).mpr h)
                    refine lv_iload hx hb dX4_groupSet_32 (lv_at hl 1 rfl) ?_
                    refine lv_iload_n hx hb dX4_groupSet_34 rfl (lv_at hl 4 rfl) ?_
                    refine lv_iload hx hb dX4_groupSet_35 (lv_at hl 0 rfl) ?_
                    refine lv_ishr hx hb dX4_groupSet_37 ?_
                    refine b_ti (sh_and (gP he s1 (i2)) (j3) (by omega) (by omega)) ?_
                    refine lv_iconst (v := 1) hx hb dX4_groupSet_38 (by decide) ?_
                    refine lv_iand hx hb dX4_groupSet_39 ?_
                    refine b_ti (an_1 _ (dv_lt (by omega))) ?_
                    refine lv_aload_n hx hb dX4_groupSet_40 rfl (lv_at hl 5 rfl) ?_
                    refine va_get (D := D) (ci := 4) (v := .ref (a 1)) (C := RX4) (T := TX4) (N := 19) (Ts := wsX40) hx hb hin (fun _ h9 => h9) hown hK hP 0 rfl rfl 1 (by decide) (hts (.fieldLink RX4 7 "GroupbooksModel" "held" "[I") (by decide +kernel)) (fun _ h9 => h9) rfl dX4_groupSet_41 ?_
                    refine lv_bipush (v := 6) hx hb dX4_groupSet_44 (by decide) ?_
                    refine lv_iload hx hb dX4_groupSet_46 (lv_at hl 0 rfl) ?_
                    refine lv_imul hx hb dX4_groupSet_48 ?_
                    refine b_ti (pk_mul (6) (j3)) ?_
                    refine lv_iload_n hx hb dX4_groupSet_49 rfl (lv_at hl 2 rfl) ?_
                    refine lv_iadd hx hb dX4_groupSet_50 ?_
                    refine b_ti (nI_add ((6) * (j3)) (i2 + 1)) ?_
                    refine b_iald hx hb hK hP 1 0 (f := he) rfl rfl (j := ((6) * (j3)) + (i2 + 1)) (by omega) (by decide) dX4_groupSet_51 ?_
                    refine lv_imul hx hb dX4_groupSet_52 ?_
                    refine lv_iadd hx hb dX4_groupSet_53 ?_
                    refine lv_istore (lv' := [(4, .int ((gS he (gP he s1 i2) (i2 + 1) (j3)) + ((nI ((gP he s1 (i2)) / 2 ^ j3 % 2)) * (he (((6) * (j3)) + (i2 + 1)))))), (5, .int (nI (j3))), (3, .int (nI (i2 + 1))), (2, .int (nI (s1))), (1, .int (nI (gP he s1 (i2)))), (0, .ref (a 0))]) hx hb dX4_groupSet_54 hl (by decide) rfl (fun ls hl => ?_)
                    refine lv_iinc (v := nI (j3 + 1)) (lv' := [(5, .int (nI (j3 + 1))), (4, .int ((gS he (gP he s1 i2) (i2 + 1) (j3)) + ((nI ((gP he s1 (i2)) / 2 ^ j3 % 2)) * (he (((6) * (j3)) + (i2 + 1)))))), (3, .int (nI (i2 + 1))), (2, .int (nI (s1))), (1, .int (nI (gP he s1 (i2)))), (0, .ref (a 0))]) hx hb dX4_groupSet_56 hl (k := 1) rfl (nI_1 (j3)) (by decide) rfl (fun ls hl => ?_)
                    refine lv_goto (tgt := 25) hx hb dX4_groupSet_59 (by decide) ?_
                    have e_9 : (gS he (gP he s1 i2) (i2 + 1) (j3 + 1)) = ((gS he (gP he s1 i2) (i2 + 1) (j3)) + ((nI ((gP he s1 (i2)) / 2 ^ j3 % 2)) * (he (((6) * (j3)) + (i2 + 1))))) := by first | rfl | exact if_pos (by assumption) | exact if_neg (by assumption) | (simp only [n_1, n_3, n_8, Bool.false_eq_true, ↓reduceIte])
                    exact ih3 (j3 + 1) (by omega) ls (by rw [e_9]; exact lv_sub hl [0, 1, 2, 3, 4, 5] rfl)
              exact L3 (6) 0 (by omega) ls (lv_sub hl [0, 1, 2, 3, 4, 5] rfl)
        exact L2 (5) 0 (by omega) hy1_2 ls (lv_sub hl [0, 1, 2, 3] rfl)
  exact L1 (66) 0 1 0 (by omega) rfl (by decide) (by decide) (by omega) ls (lv_sub hl [0, 1, 2] rfl)

abbrev rmX4_net : Room := ({ frames := 2, cells := 0, slots := 0, locals := 46 } : Room)
set_option maxHeartbeats 4000000 in
set_option maxRecDepth 100000 in
theorem c_X4_net (ll : Launch) (D : va_G) (a : Nat → Nat) (cI cJ : ClassId) (he cm ad gw as de eq re co av hi ke : Nat → Int32) (sq ab be : Nat → Int64) (nw tn : Nat → Int32) (th cd : Int32) (c : Nat) (hc : c < 6) : Met ll yX4_net wsX4_net rmX4_net (va_Pc [.ref (a 0), .int (nI (c))] (PR D (tyG cI cJ) (MW a cI cJ he cm ad gw as de eq re co av hi ke sq ab be nw tn th cd))) (vp_Si (fun rr => rr = ntM as de co c)) 0 0 (fun _ => False) := by
  refine Met.ofW (cc := cX4_net) (maxL := 2) (ret := (some .int)) (by decide) rfl ?_
  intro pp ee ss mm ar bel mth cde s₁ B hml hv
  obtain ⟨rfl, hP, hK, hE⟩ := hv
  have hx := B.exec
  have hb := B.bytes
  have hr := B.returns
  have hts := atoms_spec (ws := wsX4_net) B.pre
  have hown : ss.vm.findClass RX4 = some mm.cls := findClass_of_methodNamed B.named
  have hlocks := B.notSynchronized
  have hin : ∀ w ∈ wsX40, w.before ([.ref (a 0), .int (nI (c))] : List Value).toArray ss = true := fun w h => hts w ((by decide +kernel : ∀ w ∈ wsX40, w ∈ wsX4_net) w h)
  have hl := lv_entry [.ref (a 0), .int (nI (c))] (n := 2) (Nat.le_of_ble_eq_true rfl)
  rw [lg_entry_eq]
  generalize (lg_sl [.ref (a 0), .int (nI (c))] ++ List.replicate (2 - (lg_sl [.ref (a 0), .int (nI (c))]).length) Slot.unset).toArray = ls at hl ⊢
  have hl : lv_has ls 2 [(0, .ref (a 0)), (1, .int (nI (c)))] := hl
  refine lv_aload_n hx hb dX4_net_0 rfl (lv_at hl 0 rfl) ?_
  refine va_get (D := D) (ci := 4) (v := .ref (a 5)) (C := RX4) (T := TX4) (N := 19) (Ts := wsX40) hx hb hin (fun _ h9 => h9) hown hK hP 0 rfl rfl 5 (by decide) (hts (.fieldLink RX4 22 "GroupbooksModel" "assets" "[I") (by decide +kernel)) (fun _ h9 => h9) rfl dX4_net_1 ?_
  refine lv_iload_n hx hb dX4_net_4 rfl (lv_at hl 1 rfl) ?_
  refine b_iald hx hb hK hP 5 0 (f := as) rfl rfl (j := c) (by omega) (by decide) dX4_net_5 ?_
  refine lv_aload_n hx hb dX4_net_6 rfl (lv_at hl 0 rfl) ?_
  refine va_get (D := D) (ci := 4) (v := .ref (a 9)) (C := RX4) (T := TX4) (N := 19) (Ts := wsX40) hx hb hin (fun _ h9 => h9) hown hK hP 0 rfl rfl 9 (by decide) (hts (.fieldLink RX4 34 "GroupbooksModel" "closing" "[I") (by decide +kernel)) (fun _ h9 => h9) rfl dX4_net_7 ?_
  refine lv_iload_n hx hb dX4_net_10 rfl (lv_at hl 1 rfl) ?_
  refine b_iald hx hb hK hP 9 0 (f := co) rfl rfl (j := c) (by omega) (by decide) dX4_net_11 ?_
  refine b_csi (v := trM (as (c)) (co (c))) (W.runS (As := [.int (as (c)), .int (co (c))]) (rest := []) ⟨hx, hb, hml, hown, hts⟩ (c_X4_translated ll (as (c)) (co (c)) ) (va_cwS 2 hts gX4_net_X4_translated rfl rfl rfl (by decide +kernel) ⟨Nat.le_of_ble_eq_true rfl, Nat.le_of_ble_eq_true rfl⟩) ⟨PT.blind, PT.to⟩ rfl rfl hl.1 rfl (lv_room (Nat.le_of_ble_eq_true rfl)) dX4_net_12 ⟨Nat.le_of_ble_eq_true rfl, Nat.le_of_ble_eq_true rfl⟩) ?_
  refine lv_aload_n hx hb dX4_net_15 rfl (lv_at hl 0 rfl) ?_
  refine va_get (D := D) (ci := 4) (v := .ref (a 6)) (C := RX4) (T := TX4) (N := 19) (Ts := wsX40) hx hb hin (fun _ h9 => h9) hown hK hP 0 rfl rfl 6 (by decide) (hts (.fieldLink RX4 25 "GroupbooksModel" "debts" "[I") (by decide +kernel)) (fun _ h9 => h9) rfl dX4_net_16 ?_
  refine lv_iload_n hx hb dX4_net_19 rfl (lv_at hl 1 rfl) ?_
  refine b_iald hx hb hK hP 6 0 (f := de) rfl rfl (j := c) (by omega) (by decide) dX4_net_20 ?_
  refine lv_aload_n hx hb dX4_net_21 rfl (lv_at hl 0 rfl) ?_
  refine va_get (D := D) (ci := 4) (v := .ref (a 9)) (C := RX4) (T := TX4) (N := 19) (Ts := wsX40) hx hb hin (fun _ h9 => h9) hown hK hP 0 rfl rfl 9 (by decide) (hts (.fieldLink RX4 34 "GroupbooksModel" "closing" "[I") (by decide +kernel)) (fun _ h9 => h9) rfl dX4_net_22 ?_
  refine lv_iload_n hx hb dX4_net_25 rfl (lv_at hl 1 rfl) ?_
  refine b_iald hx hb hK hP 9 0 (f := co) rfl rfl (j := c) (by omega) (by decide) dX4_net_26 ?_
  refine b_csi (v := trM (de (c)) (co (c))) (W.runS (As := [.int (de (c)), .int (co (c))]) (rest := [.int (trM (as (c)) (co (c)))]) ⟨hx, hb, hml, hown, hts⟩ (c_X4_translated ll (de (c)) (co (c)) ) (va_cwS 2 hts gX4_net_X4_translated rfl rfl rfl (by decide +kernel) ⟨Nat.le_of_ble_eq_true rfl, Nat.le_of_ble_eq_true rfl⟩) ⟨PT.blind, PT.to⟩ rfl rfl hl.1 rfl (lv_room (Nat.le_of_ble_eq_true rfl)) dX4_net_27 ⟨Nat.le_of_ble_eq_true rfl, Nat.le_of_ble_eq_true rfl⟩) ?_
  refine lv_isub hx hb dX4_net_30 ?_
  exact W.iret hx hb hr (fun t ht _ => ⟨_, rfl, rfl, ht⟩) (fun _ h => nomatch h) dX4_net_31

abbrev rmX4_eliminatedNow : Room := ({ frames := 1, cells := 0, slots := 0, locals := 25 } : Room)
set_option maxHeartbeats 4000000 in
set_option maxRecDepth 100000 in
theorem c_X4_eliminatedNow (ll : Launch) (D : va_G) (a : Nat → Nat) (cI cJ : ClassId) (he cm ad gw as de eq re co av hi ke : Nat → Int32) (sq ab be : Nat → Int64) (nw tn : Nat → Int32) (th cd : Int32)   : Met ll yX4_eliminatedNow wsX4_eliminatedNow rmX4_eliminatedNow (va_Pc [.ref (a 0)] (PR D (tyG cI cJ) (MW a cI cJ he cm ad gw as de eq re co av hi ke sq ab be nw tn th cd))) (vp_Si (fun rr => rr = elS cm ad (grp he) 36)) 0 0 (fun _ => False) := by
  refine Met.ofW (cc := cX4_eliminatedNow) (maxL := 6) (ret := (some .int)) (by decide) rfl ?_
  intro pp ee ss mm ar bel mth cde s₁ B hml hv
  obtain ⟨rfl, hP, hK, hE⟩ := hv
  have hx := B.exec
  have hb := B.bytes
  have hr := B.returns
  have hts := atoms_spec (ws := wsX4_eliminatedNow) B.pre
  have hown : ss.vm.findClass RX4 = some mm.cls := findClass_of_methodNamed B.named
  have hlocks := B.notSynchronized
  have hin : ∀ w ∈ wsX40, w.before ([.ref (a 0)] : List Value).toArray ss = true := fun w h => hts w ((by decide +kernel : ∀ w ∈ wsX40, w ∈ wsX4_eliminatedNow) w h)
  have hl := lv_entry [.ref (a 0)] (n := 6) (Nat.le_of_ble_eq_true rfl)
  rw [lg_entry_eq]
  generalize (lg_sl [.ref (a 0)] ++ List.replicate (6 - (lg_sl [.ref (a 0)]).length) Slot.unset).toArray = ls at hl ⊢
  have hl : lv_has ls 6 [(0, .ref (a 0))] := hl
  generalize hZ : MQ bel _ _ ss _ _ _ = Z
  refine lv_aload_n hx hb dX4_eliminatedNow_0 rfl (lv_at hl 0 rfl) ?_
  refine b_csi (v := nI (grp he)) (W.runV (As := []) (rest := []) ⟨hx, hb, hml, hown, hts⟩ (c_X4_groupSet ll D a cI cJ he cm ad gw as de eq re co av hi ke sq ab be nw tn th cd  ) (cwV 0 hts gX4_eliminatedNow_X4_groupSet rfl rfl rfl (by decide +kernel) ⟨Nat.le_of_ble_eq_true rfl, Nat.le_of_ble_eq_true rfl⟩) ⟨PR.blind, va_recv hK hP (ci := 4) (q0 := 0) rfl rfl, PR.go hP hK hE⟩ rfl rfl hl.1 rfl (lv_room (Nat.le_of_ble_eq_true rfl)) dX4_eliminatedNow_1 ⟨Nat.le_of_ble_eq_true rfl, Nat.le_of_ble_eq_true rfl⟩) ?_
  have hg6 := grp_lt he
  refine lv_istore_n (lv' := [(1, .int (nI (grp he))), (0, .ref (a 0))]) hx hb dX4_eliminatedNow_4 rfl hl (by decide) rfl (fun ls hl => ?_)
  refine lv_iconst (v := 0) hx hb dX4_eliminatedNow_5 (by decide) ?_
  refine lv_istore_n (lv' := [(2, .int (0)), (1, .int (nI (grp he))), (0, .ref (a 0))]) hx hb dX4_eliminatedNow_6 rfl hl (by decide) rfl (fun ls hl => ?_)
  refine lv_iconst (v := 0) hx hb dX4_eliminatedNow_7 (by decide) ?_
  refine lv_istore_n (lv' := [(3, .int (0)), (2, .int (0)), (1, .int (nI (grp he))), (0, .ref (a 0))]) hx hb dX4_eliminatedNow_8 rfl hl (by decide) rfl (fun ls hl => ?_)
  have L1 : ∀ (n1 k1 : Nat), k1 + n1 = 36 → ∀ (ls : Array Slot), lv_has ls 6 [(3, .int (nI (k1))), (2, .int (elS cm ad (grp he) (k1))), (1, .int (nI (grp he))), (0, .ref (a 0))] → W pp ll ee rmX4_eliminatedNow ss mm (([.ref (a 0)] : List Value).toArray) bel mth cde ss.heap [] 0 0 Z (F0 mm 9 ls []) := by
    intro n1
    induction n1 with
    | zero =>
      intro k1 hk1  ls hl
      have hk1b : 36 = k1 := by omega
      subst hk1b
      refine lv_iload_n hx hb dX4_eliminatedNow_9 rfl (lv_at hl 0 rfl) ?_
      refine lv_bipush (v := 36) hx hb dX4_eliminatedNow_10 (by decide) ?_
      refine lv_icmp_ge (tgt := 105) hx hb dX4_eliminatedNow_12 (by decide) (fun c_1 => ?_) (fun c_1 => ?_)
      · have n_1 : (36) ≤ (36) := (nI_leI (a := 36) (b := 36) (by omega) (by omega)).mp c_1
        refine lv_iload_n hx hb dX4_eliminatedNow_105 rfl (lv_at hl 1 rfl) ?_
        subst hZ; exact W.iret hx hb hr (fun t ht _ => ⟨_, rfl, (by first | rfl | assumption), ht⟩) (fun _ h => nomatch h) dX4_eliminatedNow_106
      · have n_1 : ¬ ((36) ≤ (36)) := fun h => c_1 ((nI_leI (a := 36) (b := 36) (by omega) (by omega)).mpr h)
        exfalso; omega
    | succ n1 ih1 =>
      intro k1 hk1  ls hl
      have hk1b : k1 < 36 := by omega
      refine lv_iload_n hx hb dX4_eliminatedNow_9 rfl (lv_at hl 0 rfl) ?_
      refine lv_bipush (v := 36) hx hb dX4_eliminatedNow_10 (by decide) ?_
      refine lv_icmp_ge (tgt := 105) hx hb dX4_eliminatedNow_12 (by decide) (fun c_2 => ?_) (fun c_2 => ?_)
      · have n_2 : (36) ≤ (k1) := (nI_leI (a := 36) (b := k1) (by omega) (by omega)).mp c_2
        exfalso; omega
      · have n_2 : ¬ ((36) ≤ (k1)) := fun h => c_2 ((nI_leI (a := 36) (b := k1) (by omega) (by omega)).mpr h)
        refine lv_aload_n hx hb dX4_eliminatedNow_15 rfl (lv_at hl 3 rfl) ?_
        refine va_get (D := D) (ci := 4) (v := .ref (a 3)) (C := RX4) (T := TX4) (N := 19) (Ts := wsX40) hx hb hin (fun _ h9 => h9) hown hK hP 0 rfl rfl 3 (by decide) (hts (.fieldLink RX4 16 "GroupbooksModel" "admitted" "[I") (by decide +kernel)) (fun _ h9 => h9) rfl dX4_eliminatedNow_16 ?_
        refine lv_bipush (v := 6) hx hb dX4_eliminatedNow_19 (by decide) ?_
        refine lv_iload_n hx hb dX4_eliminatedNow_21 rfl (lv_at hl 0 rfl) ?_
        refine lv_bipush (v := 6) hx hb dX4_eliminatedNow_22 (by decide) ?_
        refine lv_irem hx hb dX4_eliminatedNow_24 (by decide) ?_
        refine b_ti (pk_rem (a := k1) (d := 6) (by omega) (by decide) (by decide)) ?_
        refine lv_imul hx hb dX4_eliminatedNow_25 ?_
        refine b_ti (pk_mul (6) (k1 % 6)) ?_
        refine lv_iload_n hx hb dX4_eliminatedNow_26 rfl (lv_at hl 0 rfl) ?_
        refine lv_bipush (v := 6) hx hb dX4_eliminatedNow_27 (by decide) ?_
        refine lv_idiv hx hb dX4_eliminatedNow_29 (by decide) ?_
        refine b_ti (pk_div (a := k1) (d := 6) (by omega) (by decide) (by decide)) ?_
        refine lv_iadd hx hb dX4_eliminatedNow_30 ?_
        refine b_ti (nI_add ((6) * (k1 % 6)) (k1 / 6)) ?_
        refine b_iald hx hb hK hP 3 0 (f := ad) rfl rfl (j := ((6) * (k1 % 6)) + (k1 / 6)) (by omega) (by decide) dX4_eliminatedNow_31 ?_
        refine lv_istore (lv' := [(4, .int (ad (((6) * (k1 % 6)) + (k1 / 6)))), (3, .int (nI (k1))), (2, .int (elS cm ad (grp he) (k1))), (1, .int (nI (grp he))), (0, .ref (a 0))]) hx hb dX4_eliminatedNow_32 hl (by decide) rfl (fun ls hl => ?_)
        refine lv_iload_n hx hb dX4_eliminatedNow_34 rfl (lv_at hl 3 rfl) ?_
        refine lv_iload_n hx hb dX4_eliminatedNow_35 rfl (lv_at hl 1 rfl) ?_
        refine lv_bipush (v := 6) hx hb dX4_eliminatedNow_36 (by decide) ?_
        refine lv_idiv hx hb dX4_eliminatedNow_38 (by decide) ?_
        refine b_ti (pk_div (a := k1) (d := 6) (by omega) (by decide) (by decide)) ?_
        refine lv_ishr hx hb dX4_eliminatedNow_39 ?_
        refine b_ti (sh_and (grp he) (k1 / 6) (by omega) (by omega)) ?_
        refine lv_iconst (v := 1) hx hb dX4_eliminatedNow_40 (by decide) ?_
        refine lv_iand hx hb dX4_eliminatedNow_41 ?_
        refine b_ti (an_1 _ (dv_lt (by omega))) ?_
        refine lv_iconst (v := 1) hx hb dX4_eliminatedNow_42 (by decide) ?_
        refine lv_icmp_ne (tgt := 62) hx hb dX4_eliminatedNow_43 (by decide) (fun c_3 => ?_) (fun c_3 => ?_)
        · have n_3 : ¬ (((grp he) / 2 ^ (k1 / 6) % 2) = (1)) := fun h => c_3 ((nI_eq (a := (grp he) / 2 ^ (k1 / 6) % 2) (b := 1) (by omega) (by omega)).mpr h)
          refine lv_iconst (v := 0) hx hb dX4_eliminatedNow_62 (by decide) ?_
          refine lv_istore (lv' := [(5, .int (0)), (4, .int (ad (((6) * (k1 % 6)) + (k1 / 6)))), (3, .int (nI (k1))), (2, .int (elS cm ad (grp he) (k1))), (1, .int (nI (grp he))), (0, .ref (a 0))]) hx hb dX4_eliminatedNow_63 hl (by decide) rfl (fun ls hl => ?_)
          refine lv_iload_n hx hb dX4_eliminatedNow_65 rfl (lv_at hl 3 rfl) ?_
          refine lv_iload hx hb dX4_eliminatedNow_66 (lv_at hl 0 rfl) ?_
          refine lv_if_ne (tgt := 75) hx hb dX4_eliminatedNow_68 (by decide) (fun c_4 => ?_) (fun c_4 => ?_)
          · have n_4 := c_4
            exact absurd c_4 (by decide)
          · have n_4 := c_4
            refine lv_iconst (v := 0) hx hb dX4_eliminatedNow_71 (by decide) ?_
            refine lv_goto (tgt := 97) hx hb dX4_eliminatedNow_72 (by decide) ?_
            refine lv_iadd hx hb dX4_eliminatedNow_97 ?_
            refine lv_istore_n (lv' := [(2, .int ((elS cm ad (grp he) (k1)) + (0))), (5, .int (0)), (4, .int (ad (((6) * (k1 % 6)) + (k1 / 6)))), (3, .int (nI (k1))), (1, .int (nI (grp he))), (0, .ref (a 0))]) hx hb dX4_eliminatedNow_98 rfl hl (by decide) rfl (fun ls hl => ?_)
            refine lv_iinc (v := nI (k1 + 1)) (lv' := [(3, .int (nI (k1 + 1))), (2, .int ((elS cm ad (grp he) (k1)) + (0))), (5, .int (0)), (4, .int (ad (((6) * (k1 % 6)) + (k1 / 6)))), (1, .int (nI (grp he))), (0, .ref (a 0))]) hx hb dX4_eliminatedNow_99 hl (k := 3) rfl (nI_1 (k1)) (by decide) rfl (fun ls hl => ?_)
            refine lv_goto (tgt := 9) hx hb dX4_eliminatedNow_102 (by decide) ?_
            have e_5 : (elS cm ad (grp he) (k1 + 1)) = ((elS cm ad (grp he) (k1)) + (0)) := by first | rfl | exact if_pos (by assumption) | exact if_neg (by assumption) | (simp only [elS, n_2, n_3, n_4, Bool.false_eq_true, ↓reduceIte])
            exact ih1 (k1 + 1) (by omega) ls (by rw [e_5]; exact lv_sub hl [0, 1, 4, 5] rfl)
        · have n_3 : ((grp he) / 2 ^ (k1 / 6) % 2) = (1) := (nI_eq (a := (grp he) / 2 ^ (k1 / 6) % 2) (b := 1) (by omega) (by omega)).mp c_3
          refine lv_iload_n hx hb dX4_eliminatedNow_46 rfl (lv_at hl 3 rfl) ?_
          refine lv_iload_n hx hb dX4_eliminatedNow_47 rfl (lv_at hl 1 rfl) ?_
          refine lv_bipush (v := 6) hx hb dX4_eliminatedNow_48 (by decide) ?_
          refine lv_irem hx hb dX4_eliminatedNow_50 (by decide) ?_
          refine b_ti (pk_rem (a := k1) (d := 6) (by omega) (by decide) (by decide)) ?_
          refine lv_ishr hx hb dX4_eliminatedNow_51 ?_
          refine b_ti (sh_and (grp he) (k1 % 6) (by omega) (by omega)) ?_
          refine lv_iconst (v := 1) hx hb dX4_eliminatedNow_52 (by decide) ?_
          refine lv_iand hx hb dX4_eliminatedNow_53 ?_
          refine b_ti (an_1 _ (dv_lt (by omega))) ?_
          refine lv_iconst (v := 1) hx hb dX4_eliminatedNow_54 (by decide) ?_
          refine lv_icmp_ne (tgt := 62) hx hb dX4_eliminatedNow_55 (by decide) (fun c_6 => ?_) (fun c_6 => ?_)
          · have n_6 : ¬ (((grp he) / 2 ^ (k1 % 6) % 2) = (1)) := fun h => c_6 ((nI_eq (a := (grp he) / 2 ^ (k1 % 6) % 2) (b := 1) (by omega) (by omega)).mpr h)
            refine lv_iconst (v := 0) hx hb dX4_eliminatedNow_62 (by decide) ?_
            refine lv_istore (lv' := [(5, .int (0)), (4, .int (ad (((6) * (k1 % 6)) + (k1 / 6)))), (3, .int (nI (k1))), (2, .int (elS cm ad (grp he) (k1))), (1, .int (nI (grp he))), (0, .ref (a 0))]) hx hb dX4_eliminatedNow_63 hl (by decide) rfl (fun ls hl => ?_)
            refine lv_iload_n hx hb dX4_eliminatedNow_65 rfl (lv_at hl 3 rfl) ?_
            refine lv_iload hx hb dX4_eliminatedNow_66 (lv_at hl 0 rfl) ?_
            refine lv_if_ne (tgt := 75) hx hb dX4_eliminatedNow_68 (by decide) (fun c_7 => ?_) (fun c_7 => ?_)
            · have n_7 := c_7
              exact absurd c_7 (by decide)
            · have n_7 := c_7
              refine lv_iconst (v := 0) hx hb dX4_eliminatedNow_71 (by decide) ?_
              refine lv_goto (tgt := 97) hx hb dX4_eliminatedNow_72 (by decide) ?_
              refine lv_iadd hx hb dX4_eliminatedNow_97 ?_
              refine lv_istore_n (lv' := [(2, .int ((elS cm ad (grp he) (k1)) + (0))), (5, .int (0)), (4, .int (ad (((6) * (k1 % 6)) + (k1 / 6)))), (3, .int (nI (k1))), (1, .int (nI (grp he))), (0, .ref (a 0))]) hx hb dX4_eliminatedNow_98 rfl hl (by decide) rfl (fun ls hl => ?_)
              refine lv_iinc (v := nI (k1 + 1)) (lv' := [(3, .int (nI (k1 + 1))), (2, .int ((elS cm ad (grp he) (k1)) + (0))), (5, .int (0)), (4, .int (ad (((6) * (k1 % 6)) + (k1 / 6)))), (1, .int (nI (grp he))), (0, .ref (a 0))]) hx hb dX4_eliminatedNow_99 hl (k := 3) rfl (nI_1 (k1)) (by decide) rfl (fun ls hl => ?_)
              refine lv_goto (tgt := 9) hx hb dX4_eliminatedNow_102 (by decide) ?_
              have e_8 : (elS cm ad (grp he) (k1 + 1)) = ((elS cm ad (grp he) (k1)) + (0)) := by first | rfl | exact if_pos (by assumption) | exact if_neg (by assumption) | (simp only [elS, n_2, n_3, n_6, n_7, Bool.false_eq_true, ↓reduceIte])
              exact ih1 (k1 + 1) (by omega) ls (by rw [e_8]; exact lv_sub hl [0, 1, 4, 5] rfl)
          · have n_6 : ((grp he) / 2 ^ (k1 % 6) % 2) = (1) := (nI_eq (a := (grp he) / 2 ^ (k1 % 6) % 2) (b := 1) (by omega) (by omega)).mp c_6
            refine lv_iconst (v := 1) hx hb dX4_eliminatedNow_58 (by decide) ?_
            refine lv_goto (tgt := 63) hx hb dX4_eliminatedNow_59 (by decide) ?_
            refine lv_istore (lv' := [(5, .int (1)), (4, .int (ad (((6) * (k1 % 6)) + (k1 / 6)))), (3, .int (nI (k1))), (2, .int (elS cm ad (grp he) (k1))), (1, .int (nI (grp he))), (0, .ref (a 0))]) hx hb dX4_eliminatedNow_63 hl (by decide) rfl (fun ls hl => ?_)
            refine lv_iload_n hx hb dX4_eliminatedNow_65 rfl (lv_at hl 3 rfl) ?_
            refine lv_iload hx hb dX4_eliminatedNow_66 (lv_at hl 0 rfl) ?_
            refine lv_if_ne (tgt := 75) hx hb dX4_eliminatedNow_68 (by decide) (fun c_9 => ?_) (fun c_9 => ?_)
            · have n_9 := c_9
              refine lv_aload_n hx hb dX4_eliminatedNow_75 rfl (lv_at hl 5 rfl) ?_
              refine va_get (D := D) (ci := 4) (v := .ref (a 2)) (C := RX4) (T := TX4) (N := 19) (Ts := wsX40) hx hb hin (fun _ h9 => h9) hown hK hP 0 rfl rfl 2 (by decide) (hts (.fieldLink RX4 13 "GroupbooksModel" "claimed" "[I") (by decide +kernel)) (fun _ h9 => h9) rfl dX4_eliminatedNow_76 ?_
              refine lv_iload_n hx hb dX4_eliminatedNow_79 rfl (lv_at hl 2 rfl) ?_
              refine b_iald hx hb hK hP 2 0 (f := cm) rfl rfl (j := k1) (by omega) (by decide) dX4_eliminatedNow_80 ?_
              refine lv_iload hx hb dX4_eliminatedNow_81 (lv_at hl 1 rfl) ?_
              refine lv_icmp_ge (tgt := 95) hx hb dX4_eliminatedNow_83 (by decide) (fun c_10 => ?_) (fun c_10 => ?_)
              · have n_10 := c_10
                refine lv_iload hx hb dX4_eliminatedNow_95 (lv_at hl 1 rfl) ?_
                refine lv_iadd hx hb dX4_eliminatedNow_97 ?_
                refine lv_istore_n (lv' := [(2, .int ((elS cm ad (grp he) (k1)) + (ad (((6) * (k1 % 6)) + (k1 / 6))))), (5, .int (1)), (4, .int (ad (((6) * (k1 % 6)) + (k1 / 6)))), (3, .int (nI (k1))), (1, .int (nI (grp he))), (0, .ref (a 0))]) hx hb dX4_eliminatedNow_98 rfl hl (by decide) rfl (fun ls hl => ?_)
                refine lv_iinc (v := nI (k1 + 1)) (lv' := [(3, .int (nI (k1 + 1))), (2, .int ((elS cm ad (grp he) (k1)) + (ad (((6) * (k1 % 6)) + (k1 / 6))))), (5, .int (1)), (4, .int (ad (((6) * (k1 % 6)) + (k1 / 6)))), (1, .int (nI (grp he))), (0, .ref (a 0))]) hx hb dX4_eliminatedNow_99 hl (k := 3) rfl (nI_1 (k1)) (by decide) rfl (fun ls hl => ?_)
                refine lv_goto (tgt := 9) hx hb dX4_eliminatedNow_102 (by decide) ?_
                have e_11 : (elS cm ad (grp he) (k1 + 1)) = ((elS cm ad (grp he) (k1)) + (ad (((6) * (k1 % 6)) + (k1 / 6)))) := by first | rfl | exact if_pos (by assumption) | exact if_neg (by assumption) | (simp only [elS, n_2, n_3, n_6, n_9, n_10, Bool.false_eq_true, ↓reduceIte])
                exact ih1 (k1 + 1) (by omega) ls (by rw [e_11]; exact lv_sub hl [0, 1, 4, 5] rfl)
              · have n_10 := c_10
                refine lv_aload_n hx hb dX4_eliminatedNow_86 rfl (lv_at hl 5 rfl) ?_
                refine va_get (D := D) (ci := 4) (v := .ref (a 2)) (C := RX4) (T := TX4) (N := 19) (Ts := wsX40) hx hb hin (fun _ h9 => h9) hown hK hP 0 rfl rfl 2 (by decide) (hts (.fieldLink RX4 13 "GroupbooksModel" "claimed" "[I") (by decide +kernel)) (fun _ h9 => h9) rfl dX4_eliminatedNow_87 ?_
                refine lv_iload_n hx hb dX4_eliminatedNow_90 rfl (lv_at hl 2 rfl) ?_
                refine b_iald hx hb hK hP 2 0 (f := cm) rfl rfl (j := k1) (by omega) (by decide) dX4_eliminatedNow_91 ?_
                refine lv_goto (tgt := 97) hx hb dX4_eliminatedNow_92 (by decide) ?_
                refine lv_iadd hx hb dX4_eliminatedNow_97 ?_
                refine lv_istore_n (lv' := [(2, .int ((elS cm ad (grp he) (k1)) + (cm (k1)))), (5, .int (1)), (4, .int (ad (((6) * (k1 % 6)) + (k1 / 6)))), (3, .int (nI (k1))), (1, .int (nI (grp he))), (0, .ref (a 0))]) hx hb dX4_eliminatedNow_98 rfl hl (by decide) rfl (fun ls hl => ?_)
                refine lv_iinc (v := nI (k1 + 1)) (lv' := [(3, .int (nI (k1 + 1))), (2, .int ((elS cm ad (grp he) (k1)) + (cm (k1)))), (5, .int (1)), (4, .int (ad (((6) * (k1 % 6)) + (k1 / 6)))), (1, .int (nI (grp he))), (0, .ref (a 0))]) hx hb dX4_eliminatedNow_99 hl (k := 3) rfl (nI_1 (k1)) (by decide) rfl (fun ls hl => ?_)
                refine lv_goto (tgt := 9) hx hb dX4_eliminatedNow_102 (by decide) ?_
                have e_12 : (elS cm ad (grp he) (k1 + 1)) = ((elS cm ad (grp he) (k1)) + (cm (k1))) := by first | rfl | exact if_pos (by assumption) | exact if_neg (by assumption) | (simp only [elS, n_2, n_3, n_6, n_9, n_10, Bool.false_eq_true, ↓reduceIte])
                exact ih1 (k1 + 1) (by omega) ls (by rw [e_12]; exact lv_sub hl [0, 1, 4, 5] rfl)
            · have n_9 := c_9
              exact absurd c_9 (by decide)
  exact L1 (36) 0 (by omega) ls (lv_sub hl [0, 1, 2, 3] rfl)

abbrev rmX4_assetsNow : Room := ({ frames := 2, cells := 0, slots := 0, locals := 50 } : Room)
set_option maxHeartbeats 4000000 in
set_option maxRecDepth 100000 in
theorem c_X4_assetsNow (ll : Launch) (D : va_G) (a : Nat → Nat) (cI cJ : ClassId) (he cm ad gw as de eq re co av hi ke : Nat → Int32) (sq ab be : Nat → Int64) (nw tn : Nat → Int32) (th cd : Int32)   : Met ll yX4_assetsNow wsX4_assetsNow rmX4_assetsNow (va_Pc [.ref (a 0)] (PR D (tyG cI cJ) (MW a cI cJ he cm ad gw as de eq re co av hi ke sq ab be nw tn th cd))) (vp_Si (fun rr => rr = asS as co (grp he) 6 - elS cm ad (grp he) 36)) 0 0 (fun _ => False) := by
  refine Met.ofW (cc := cX4_assetsNow) (maxL := 4) (ret := (some .int)) (by decide) rfl ?_
  intro pp ee ss mm ar bel mth cde s₁ B hml hv
  obtain ⟨rfl, hP, hK, hE⟩ := hv
  have hx := B.exec
  have hb := B.bytes
  have hr := B.returns
  have hts := atoms_spec (ws := wsX4_assetsNow) B.pre
  have hown : ss.vm.findClass RX4 = some mm.cls := findClass_of_methodNamed B.named
  have hlocks := B.notSynchronized
  have hin : ∀ w ∈ wsX40, w.before ([.ref (a 0)] : List Value).toArray ss = true := fun w h => hts w ((by decide +kernel : ∀ w ∈ wsX40, w ∈ wsX4_assetsNow) w h)
  have hl := lv_entry [.ref (a 0)] (n := 4) (Nat.le_of_ble_eq_true rfl)
  rw [lg_entry_eq]
  generalize (lg_sl [.ref (a 0)] ++ List.replicate (4 - (lg_sl [.ref (a 0)]).length) Slot.unset).toArray = ls at hl ⊢
  have hl : lv_has ls 4 [(0, .ref (a 0))] := hl
  generalize hZ : MQ bel _ _ ss _ _ _ = Z
  refine lv_aload_n hx hb dX4_assetsNow_0 rfl (lv_at hl 0 rfl) ?_
  refine b_csi (v := nI (grp he)) (W.runV (As := []) (rest := []) ⟨hx, hb, hml, hown, hts⟩ (c_X4_groupSet ll D a cI cJ he cm ad gw as de eq re co av hi ke sq ab be nw tn th cd  ) (cwV 0 hts gX4_assetsNow_X4_groupSet rfl rfl rfl (by decide +kernel) ⟨Nat.le_of_ble_eq_true rfl, Nat.le_of_ble_eq_true rfl⟩) ⟨PR.blind, va_recv hK hP (ci := 4) (q0 := 0) rfl rfl, PR.go hP hK hE⟩ rfl rfl hl.1 rfl (lv_room (Nat.le_of_ble_eq_true rfl)) dX4_assetsNow_1 ⟨Nat.le_of_ble_eq_true rfl, Nat.le_of_ble_eq_true rfl⟩) ?_
  have hg6 := grp_lt he
  refine lv_istore_n (lv' := [(1, .int (nI (grp he))), (0, .ref (a 0))]) hx hb dX4_assetsNow_4 rfl hl (by decide) rfl (fun ls hl => ?_)
  refine lv_iconst (v := 0) hx hb dX4_assetsNow_5 (by decide) ?_
  refine lv_istore_n (lv' := [(2, .int (0)), (1, .int (nI (grp he))), (0, .ref (a 0))]) hx hb dX4_assetsNow_6 rfl hl (by decide) rfl (fun ls hl => ?_)
  refine lv_iconst (v := 0) hx hb dX4_assetsNow_7 (by decide) ?_
  refine lv_istore_n (lv' := [(3, .int (0)), (2, .int (0)), (1, .int (nI (grp he))), (0, .ref (a 0))]) hx hb dX4_assetsNow_8 rfl hl (by decide) rfl (fun ls hl => ?_)
  have L1 : ∀ (n1 k1 : Nat), k1 + n1 = 6 → ∀ (ls : Array Slot), lv_has ls 4 [(3, .int (nI (k1))), (2, .int (asS as co (grp he) (k1))), (1, .int (nI (grp he))), (0, .ref (a 0))] → W pp ll ee rmX4_assetsNow ss mm (([.ref (a 0)] : List Value).toArray) bel mth cde ss.heap [] 0 0 Z (F0 mm 9 ls []) := by
    intro n1
    induction n1 with
    | zero =>
      intro k1 hk1  ls hl
      have hk1b : 6 = k1 := by omega
      subst hk1b
      refine lv_iload_n hx hb dX4_assetsNow_9 rfl (lv_at hl 0 rfl) ?_
      refine lv_bipush (v := 6) hx hb dX4_assetsNow_10 (by decide) ?_
      refine lv_icmp_ge (tgt := 45) hx hb dX4_assetsNow_12 (by decide) (fun c_1 => ?_) (fun c_1 => ?_)
      · have n_1 : (6) ≤ (6) := (nI_leI (a := 6) (b := 6) (by omega) (by omega)).mp c_1
        refine lv_iload_n hx hb dX4_assetsNow_45 rfl (lv_at hl 1 rfl) ?_
        refine lv_aload_n hx hb dX4_assetsNow_46 rfl (lv_at hl 3 rfl) ?_
        refine b_csi (v := elS cm ad (grp he) 36) (W.runV (As := []) (rest := [.int (asS as co (grp he) (6))]) ⟨hx, hb, hml, hown, hts⟩ (c_X4_eliminatedNow ll D a cI cJ he cm ad gw as de eq re co av hi ke sq ab be nw tn th cd  ) (cwV 0 hts gX4_assetsNow_X4_eliminatedNow rfl rfl rfl (by decide +kernel) ⟨Nat.le_of_ble_eq_true rfl, Nat.le_of_ble_eq_true rfl⟩) ⟨PR.blind, va_recv hK hP (ci := 4) (q0 := 0) rfl rfl, PR.go hP hK hE⟩ rfl rfl hl.1 rfl (lv_room (Nat.le_of_ble_eq_true rfl)) dX4_assetsNow_47 ⟨Nat.le_of_ble_eq_true rfl, Nat.le_of_ble_eq_true rfl⟩) ?_
        refine lv_isub hx hb dX4_assetsNow_50 ?_
        subst hZ; exact W.iret hx hb hr (fun t ht _ => ⟨_, rfl, rfl, ht⟩) (fun _ h => nomatch h) dX4_assetsNow_51
      · have n_1 : ¬ ((6) ≤ (6)) := fun h => c_1 ((nI_leI (a := 6) (b := 6) (by omega) (by omega)).mpr h)
        exfalso; omega
    | succ n1 ih1 =>
      intro k1 hk1  ls hl
      have hk1b : k1 < 6 := by omega
      refine lv_iload_n hx hb dX4_assetsNow_9 rfl (lv_at hl 0 rfl) ?_
      refine lv_bipush (v := 6) hx hb dX4_assetsNow_10 (by decide) ?_
      refine lv_icmp_ge (tgt := 45) hx hb dX4_assetsNow_12 (by decide) (fun c_2 => ?_) (fun c_2 => ?_)
      · have n_2 : (6) ≤ (k1) := (nI_leI (a := 6) (b := k1) (by omega) (by omega)).mp c_2
        exfalso; omega
      · have n_2 : ¬ ((6) ≤ (k1)) := fun h => c_2 ((nI_leI (a := 6) (b := k1) (by omega) (by omega)).mpr h)
        refine lv_iload_n hx hb dX4_assetsNow_15 rfl (lv_at hl 1 rfl) ?_
        refine lv_iload_n hx hb dX4_assetsNow_16 rfl (lv_at hl 2 rfl) ?_
        refine lv_iload_n hx hb dX4_assetsNow_17 rfl (lv_at hl 0 rfl) ?_
        refine lv_ishr hx hb dX4_assetsNow_18 ?_
        refine b_ti (sh_and (grp he) (k1) (by omega) (by omega)) ?_
        refine lv_iconst (v := 1) hx hb dX4_assetsNow_19 (by decide) ?_
        refine lv_iand hx hb dX4_assetsNow_20 ?_
        refine b_ti (an_1 _ (dv_lt (by omega))) ?_
        refine lv_aload_n hx hb dX4_assetsNow_21 rfl (lv_at hl 3 rfl) ?_
        refine va_get (D := D) (ci := 4) (v := .ref (a 5)) (C := RX4) (T := TX4) (N := 19) (Ts := wsX40) hx hb hin (fun _ h9 => h9) hown hK hP 0 rfl rfl 5 (by decide) (hts (.fieldLink RX4 22 "GroupbooksModel" "assets" "[I") (by decide +kernel)) (fun _ h9 => h9) rfl dX4_assetsNow_22 ?_
        refine lv_iload_n hx hb dX4_assetsNow_25 rfl (lv_at hl 0 rfl) ?_
        refine b_iald hx hb hK hP 5 0 (f := as) rfl rfl (j := k1) (by omega) (by decide) dX4_assetsNow_26 ?_
        refine lv_aload_n hx hb dX4_assetsNow_27 rfl (lv_at hl 3 rfl) ?_
        refine va_get (D := D) (ci := 4) (v := .ref (a 9)) (C := RX4) (T := TX4) (N := 19) (Ts := wsX40) hx hb hin (fun _ h9 => h9) hown hK hP 0 rfl rfl 9 (by decide) (hts (.fieldLink RX4 34 "GroupbooksModel" "closing" "[I") (by decide +kernel)) (fun _ h9 => h9) rfl dX4_assetsNow_28 ?_
        refine lv_iload_n hx hb dX4_assetsNow_31 rfl (lv_at hl 0 rfl) ?_
        refine b_iald hx hb hK hP 9 0 (f := co) rfl rfl (j := k1) (by omega) (by decide) dX4_assetsNow_32 ?_
        refine b_csi (v := trM (as (k1)) (co (k1))) (W.runS (As := [.int (as (k1)), .int (co (k1))]) (rest := [.int (nI ((grp he) / 2 ^ k1 % 2)), .int (asS as co (grp he) (k1))]) ⟨hx, hb, hml, hown, hts⟩ (c_X4_translated ll (as (k1)) (co (k1)) ) (va_cwS 2 hts gX4_assetsNow_X4_translated rfl rfl rfl (by decide +kernel) ⟨Nat.le_of_ble_eq_true rfl, Nat.le_of_ble_eq_true rfl⟩) ⟨PT.blind, PT.to⟩ rfl rfl hl.1 rfl (lv_room (Nat.le_of_ble_eq_true rfl)) dX4_assetsNow_33 ⟨Nat.le_of_ble_eq_true rfl, Nat.le_of_ble_eq_true rfl⟩) ?_
        refine lv_imul hx hb dX4_assetsNow_36 ?_
        refine lv_iadd hx hb dX4_assetsNow_37 ?_
        refine lv_istore_n (lv' := [(2, .int ((asS as co (grp he) (k1)) + ((nI ((grp he) / 2 ^ k1 % 2)) * (trM (as (k1)) (co (k1)))))), (3, .int (nI (k1))), (1, .int (nI (grp he))), (0, .ref (a 0))]) hx hb dX4_assetsNow_38 rfl hl (by decide) rfl (fun ls hl => ?_)
        refine lv_iinc (v := nI (k1 + 1)) (lv' := [(3, .int (nI (k1 + 1))), (2, .int ((asS as co (grp he) (k1)) + ((nI ((grp he) / 2 ^ k1 % 2)) * (trM (as (k1)) (co (k1)))))), (1, .int (nI (grp he))), (0, .ref (a 0))]) hx hb dX4_assetsNow_39 hl (k := 1) rfl (nI_1 (k1)) (by decide) rfl (fun ls hl => ?_)
        refine lv_goto (tgt := 9) hx hb dX4_assetsNow_42 (by decide) ?_
        have e_3 : (asS as co (grp he) (k1 + 1)) = ((asS as co (grp he) (k1)) + ((nI ((grp he) / 2 ^ k1 % 2)) * (trM (as (k1)) (co (k1))))) := by first | rfl | exact if_pos (by assumption) | exact if_neg (by assumption) | (simp only [n_2, Bool.false_eq_true, ↓reduceIte])
        exact ih1 (k1 + 1) (by omega) ls (by rw [e_3]; exact lv_sub hl [0, 1, 2, 3] rfl)
  exact L1 (6) 0 (by omega) ls (lv_sub hl [0, 1, 2, 3] rfl)

abbrev rmX4_debtsNow : Room := ({ frames := 2, cells := 0, slots := 0, locals := 50 } : Room)
set_option maxHeartbeats 4000000 in
set_option maxRecDepth 100000 in
theorem c_X4_debtsNow (ll : Launch) (D : va_G) (a : Nat → Nat) (cI cJ : ClassId) (he cm ad gw as de eq re co av hi ke : Nat → Int32) (sq ab be : Nat → Int64) (nw tn : Nat → Int32) (th cd : Int32)   : Met ll yX4_debtsNow wsX4_debtsNow rmX4_debtsNow (va_Pc [.ref (a 0)] (PR D (tyG cI cJ) (MW a cI cJ he cm ad gw as de eq re co av hi ke sq ab be nw tn th cd))) (vp_Si (fun rr => rr = asS de co (grp he) 6 - elS cm ad (grp he) 36)) 0 0 (fun _ => False) := by
  refine Met.ofW (cc := cX4_debtsNow) (maxL := 4) (ret := (some .int)) (by decide) rfl ?_
  intro pp ee ss mm ar bel mth cde s₁ B hml hv
  obtain ⟨rfl, hP, hK, hE⟩ := hv
  have hx := B.exec
  have hb := B.bytes
  have hr := B.returns
  have hts := atoms_spec (ws := wsX4_debtsNow) B.pre
  have hown : ss.vm.findClass RX4 = some mm.cls := findClass_of_methodNamed B.named
  have hlocks := B.notSynchronized
  have hin : ∀ w ∈ wsX40, w.before ([.ref (a 0)] : List Value).toArray ss = true := fun w h => hts w ((by decide +kernel : ∀ w ∈ wsX40, w ∈ wsX4_debtsNow) w h)
  have hl := lv_entry [.ref (a 0)] (n := 4) (Nat.le_of_ble_eq_true rfl)
  rw [lg_entry_eq]
  generalize (lg_sl [.ref (a 0)] ++ List.replicate (4 - (lg_sl [.ref (a 0)]).length) Slot.unset).toArray = ls at hl ⊢
  have hl : lv_has ls 4 [(0, .ref (a 0))] := hl
  generalize hZ : MQ bel _ _ ss _ _ _ = Z
  refine lv_aload_n hx hb dX4_debtsNow_0 rfl (lv_at hl 0 rfl) ?_
  refine b_csi (v := nI (grp he)) (W.runV (As := []) (rest := []) ⟨hx, hb, hml, hown, hts⟩ (c_X4_groupSet ll D a cI cJ he cm ad gw as de eq re co av hi ke sq ab be nw tn th cd  ) (cwV 0 hts gX4_debtsNow_X4_groupSet rfl rfl rfl (by decide +kernel) ⟨Nat.le_of_ble_eq_true rfl, Nat.le_of_ble_eq_true rfl⟩) ⟨PR.blind, va_recv hK hP (ci := 4) (q0 := 0) rfl rfl, PR.go hP hK hE⟩ rfl rfl hl.1 rfl (lv_room (Nat.le_of_ble_eq_true rfl)) dX4_debtsNow_1 ⟨Nat.le_of_ble_eq_true rfl, Nat.le_of_ble_eq_true rfl⟩) ?_
  have hg6 := grp_lt he
  refine lv_istore_n (lv' := [(1, .int (nI (grp he))), (0, .ref (a 0))]) hx hb dX4_debtsNow_4 rfl hl (by decide) rfl (fun ls hl => ?_)
  refine lv_iconst (v := 0) hx hb dX4_debtsNow_5 (by decide) ?_
  refine lv_istore_n (lv' := [(2, .int (0)), (1, .int (nI (grp he))), (0, .ref (a 0))]) hx hb dX4_debtsNow_6 rfl hl (by decide) rfl (fun ls hl => ?_)
  refine lv_iconst (v := 0) hx hb dX4_debtsNow_7 (by decide) ?_
  refine lv_istore_n (lv' := [(3, .int (0)), (2, .int (0)), (1, .int (nI (grp he))), (0, .ref (a 0))]) hx hb dX4_debtsNow_8 rfl hl (by decide) rfl (fun ls hl => ?_)
  have L1 : ∀ (n1 k1 : Nat), k1 + n1 = 6 → ∀ (ls : Array Slot), lv_has ls 4 [(3, .int (nI (k1))), (2, .int (asS de co (grp he) (k1))), (1, .int (nI (grp he))), (0, .ref (a 0))] → W pp ll ee rmX4_debtsNow ss mm (([.ref (a 0)] : List Value).toArray) bel mth cde ss.heap [] 0 0 Z (F0 mm 9 ls []) := by
    intro n1
    induction n1 with
    | zero =>
      intro k1 hk1  ls hl
      have hk1b : 6 = k1 := by omega
      subst hk1b
      refine lv_iload_n hx hb dX4_debtsNow_9 rfl (lv_at hl 0 rfl) ?_
      refine lv_bipush (v := 6) hx hb dX4_debtsNow_10 (by decide) ?_
      refine lv_icmp_ge (tgt := 45) hx hb dX4_debtsNow_12 (by decide) (fun c_1 => ?_) (fun c_1 => ?_)
      · have n_1 : (6) ≤ (6) := (nI_leI (a := 6) (b := 6) (by omega) (by omega)).mp c_1
        refine lv_iload_n hx hb dX4_debtsNow_45 rfl (lv_at hl 1 rfl) ?_
        refine lv_aload_n hx hb dX4_debtsNow_46 rfl (lv_at hl 3 rfl) ?_
        refine b_csi (v := elS cm ad (grp he) 36) (W.runV (As := []) (rest := [.int (asS de co (grp he) (6))]) ⟨hx, hb, hml, hown, hts⟩ (c_X4_eliminatedNow ll D a cI cJ he cm ad gw as de eq re co av hi ke sq ab be nw tn th cd  ) (cwV 0 hts gX4_debtsNow_X4_eliminatedNow rfl rfl rfl (by decide +kernel) ⟨Nat.le_of_ble_eq_true rfl, Nat.le_of_ble_eq_true rfl⟩) ⟨PR.blind, va_recv hK hP (ci := 4) (q0 := 0) rfl rfl, PR.go hP hK hE⟩ rfl rfl hl.1 rfl (lv_room (Nat.le_of_ble_eq_true rfl)) dX4_debtsNow_47 ⟨Nat.le_of_ble_eq_true rfl, Nat.le_of_ble_eq_true rfl⟩) ?_
        refine lv_isub hx hb dX4_debtsNow_50 ?_
        subst hZ; exact W.iret hx hb hr (fun t ht _ => ⟨_, rfl, rfl, ht⟩) (fun _ h => nomatch h) dX4_debtsNow_51
      · have n_1 : ¬ ((6) ≤ (6)) := fun h => c_1 ((nI_leI (a := 6) (b := 6) (by omega) (by omega)).mpr h)
        exfalso; omega
    | succ n1 ih1 =>
      intro k1 hk1  ls hl
      have hk1b : k1 < 6 := by omega
      refine lv_iload_n hx hb dX4_debtsNow_9 rfl (lv_at hl 0 rfl) ?_
      refine lv_bipush (v := 6) hx hb dX4_debtsNow_10 (by decide) ?_
      refine lv_icmp_ge (tgt := 45) hx hb dX4_debtsNow_12 (by decide) (fun c_2 => ?_) (fun c_2 => ?_)
      · have n_2 : (6) ≤ (k1) := (nI_leI (a := 6) (b := k1) (by omega) (by omega)).mp c_2
        exfalso; omega
      · have n_2 : ¬ ((6) ≤ (k1)) := fun h => c_2 ((nI_leI (a := 6) (b := k1) (by omega) (by omega)).mpr h)
        refine lv_iload_n hx hb dX4_debtsNow_15 rfl (lv_at hl 1 rfl) ?_
        refine lv_iload_n hx hb dX4_debtsNow_16 rfl (lv_at hl 2 rfl) ?_
        refine lv_iload_n hx hb dX4_debtsNow_17 rfl (lv_at hl 0 rfl) ?_
        refine lv_ishr hx hb dX4_debtsNow_18 ?_
        refine b_ti (sh_and (grp he) (k1) (by omega) (by omega)) ?_
        refine lv_iconst (v := 1) hx hb dX4_debtsNow_19 (by decide) ?_
        refine lv_iand hx hb dX4_debtsNow_20 ?_
        refine b_ti (an_1 _ (dv_lt (by omega))) ?_
        refine lv_aload_n hx hb dX4_debtsNow_21 rfl (lv_at hl 3 rfl) ?_
        refine va_get (D := D) (ci := 4) (v := .ref (a 6)) (C := RX4) (T := TX4) (N := 19) (Ts := wsX40) hx hb hin (fun _ h9 => h9) hown hK hP 0 rfl rfl 6 (by decide) (hts (.fieldLink RX4 25 "GroupbooksModel" "debts" "[I") (by decide +kernel)) (fun _ h9 => h9) rfl dX4_debtsNow_22 ?_
        refine lv_iload_n hx hb dX4_debtsNow_25 rfl (lv_at hl 0 rfl) ?_
        refine b_iald hx hb hK hP 6 0 (f := de) rfl rfl (j := k1) (by omega) (by decide) dX4_debtsNow_26 ?_
        refine lv_aload_n hx hb dX4_debtsNow_27 rfl (lv_at hl 3 rfl) ?_
        refine va_get (D := D) (ci := 4) (v := .ref (a 9)) (C := RX4) (T := TX4) (N := 19) (Ts := wsX40) hx hb hin (fun _ h9 => h9) hown hK hP 0 rfl rfl 9 (by decide) (hts (.fieldLink RX4 34 "GroupbooksModel" "closing" "[I") (by decide +kernel)) (fun _ h9 => h9) rfl dX4_debtsNow_28 ?_
        refine lv_iload_n hx hb dX4_debtsNow_31 rfl (lv_at hl 0 rfl) ?_
        refine b_iald hx hb hK hP 9 0 (f := co) rfl rfl (j := k1) (by omega) (by decide) dX4_debtsNow_32 ?_
        refine b_csi (v := trM (de (k1)) (co (k1))) (W.runS (As := [.int (de (k1)), .int (co (k1))]) (rest := [.int (nI ((grp he) / 2 ^ k1 % 2)), .int (asS de co (grp he) (k1))]) ⟨hx, hb, hml, hown, hts⟩ (c_X4_translated ll (de (k1)) (co (k1)) ) (va_cwS 2 hts gX4_debtsNow_X4_translated rfl rfl rfl (by decide +kernel) ⟨Nat.le_of_ble_eq_true rfl, Nat.le_of_ble_eq_true rfl⟩) ⟨PT.blind, PT.to⟩ rfl rfl hl.1 rfl (lv_room (Nat.le_of_ble_eq_true rfl)) dX4_debtsNow_33 ⟨Nat.le_of_ble_eq_true rfl, Nat.le_of_ble_eq_true rfl⟩) ?_
        refine lv_imul hx hb dX4_debtsNow_36 ?_
        refine lv_iadd hx hb dX4_debtsNow_37 ?_
        refine lv_istore_n (lv' := [(2, .int ((asS de co (grp he) (k1)) + ((nI ((grp he) / 2 ^ k1 % 2)) * (trM (de (k1)) (co (k1)))))), (3, .int (nI (k1))), (1, .int (nI (grp he))), (0, .ref (a 0))]) hx hb dX4_debtsNow_38 rfl hl (by decide) rfl (fun ls hl => ?_)
        refine lv_iinc (v := nI (k1 + 1)) (lv' := [(3, .int (nI (k1 + 1))), (2, .int ((asS de co (grp he) (k1)) + ((nI ((grp he) / 2 ^ k1 % 2)) * (trM (de (k1)) (co (k1)))))), (1, .int (nI (grp he))), (0, .ref (a 0))]) hx hb dX4_debtsNow_39 hl (k := 1) rfl (nI_1 (k1)) (by decide) rfl (fun ls hl => ?_)
        refine lv_goto (tgt := 9) hx hb dX4_debtsNow_42 (by decide) ?_
        have e_3 : (asS de co (grp he) (k1 + 1)) = ((asS de co (grp he) (k1)) + ((nI ((grp he) / 2 ^ k1 % 2)) * (trM (de (k1)) (co (k1))))) := by first | rfl | exact if_pos (by assumption) | exact if_neg (by assumption) | (simp only [n_2, Bool.false_eq_true, ↓reduceIte])
        exact ih1 (k1 + 1) (by omega) ls (by rw [e_3]; exact lv_sub hl [0, 1, 2, 3] rfl)
  exact L1 (6) 0 (by omega) ls (lv_sub hl [0, 1, 2, 3] rfl)

abbrev rmX4_minorityNow : Room := ({ frames := 3, cells := 0, slots := 0, locals := 67 } : Room)
set_option maxHeartbeats 4000000 in
set_option maxRecDepth 100000 in
theorem c_X4_minorityNow (ll : Launch) (D : va_G) (a : Nat → Nat) (cI cJ : ClassId) (he cm ad gw as de eq re co av hi ke : Nat → Int32) (sq ab be : Nat → Int64) (nw tn : Nat → Int32) (th cd : Int32) (c : Nat) (hc : c < 6) (hb0 : ¬ be c = 0) : Met ll yX4_minorityNow wsX4_minorityNow rmX4_minorityNow (va_Pc [.ref (a 0), .int (nI (c))] (PR D (tyG cI cJ) (MW a cI cJ he cm ad gw as de eq re co av hi ke sq ab be nw tn th cd))) (vp_Si (fun rr => rr = miV as de co ab be (grp he) c)) 0 0 (fun _ => False) := by
  refine Met.ofW (cc := cX4_minorityNow) (maxL := 2) (ret := (some .int)) (by decide) rfl ?_
  intro pp ee ss mm ar bel mth cde s₁ B hml hv
  obtain ⟨rfl, hP, hK, hE⟩ := hv
  have hx := B.exec
  have hb := B.bytes
  have hr := B.returns
  have hts := atoms_spec (ws := wsX4_minorityNow) B.pre
  have hown : ss.vm.findClass RX4 = some mm.cls := findClass_of_methodNamed B.named
  have hlocks := B.notSynchronized
  have hin : ∀ w ∈ wsX40, w.before ([.ref (a 0), .int (nI (c))] : List Value).toArray ss = true := fun w h => hts w ((by decide +kernel : ∀ w ∈ wsX40, w ∈ wsX4_minorityNow) w h)
  have hl := lv_entry [.ref (a 0), .int (nI (c))] (n := 2) (Nat.le_of_ble_eq_true rfl)
  rw [lg_entry_eq]
  generalize (lg_sl [.ref (a 0), .int (nI (c))] ++ List.replicate (2 - (lg_sl [.ref (a 0), .int (nI (c))]).length) Slot.unset).toArray = ls at hl ⊢
  have hl : lv_has ls 2 [(0, .ref (a 0)), (1, .int (nI (c)))] := hl
  refine lv_aload_n hx hb dX4_minorityNow_0 rfl (lv_at hl 0 rfl) ?_
  refine b_csi (v := nI (grp he)) (W.runV (As := []) (rest := []) ⟨hx, hb, hml, hown, hts⟩ (c_X4_groupSet ll D a cI cJ he cm ad gw as de eq re co av hi ke sq ab be nw tn th cd  ) (cwV 0 hts gX4_minorityNow_X4_groupSet rfl rfl rfl (by decide +kernel) ⟨Nat.le_of_ble_eq_true rfl, Nat.le_of_ble_eq_true rfl⟩) ⟨PR.blind, va_recv hK hP (ci := 4) (q0 := 0) rfl rfl, PR.go hP hK hE⟩ rfl rfl hl.1 rfl (lv_room (Nat.le_of_ble_eq_true rfl)) dX4_minorityNow_1 ⟨Nat.le_of_ble_eq_true rfl, Nat.le_of_ble_eq_true rfl⟩) ?_
  have hg6 := grp_lt he
  refine lv_iload_n hx hb dX4_minorityNow_4 rfl (lv_at hl 1 rfl) ?_
  refine lv_ishr hx hb dX4_minorityNow_5 ?_
  refine b_ti (sh_and (grp he) (c) (by omega) (by omega)) ?_
  refine lv_iconst (v := 1) hx hb dX4_minorityNow_6 (by decide) ?_
  refine lv_iand hx hb dX4_minorityNow_7 ?_
  refine b_ti (an_1 _ (dv_lt (by omega))) ?_
  refine lv_if_ne (tgt := 15) hx hb dX4_minorityNow_8 (by decide) (fun c_1 => ?_) (fun c_1 => ?_)
  · have n_1 : ¬ (((grp he) / 2 ^ c % 2) = (0)) := fun h => c_1 ((nI_eq (a := (grp he) / 2 ^ c % 2) (b := 0) (by omega) (by omega)).mpr h)
    refine lv_aload_n hx hb dX4_minorityNow_15 rfl (lv_at hl 0 rfl) ?_
    refine lv_iload_n hx hb dX4_minorityNow_16 rfl (lv_at hl 1 rfl) ?_
    refine b_csi (v := ntM as de co c) (W.runV (As := [.int (nI (c))]) (rest := []) ⟨hx, hb, hml, hown, hts⟩ (c_X4_net ll D a cI cJ he cm ad gw as de eq re co av hi ke sq ab be nw tn th cd c (by omega)) (cwV 1 hts gX4_minorityNow_X4_net rfl rfl rfl (by decide +kernel) ⟨Nat.le_of_ble_eq_true rfl, Nat.le_of_ble_eq_true rfl⟩) ⟨PR.blind, va_recv hK hP (ci := 4) (q0 := 0) rfl rfl, PR.go hP hK hE⟩ rfl rfl hl.1 rfl (lv_room (Nat.le_of_ble_eq_true rfl)) dX4_minorityNow_17 ⟨Nat.le_of_ble_eq_true rfl, Nat.le_of_ble_eq_true rfl⟩) ?_
    refine lv_i2l (v := (ntM as de co c).toInt64) hx hb dX4_minorityNow_20 rfl ?_
    refine lv_aload_n hx hb dX4_minorityNow_21 rfl (lv_at hl 0 rfl) ?_
    refine va_get (D := D) (ci := 4) (v := .ref (a 15)) (C := RX4) (T := TX4) (N := 19) (Ts := wsX40) hx hb hin (fun _ h9 => h9) hown hK hP 0 rfl rfl 16 (by decide) (hts (.fieldLink RX4 53 "GroupbooksModel" "below" "[J") (by decide +kernel)) (fun _ h9 => h9) rfl dX4_minorityNow_22 ?_
    refine lv_iload_n hx hb dX4_minorityNow_25 rfl (lv_at hl 1 rfl) ?_
    refine b_lald hx hb hK hP 15 1 (f := be) rfl rfl (j := c) (by omega) (by decide) dX4_minorityNow_26 ?_
    refine lv_aload_n hx hb dX4_minorityNow_27 rfl (lv_at hl 0 rfl) ?_
    refine va_get (D := D) (ci := 4) (v := .ref (a 14)) (C := RX4) (T := TX4) (N := 19) (Ts := wsX40) hx hb hin (fun _ h9 => h9) hown hK hP 0 rfl rfl 15 (by decide) (hts (.fieldLink RX4 50 "GroupbooksModel" "above" "[J") (by decide +kernel)) (fun _ h9 => h9) rfl dX4_minorityNow_28 ?_
    refine lv_iload_n hx hb dX4_minorityNow_31 rfl (lv_at hl 1 rfl) ?_
    refine b_lald hx hb hK hP 14 1 (f := ab) rfl rfl (j := c) (by omega) (by decide) dX4_minorityNow_32 ?_
    refine lv_lsub hx hb dX4_minorityNow_33 ?_
    refine lv_lmul hx hb dX4_minorityNow_34 ?_
    refine lv_aload_n hx hb dX4_minorityNow_35 rfl (lv_at hl 0 rfl) ?_
    refine va_get (D := D) (ci := 4) (v := .ref (a 15)) (C := RX4) (T := TX4) (N := 19) (Ts := wsX40) hx hb hin (fun _ h9 => h9) hown hK hP 0 rfl rfl 16 (by decide) (hts (.fieldLink RX4 53 "GroupbooksModel" "below" "[J") (by decide +kernel)) (fun _ h9 => h9) rfl dX4_minorityNow_36 ?_
    refine lv_iload_n hx hb dX4_minorityNow_39 rfl (lv_at hl 1 rfl) ?_
    refine b_lald hx hb hK hP 15 1 (f := be) rfl rfl (j := c) (by omega) (by decide) dX4_minorityNow_40 ?_
    refine b_csl (v := flM (((ntM as de co c).toInt64) * ((be (c)) - (ab (c)))) (be (c))) (W.runS (As := [.long (((ntM as de co c).toInt64) * ((be (c)) - (ab (c)))), .long (be (c))]) (rest := []) ⟨hx, hb, hml, hown, hts⟩ (c_X4_floor ll (((ntM as de co c).toInt64) * ((be (c)) - (ab (c)))) (be (c)) hb0) (va_cwS 2 hts gX4_minorityNow_X4_floor rfl rfl rfl (by decide +kernel) ⟨Nat.le_of_ble_eq_true rfl, Nat.le_of_ble_eq_true rfl⟩) ⟨PT.blind, PT.to⟩ rfl rfl hl.1 rfl (lv_room (Nat.le_of_ble_eq_true rfl)) dX4_minorityNow_41 ⟨Nat.le_of_ble_eq_true rfl, Nat.le_of_ble_eq_true rfl⟩) ?_
    refine lv_l2i (v := (flM (((ntM as de co c).toInt64) * ((be (c)) - (ab (c)))) (be (c))).toInt32) hx hb dX4_minorityNow_44 rfl ?_
    exact W.iret hx hb hr (fun t ht _ => ⟨_, rfl, (by simp only [miV, n_1, Bool.false_eq_true, ↓reduceIte]), ht⟩) (fun _ h => nomatch h) dX4_minorityNow_45
  · have n_1 : ((grp he) / 2 ^ c % 2) = (0) := (nI_eq (a := (grp he) / 2 ^ c % 2) (b := 0) (by omega) (by omega)).mp c_1
    refine lv_iconst (v := 0) hx hb dX4_minorityNow_11 (by decide) ?_
    refine lv_goto (tgt := 45) hx hb dX4_minorityNow_12 (by decide) ?_
    exact W.iret hx hb hr (fun t ht _ => ⟨_, rfl, (by simp only [miV, n_1, Bool.false_eq_true, ↓reduceIte]), ht⟩) (fun _ h => nomatch h) dX4_minorityNow_45
