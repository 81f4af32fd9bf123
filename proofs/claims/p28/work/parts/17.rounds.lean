abbrev rmX2_playRound : Room := ({ frames := 1, cells := 0, slots := 0, locals := 21 } : Room)
set_option maxHeartbeats 4000000 in
set_option maxRecDepth 100000 in
theorem c_X2_playRound (ll : Launch) (D : va_G) (a : Nat → Nat) (cI cJ : ClassId) (sz : Nat) (p : Nat → Int32) (nu de eq : Nat → Int64) (am nx oA oD oE oP cR aR hR cl ad gw pr : Nat → Int32) (n : Int32)   : Met ll yX2_playRound wsX2_playRound rmX2_playRound (va_Pc [.ref (a 1)] (PW D (tyG cI cJ) (GW a cI cJ p nu de eq am nx oA oD oE oP cR aR hR cl ad gw pr n) sz)) (va_Qv (fun (u : Unit) => True) (fun (u : Unit) t => AW D (tyG cI cJ) (va_A (GW a cI cJ p nu de eq am nx oA oD oE oP cR aR hR cl ad gw pr n) sz) (GW a cI cJ p nu de eq (plA am (plN p am nx 5) 5) (plN p am nx 5) oA oD oE oP cR aR hR cl ad gw pr n) t) (va_A (GW a cI cJ p nu de eq am nx oA oD oE oP cR aR hR cl ad gw pr n) sz)) 0 0 (va_A (GW a cI cJ p nu de eq am nx oA oD oE oP cR aR hR cl ad gw pr n) sz) := by
  refine Met.ofW (cc := cX2_playRound) (maxL := 4) (ret := none) (by decide) rfl ?_
  intro pp ee ss mm ar bel mth cd s₁ B hml hv
  obtain ⟨rfl, hsz, hP, hK, hD0, hE⟩ := hv
  have hx := B.exec
  have hb := B.bytes
  have hr := B.returns
  have hts := atoms_spec (ws := wsX2_playRound) B.pre
  have hown : ss.vm.findClass RX2 = some mm.cls := findClass_of_methodNamed B.named
  have hlocks := B.notSynchronized
  subst hsz
  have hD := hD0.self (sz := ss.heap.size)
  generalize hAe : va_A (GW a cI cJ p nu de eq am nx oA oD oE oP cR aR hR cl ad gw pr n) ss.heap.size = A at hD ⊢
  have hA : ∀ q : Nat, ss.heap.size ≤ q → A q := fun q h => by rw [← hAe]; exact Or.inr h
  have hS : va_S A ss.heap ss.heap [] := va_S.rf
  have hin : ∀ w ∈ wsX20, w.before ([.ref (a 1)] : List Value).toArray ss = true := fun w h => hts w ((by decide +kernel : ∀ w ∈ wsX20, w ∈ wsX2_playRound) w h)
  have hl := lv_entry [.ref (a 1)] (n := 4) (Nat.le_of_ble_eq_true rfl)
  rw [lg_entry_eq]
  generalize (lg_sl [.ref (a 1)] ++ List.replicate (4 - (lg_sl [.ref (a 1)]).length) Slot.unset).toArray = ls at hl ⊢
  have hl : lv_has ls 4 [(0, .ref (a 1))] := hl
  generalize hZ : MQ bel _ _ ss _ _ _ = Z
  refine lv_iconst (v := 1) hx hb dX2_playRound_0 (by decide) ?_
  refine lv_istore_n (lv' := [(1, .int (1)), (0, .ref (a 1))]) hx hb dX2_playRound_1 rfl hl (by decide) rfl (fun ls hl => ?_)
  have L1 : ∀ (n1 k1 : Nat), k1 + n1 = 5 → ∀ (H : Heap) (locs : List Loc) (ls : Array Slot), va_P D vwCl (GW a cI cJ p nu de eq am (plN p am nx (k1)) oA oD oE oP cR aR hR cl ad gw pr n) H → va_D A (GW a cI cJ p nu de eq am (plN p am nx (k1)) oA oD oE oP cR aR hR cl ad gw pr n) → va_S A ss.heap H locs → lv_has ls 4 [(1, .int (nI (k1 + 1))), (0, .ref (a 1))] → W pp ll ee rmX2_playRound ss mm (([.ref (a 1)] : List Value).toArray) bel mth cd H locs 0 0 Z (F0 mm 2 ls []) := by
    intro n1
    induction n1 with
    | zero =>
      intro k1 hk1  H locs ls hP hD hS hl
      have hk1b : 5 = k1 := by omega
      subst hk1b
      refine lv_iload_n hx hb dX2_playRound_2 rfl (lv_at hl 0 rfl) ?_
      refine lv_bipush (v := 6) hx hb dX2_playRound_3 (by decide) ?_
      refine lv_icmp_ge (tgt := 60) hx hb dX2_playRound_5 (by decide) (fun c_1 => ?_) (fun c_1 => ?_)
      · have n_1 : (6) ≤ (5 + 1) := (nI_leI (a := 6) (b := 5 + 1) (by omega) (by omega)).mp c_1
        refine lv_iconst (v := 1) hx hb dX2_playRound_60 (by decide) ?_
        refine lv_istore_n (lv' := [(1, .int (1)), (0, .ref (a 1))]) hx hb dX2_playRound_61 rfl hl (by decide) rfl (fun ls hl => ?_)
        have L2 : ∀ (n2 k2 : Nat), k2 + n2 = 5 → ∀ (H : Heap) (locs : List Loc) (ls : Array Slot), va_P D vwCl (GW a cI cJ p nu de eq (plA am (plN p am nx 5) (k2)) (plN p am nx (5)) oA oD oE oP cR aR hR cl ad gw pr n) H → va_D A (GW a cI cJ p nu de eq (plA am (plN p am nx 5) (k2)) (plN p am nx (5)) oA oD oE oP cR aR hR cl ad gw pr n) → va_S A ss.heap H locs → lv_has ls 4 [(1, .int (nI (k2 + 1))), (0, .ref (a 1))] → W pp ll ee rmX2_playRound ss mm (([.ref (a 1)] : List Value).toArray) bel mth cd H locs 0 0 Z (F0 mm 62 ls []) := by
          intro n2
          induction n2 with
          | zero =>
            intro k2 hk2  H locs ls hP hD hS hl
            have hk2b : 5 = k2 := by omega
            subst hk2b
            refine lv_iload_n hx hb dX2_playRound_62 rfl (lv_at hl 0 rfl) ?_
            refine lv_bipush (v := 6) hx hb dX2_playRound_63 (by decide) ?_
            refine lv_icmp_ge (tgt := 86) hx hb dX2_playRound_65 (by decide) (fun c_2 => ?_) (fun c_2 => ?_)
            · have n_2 : (6) ≤ (5 + 1) := (nI_leI (a := 6) (b := 5 + 1) (by omega) (by omega)).mp c_2
              have e_3 : plA am (plN p am nx 5) 5 = plA am (plN p am nx 5) (5) := by first | rfl | exact if_pos (by assumption) | exact if_neg (by assumption) | (simp only [n_1, n_2, Bool.false_eq_true, ↓reduceIte])
              have e_4 : plN p am nx 5 = plN p am nx (5) := by first | rfl | exact if_pos (by assumption) | exact if_neg (by assumption) | (simp only [n_1, n_2, Bool.false_eq_true, ↓reduceIte])
              subst hZ; exact W.vret hx hb hr (fun t ht hW => ⟨⟨(), rfl, trivial, (by rw [ht]; exact (by rw [e_3, e_4]; exact hP)), va_K.moved hW.alike hK, (by rw [e_3, e_4]; exact hD)⟩, hS.F ht⟩) hS.2.2 dX2_playRound_86
            · have n_2 : ¬ ((6) ≤ (5 + 1)) := fun h => c_2 ((nI_leI (a := 6) (b := 5 + 1) (by omega) (by omega)).mpr h)
              exfalso; omega
          | succ n2 ih2 =>
            intro k2 hk2  H locs ls hP hD hS hl
            have hk2b : k2 < 5 := by omega
            refine lv_iload_n hx hb dX2_playRound_62 rfl (lv_at hl 0 rfl) ?_
            refine lv_bipush (v := 6) hx hb dX2_playRound_63 (by decide) ?_
            refine lv_icmp_ge (tgt := 86) hx hb dX2_playRound_65 (by decide) (fun c_5 => ?_) (fun c_5 => ?_)
            · have n_5 : (6) ≤ (k2 + 1) := (nI_leI (a := 6) (b := k2 + 1) (by omega) (by omega)).mp c_5
              exfalso; omega
            · have n_5 : ¬ ((6) ≤ (k2 + 1)) := fun h => c_5 ((nI_leI (a := 6) (b := k2 + 1) (by omega) (by omega)).mpr h)
              refine lv_aload_n hx hb dX2_playRound_68 rfl (lv_at hl 1 rfl) ?_
              refine va_get (D := D) (ci := 2) (v := .ref (a 10)) (C := RX2) (T := TX2) (N := 6) (Ts := wsX20) hx hb hin (fun _ h9 => h9) hown hK hP 1 rfl rfl 4 (by decide) (hts (.fieldLink RX2 25 "Groupbooks$Holdings" "amounts" "[I") (by decide +kernel)) (fun _ h9 => h9) rfl dX2_playRound_69 ?_
              refine lv_iload_n hx hb dX2_playRound_72 rfl (lv_at hl 0 rfl) ?_
              refine lv_aload_n hx hb dX2_playRound_73 rfl (lv_at hl 1 rfl) ?_
              refine va_get (D := D) (ci := 2) (v := .ref (a 11)) (C := RX2) (T := TX2) (N := 6) (Ts := wsX20) hx hb hin (fun _ h9 => h9) hown hK hP 1 rfl rfl 5 (by decide) (hts (.fieldLink RX2 28 "Groupbooks$Holdings" "nextAmounts" "[I") (by decide +kernel)) (fun _ h9 => h9) rfl dX2_playRound_74 ?_
              refine lv_iload_n hx hb dX2_playRound_77 rfl (lv_at hl 0 rfl) ?_
              refine b_iald hx hb hK hP 11 0 (f := (plN p am nx (5))) rfl rfl (j := k2 + 1) (by omega) (by decide) dX2_playRound_78 ?_
              refine b_iast (w' := GW a cI cJ p nu de eq (upd (plA am (plN p am nx 5) (k2)) (k2 + 1) ((plN p am nx (5)) (k2 + 1))) (plN p am nx (5)) oA oD oE oP cR aR hR cl ad gw pr n) hx hb hK hP hD hS 10 0 (f := (plA am (plN p am nx 5) (k2))) rfl rfl (j := k2 + 1) (by omega) (by decide) rfl dX2_playRound_79 (fun H locs hP hD hS => ?_)
              refine lv_iinc (v := nI (k2 + 1 + 1)) (lv' := [(1, .int (nI (k2 + 1 + 1))), (0, .ref (a 1))]) hx hb dX2_playRound_80 hl (k := 0) rfl (nI_1 (k2 + 1)) (by decide) rfl (fun ls hl => ?_)
              refine lv_goto (tgt := 62) hx hb dX2_playRound_83 (by decide) ?_
              have e_6 : plA am (plN p am nx 5) (k2 + 1) = upd (plA am (plN p am nx 5) (k2)) (k2 + 1) ((plN p am nx (5)) (k2 + 1)) := by first | rfl | exact if_pos (by assumption) | exact if_neg (by assumption) | (simp only [n_1, n_5, Bool.false_eq_true, ↓reduceIte])
              exact ih2 (k2 + 1) (by omega) _ _ ls (by rw [e_6]; exact hP) (by rw [e_6]; exact hD) hS (lv_sub hl [0, 1] rfl)
        exact L2 (5) 0 (by omega) _ _ ls hP hD hS (lv_sub hl [0, 1] rfl)
      · have n_1 : ¬ ((6) ≤ (5 + 1)) := fun h => c_1 ((nI_leI (a := 6) (b := 5 + 1) (by omega) (by omega)).mpr h)
        exfalso; omega
    | succ n1 ih1 =>
      intro k1 hk1  H locs ls hP hD hS hl
      have hk1b : k1 < 5 := by omega
      refine lv_iload_n hx hb dX2_playRound_2 rfl (lv_at hl 0 rfl) ?_
      refine lv_bipush (v := 6) hx hb dX2_playRound_3 (by decide) ?_
      refine lv_icmp_ge (tgt := 60) hx hb dX2_playRound_5 (by decide) (fun c_7 => ?_) (fun c_7 => ?_)
      · have n_7 : (6) ≤ (k1 + 1) := (nI_leI (a := 6) (b := k1 + 1) (by omega) (by omega)).mp c_7
        exfalso; omega
      · have n_7 : ¬ ((6) ≤ (k1 + 1)) := fun h => c_7 ((nI_leI (a := 6) (b := k1 + 1) (by omega) (by omega)).mpr h)
        refine lv_iconst (v := 0) hx hb dX2_playRound_8 (by decide) ?_
        refine lv_istore_n (lv' := [(2, .int (0)), (1, .int (nI (k1 + 1))), (0, .ref (a 1))]) hx hb dX2_playRound_9 rfl hl (by decide) rfl (fun ls hl => ?_)
        refine lv_iconst (v := 0) hx hb dX2_playRound_10 (by decide) ?_
        refine lv_istore_n (lv' := [(3, .int (0)), (2, .int (0)), (1, .int (nI (k1 + 1))), (0, .ref (a 1))]) hx hb dX2_playRound_11 rfl hl (by decide) rfl (fun ls hl => ?_)
        have L3 : ∀ (n3 j3 : Nat), j3 + n3 = 6 → ∀ (H : Heap) (locs : List Loc) (ls : Array Slot), va_P D vwCl (GW a cI cJ p nu de eq am (plN p am nx (k1)) oA oD oE oP cR aR hR cl ad gw pr n) H → va_D A (GW a cI cJ p nu de eq am (plN p am nx (k1)) oA oD oE oP cR aR hR cl ad gw pr n) → va_S A ss.heap H locs → lv_has ls 4 [(3, .int (nI (j3))), (2, .int (sI (fun o => p (6 * o + (k1 + 1)) * am o) (j3))), (1, .int (nI (k1 + 1))), (0, .ref (a 1))] → W pp ll ee rmX2_playRound ss mm (([.ref (a 1)] : List Value).toArray) bel mth cd H locs 0 0 Z (F0 mm 12 ls []) := by
          intro n3
          induction n3 with
          | zero =>
            intro j3 hk3  H locs ls hP hD hS hl
            have hk3b : 6 = j3 := by omega
            subst hk3b
            refine lv_iload_n hx hb dX2_playRound_12 rfl (lv_at hl 0 rfl) ?_
            refine lv_bipush (v := 6) hx hb dX2_playRound_13 (by decide) ?_
            refine lv_icmp_ge (tgt := 44) hx hb dX2_playRound_15 (by decide) (fun c_8 => ?_) (fun c_8 => ?_)
            · have n_8 : (6) ≤ (6) := (nI_leI (a := 6) (b := 6) (by omega) (by omega)).mp c_8
              refine lv_aload_n hx hb dX2_playRound_44 rfl (lv_at hl 3 rfl) ?_
              refine va_get (D := D) (ci := 2) (v := .ref (a 11)) (C := RX2) (T := TX2) (N := 6) (Ts := wsX20) hx hb hin (fun _ h9 => h9) hown hK hP 1 rfl rfl 5 (by decide) (hts (.fieldLink RX2 28 "Groupbooks$Holdings" "nextAmounts" "[I") (by decide +kernel)) (fun _ h9 => h9) rfl dX2_playRound_45 ?_
              refine lv_iload_n hx hb dX2_playRound_48 rfl (lv_at hl 2 rfl) ?_
              refine lv_iload_n hx hb dX2_playRound_49 rfl (lv_at hl 1 rfl) ?_
              refine lv_bipush (v := 100) hx hb dX2_playRound_50 (by decide) ?_
              refine lv_idiv hx hb dX2_playRound_52 (by decide) ?_
              refine b_iast (w' := GW a cI cJ p nu de eq am (upd (plN p am nx (k1)) (k1 + 1) ((sI (fun o => p (6 * o + (k1 + 1)) * am o) (6)) / (100))) oA oD oE oP cR aR hR cl ad gw pr n) hx hb hK hP hD hS 11 0 (f := (plN p am nx (k1))) rfl rfl (j := k1 + 1) (by omega) (by decide) rfl dX2_playRound_53 (fun H locs hP hD hS => ?_)
              refine lv_iinc (v := nI (k1 + 1 + 1)) (lv' := [(1, .int (nI (k1 + 1 + 1))), (3, .int (nI (6))), (2, .int (sI (fun o => p (6 * o + (k1 + 1)) * am o) (6))), (0, .ref (a 1))]) hx hb dX2_playRound_54 hl (k := 2) rfl (nI_1 (k1 + 1)) (by decide) rfl (fun ls hl => ?_)
              refine lv_goto (tgt := 2) hx hb dX2_playRound_57 (by decide) ?_
              have e_9 : plN p am nx (k1 + 1) = upd (plN p am nx (k1)) (k1 + 1) ((sI (fun o => p (6 * o + (k1 + 1)) * am o) (6)) / (100)) := by first | rfl | exact if_pos (by assumption) | exact if_neg (by assumption) | (simp only [n_7, n_8, Bool.false_eq_true, ↓reduceIte])
              exact ih1 (k1 + 1) (by omega) _ _ ls (by rw [e_9]; exact hP) (by rw [e_9]; exact hD) hS (lv_sub hl [0, 3] rfl)
            · have n_8 : ¬ ((6) ≤ (6)) := fun h => c_8 ((nI_leI (a := 6) (b := 6) (by omega) (by omega)).mpr h)
              exfalso; omega
          | succ n3 ih3 =>
            intro j3 hk3  H locs ls hP hD hS hl
            have hk3b : j3 < 6 := by omega
            refine lv_iload_n hx hb dX2_playRound_12 rfl (lv_at hl 0 rfl) ?_
            refine lv_bipush (v := 6) hx hb dX2_playRound_13 (by decide) ?_
            refine lv_icmp_ge (tgt := 44) hx hb dX2_playRound_15 (by decide) (fun c_10 => ?_) (fun c_10 => ?_)
            · have n_10 : (6) ≤ (j3) := (nI_leI (a := 6) (b := j3) (by omega) (by omega)).mp c_10
              exfalso; omega
            · have n_10 : ¬ ((6) ≤ (j3)) := fun h => c_10 ((nI_leI (a := 6) (b := j3) (by omega) (by omega)).mpr h)
              refine lv_iload_n hx hb dX2_playRound_18 rfl (lv_at hl 1 rfl) ?_
              refine lv_aload_n hx hb dX2_playRound_19 rfl (lv_at hl 3 rfl) ?_
              refine va_get (D := D) (ci := 2) (v := .ref (a 6)) (C := RX2) (T := TX2) (N := 6) (Ts := wsX20) hx hb hin (fun _ h9 => h9) hown hK hP 1 rfl rfl 0 (by decide) (hts (.fieldLink RX2 9 "Groupbooks$Holdings" "percents" "[I") (by decide +kernel)) (fun _ h9 => h9) rfl dX2_playRound_20 ?_
              refine lv_iload_n hx hb dX2_playRound_23 rfl (lv_at hl 0 rfl) ?_
              refine lv_iload_n hx hb dX2_playRound_24 rfl (lv_at hl 2 rfl) ?_
              refine b_csi (v := nI (6 * j3 + (k1 + 1))) ((va_runSN (As := [.int (nI (j3)), .int (nI (k1 + 1))]) (rest := [.ref (a 6), .int (sI (fun o => p (6 * o + (k1 + 1)) * am o) (j3))]) ⟨hx, hb, hml, hown, hts⟩ (c_X3_pair ll j3 (k1 + 1) ) ⟨va_cnB 2 hts gX2_playRound_X3_pair_n31 rfl rfl rfl (hE.nest 5 rfl) (hts (.initialized RX3) (by decide +kernel)) (by decide +kernel) ⟨Nat.le_of_ble_eq_true rfl, Nat.le_of_ble_eq_true rfl⟩, hts (.static yX3_pair) (by decide +kernel), trivial⟩ ⟨PT.blind, PT.to⟩ rfl rfl hl.1 rfl (lv_room (Nat.le_of_ble_eq_true rfl)) dX2_playRound_25 ⟨Nat.le_of_ble_eq_true rfl, Nat.le_of_ble_eq_true rfl⟩).run) ?_
              refine b_iald hx hb hK hP 6 0 (f := p) rfl rfl (j := 6 * j3 + (k1 + 1)) (by omega) (by decide) dX2_playRound_28 ?_
              refine lv_aload_n hx hb dX2_playRound_29 rfl (lv_at hl 3 rfl) ?_
              refine va_get (D := D) (ci := 2) (v := .ref (a 10)) (C := RX2) (T := TX2) (N := 6) (Ts := wsX20) hx hb hin (fun _ h9 => h9) hown hK hP 1 rfl rfl 4 (by decide) (hts (.fieldLink RX2 25 "Groupbooks$Holdings" "amounts" "[I") (by decide +kernel)) (fun _ h9 => h9) rfl dX2_playRound_30 ?_
              refine lv_iload_n hx hb dX2_playRound_33 rfl (lv_at hl 0 rfl) ?_
              refine b_iald hx hb hK hP 10 0 (f := am) rfl rfl (j := j3) (by omega) (by decide) dX2_playRound_34 ?_
              refine lv_imul hx hb dX2_playRound_35 ?_
              refine lv_iadd hx hb dX2_playRound_36 ?_
              refine lv_istore_n (lv' := [(2, .int ((sI (fun o => p (6 * o + (k1 + 1)) * am o) (j3)) + ((p (6 * j3 + (k1 + 1))) * (am (j3))))), (3, .int (nI (j3))), (1, .int (nI (k1 + 1))), (0, .ref (a 1))]) hx hb dX2_playRound_37 rfl hl (by decide) rfl (fun ls hl => ?_)
              refine lv_iinc (v := nI (j3 + 1)) (lv' := [(3, .int (nI (j3 + 1))), (2, .int ((sI (fun o => p (6 * o + (k1 + 1)) * am o) (j3)) + ((p (6 * j3 + (k1 + 1))) * (am (j3))))), (1, .int (nI (k1 + 1))), (0, .ref (a 1))]) hx hb dX2_playRound_38 hl (k := 1) rfl (nI_1 (j3)) (by decide) rfl (fun ls hl => ?_)
              refine lv_goto (tgt := 12) hx hb dX2_playRound_41 (by decide) ?_
              have e_11 : sI (fun o => p (6 * o + (k1 + 1)) * am o) (j3 + 1) = (sI (fun o => p (6 * o + (k1 + 1)) * am o) (j3)) + ((p (6 * j3 + (k1 + 1))) * (am (j3))) := by first | rfl | exact if_pos (by assumption) | exact if_neg (by assumption) | (simp only [n_7, n_10, Bool.false_eq_true, ↓reduceIte])
              exact ih3 (j3 + 1) (by omega) _ _ ls hP hD hS (by rw [e_11]; exact lv_sub hl [0, 1, 2, 3] rfl)
        exact L3 (6) 0 (by omega) _ _ ls hP hD hS (lv_sub hl [0, 1, 2, 3] rfl)
  exact L1 (5) 0 (by omega) _ _ ls hP hD hS (lv_sub hl [0, 1] rfl)

abbrev rmX2_millionthsAfter : Room := ({ frames := 2, cells := 0, slots := 0, locals := 44 } : Room)
set_option maxHeartbeats 4000000 in
set_option maxRecDepth 100000 in
theorem c_X2_millionthsAfter (ll : Launch) (D : va_G) (a : Nat → Nat) (cI cJ : ClassId) (sz : Nat) (p : Nat → Int32) (nu de eq : Nat → Int64) (am nx oA oD oE oP cR aR hR cl ad gw pr : Nat → Int32) (n : Int32) (nr c : Nat) (hn : nr ≤ 200) (hc : c < 6) : Met ll yX2_millionthsAfter wsX2_millionthsAfter rmX2_millionthsAfter (va_Pc [.ref (a 1), .int (nI (nr)), .int (nI (c))] (PW D (tyG cI cJ) (GW a cI cJ p nu de eq am nx oA oD oE oP cR aR hR cl ad gw pr n) sz)) (va_Qi (fun (rr : Int32) (u : Unit) => rr = (mr p am nx nr).1 c) (fun (u : Unit) t => AW D (tyG cI cJ) (va_A (GW a cI cJ p nu de eq am nx oA oD oE oP cR aR hR cl ad gw pr n) sz) (GW a cI cJ p nu de eq ((mr p am nx nr).1) ((mr p am nx nr).2) oA oD oE oP cR aR hR cl ad gw pr n) t) (va_A (GW a cI cJ p nu de eq am nx oA oD oE oP cR aR hR cl ad gw pr n) sz)) 0 0 (va_A (GW a cI cJ p nu de eq am nx oA oD oE oP cR aR hR cl ad gw pr n) sz) := by
  refine Met.ofW (cc := cX2_millionthsAfter) (maxL := 4) (ret := (some .int)) (by decide) rfl ?_
  intro pp ee ss mm ar bel mth cd s₁ B hml hv
  obtain ⟨rfl, hsz, hP, hK, hD0, hE⟩ := hv
  have hx := B.exec
  have hb := B.bytes
  have hr := B.returns
  have hts := atoms_spec (ws := wsX2_millionthsAfter) B.pre
  have hown : ss.vm.findClass RX2 = some mm.cls := findClass_of_methodNamed B.named
  have hlocks := B.notSynchronized
  subst hsz
  have hD := hD0.self (sz := ss.heap.size)
  generalize hAe : va_A (GW a cI cJ p nu de eq am nx oA oD oE oP cR aR hR cl ad gw pr n) ss.heap.size = A at hD ⊢
  have hA : ∀ q : Nat, ss.heap.size ≤ q → A q := fun q h => by rw [← hAe]; exact Or.inr h
  have hS : va_S A ss.heap ss.heap [] := va_S.rf
  have hin : ∀ w ∈ wsX20, w.before ([.ref (a 1), .int (nI (nr)), .int (nI (c))] : List Value).toArray ss = true := fun w h => hts w ((by decide +kernel : ∀ w ∈ wsX20, w ∈ wsX2_millionthsAfter) w h)
  have hl := lv_entry [.ref (a 1), .int (nI (nr)), .int (nI (c))] (n := 4) (Nat.le_of_ble_eq_true rfl)
  rw [lg_entry_eq]
  generalize (lg_sl [.ref (a 1), .int (nI (nr)), .int (nI (c))] ++ List.replicate (4 - (lg_sl [.ref (a 1), .int (nI (nr)), .int (nI (c))]).length) Slot.unset).toArray = ls at hl ⊢
  have hl : lv_has ls 4 [(0, .ref (a 1)), (1, .int (nI (nr))), (2, .int (nI (c)))] := hl
  generalize hZ : MQ bel _ _ ss _ _ _ = Z
  refine lv_iconst (v := 0) hx hb dX2_millionthsAfter_0 (by decide) ?_
  refine lv_istore_n (lv' := [(3, .int (0)), (0, .ref (a 1)), (1, .int (nI (nr))), (2, .int (nI (c)))]) hx hb dX2_millionthsAfter_1 rfl hl (by decide) rfl (fun ls hl => ?_)
  have L1 : ∀ (n1 k1 : Nat), k1 + n1 = 6 → ∀ (H : Heap) (locs : List Loc) (ls : Array Slot), va_P D vwCl (GW a cI cJ p nu de eq (miA am (k1)) nx oA oD oE oP cR aR hR cl ad gw pr n) H → va_D A (GW a cI cJ p nu de eq (miA am (k1)) nx oA oD oE oP cR aR hR cl ad gw pr n) → va_S A ss.heap H locs → lv_has ls 4 [(3, .int (nI (k1))), (0, .ref (a 1)), (1, .int (nI (nr))), (2, .int (nI (c)))] → W pp ll ee rmX2_millionthsAfter ss mm (([.ref (a 1), .int (nI (nr)), .int (nI (c))] : List Value).toArray) bel mth cd H locs 0 0 Z (F0 mm 2 ls []) := by
    intro n1
    induction n1 with
    | zero =>
      intro k1 hk1  H locs ls hP hD hS hl
      have hk1b : 6 = k1 := by omega
      subst hk1b
      refine lv_iload_n hx hb dX2_millionthsAfter_2 rfl (lv_at hl 0 rfl) ?_
      refine lv_bipush (v := 6) hx hb dX2_millionthsAfter_3 (by decide) ?_
      refine lv_icmp_ge (tgt := 30) hx hb dX2_millionthsAfter_5 (by decide) (fun c_1 => ?_) (fun c_1 => ?_)
      · have n_1 : (6) ≤ (6) := (nI_leI (a := 6) (b := 6) (by omega) (by omega)).mp c_1
        refine lv_iconst (v := 0) hx hb dX2_millionthsAfter_30 (by decide) ?_
        refine lv_istore_n (lv' := [(3, .int (0)), (0, .ref (a 1)), (1, .int (nI (nr))), (2, .int (nI (c)))]) hx hb dX2_millionthsAfter_31 rfl hl (by decide) rfl (fun ls hl => ?_)
        have L2 : ∀ (n2 j2 : Nat), j2 + n2 = nr → ∀ (H : Heap) (locs : List Loc) (ls : Array Slot), va_P D vwCl (GW a cI cJ p nu de eq ((mr p am nx (j2)).1) ((mr p am nx (j2)).2) oA oD oE oP cR aR hR cl ad gw pr n) H → va_D A (GW a cI cJ p nu de eq ((mr p am nx (j2)).1) ((mr p am nx (j2)).2) oA oD oE oP cR aR hR cl ad gw pr n) → va_S A ss.heap H locs → lv_has ls 4 [(3, .int (nI (j2))), (0, .ref (a 1)), (1, .int (nI (nr))), (2, .int (nI (c)))] → W pp ll ee rmX2_millionthsAfter ss mm (([.ref (a 1), .int (nI (nr)), .int (nI (c))] : List Value).toArray) bel mth cd H locs 0 0 Z (F0 mm 32 ls []) := by
          intro n2
          induction n2 with
          | zero =>
            intro j2 hk2  H locs ls hP hD hS hl
            have hk2b : nr = j2 := by omega
            subst hk2b
            refine lv_iload_n hx hb dX2_millionthsAfter_32 rfl (lv_at hl 0 rfl) ?_
            refine lv_iload_n hx hb dX2_millionthsAfter_33 rfl (lv_at hl 2 rfl) ?_
            refine lv_icmp_ge (tgt := 47) hx hb dX2_millionthsAfter_34 (by decide) (fun c_2 => ?_) (fun c_2 => ?_)
            · have n_2 : (nr) ≤ (nr) := (nI_leI (a := nr) (b := nr) (by omega) (by omega)).mp c_2
              refine lv_aload_n hx hb dX2_millionthsAfter_47 rfl (lv_at hl 1 rfl) ?_
              refine va_get (D := D) (ci := 2) (v := .ref (a 10)) (C := RX2) (T := TX2) (N := 6) (Ts := wsX20) hx hb hin (fun _ h9 => h9) hown hK hP 1 rfl rfl 4 (by decide) (hts (.fieldLink RX2 25 "Groupbooks$Holdings" "amounts" "[I") (by decide +kernel)) (fun _ h9 => h9) rfl dX2_millionthsAfter_48 ?_
              refine lv_iload_n hx hb dX2_millionthsAfter_51 rfl (lv_at hl 3 rfl) ?_
              refine b_iald hx hb hK hP 10 0 (f := ((mr p am nx (nr)).1)) rfl rfl (j := c) (by omega) (by decide) dX2_millionthsAfter_52 ?_
              have e_3 : (mr p am nx nr).1 = (mr p am nx (nr)).1 := by first | rfl | exact if_pos (by assumption) | exact if_neg (by assumption) | (simp only [mr, n_1, n_2, Bool.false_eq_true, ↓reduceIte])
              have e_4 : (mr p am nx nr).2 = (mr p am nx (nr)).2 := by first | rfl | exact if_pos (by assumption) | exact if_neg (by assumption) | (simp only [mr, n_1, n_2, Bool.false_eq_true, ↓reduceIte])
              subst hZ; exact W.iret hx hb hr (fun t ht hW => ⟨⟨_, (), rfl, rfl, (by rw [ht]; exact (by rw [e_3, e_4]; exact hP)), va_K.moved hW.alike hK, (by rw [e_3, e_4]; exact hD)⟩, hS.F ht⟩) hS.2.2 dX2_millionthsAfter_53
            · have n_2 : ¬ ((nr) ≤ (nr)) := fun h => c_2 ((nI_leI (a := nr) (b := nr) (by omega) (by omega)).mpr h)
              exfalso; omega
          | succ n2 ih2 =>
            intro j2 hk2  H locs ls hP hD hS hl
            have hk2b : j2 < nr := by omega
            refine lv_iload_n hx hb dX2_millionthsAfter_32 rfl (lv_at hl 0 rfl) ?_
            refine lv_iload_n hx hb dX2_millionthsAfter_33 rfl (lv_at hl 2 rfl) ?_
            refine lv_icmp_ge (tgt := 47) hx hb dX2_millionthsAfter_34 (by decide) (fun c_5 => ?_) (fun c_5 => ?_)
            · have n_5 : (nr) ≤ (j2) := (nI_leI (a := nr) (b := j2) (by omega) (by omega)).mp c_5
              exfalso; omega
            · have n_5 : ¬ ((nr) ≤ (j2)) := fun h => c_5 ((nI_leI (a := nr) (b := j2) (by omega) (by omega)).mpr h)
              refine lv_aload_n hx hb dX2_millionthsAfter_37 rfl (lv_at hl 1 rfl) ?_
              refine b_callv0 (S := Unit) (w' := fun u => GW a cI cJ p nu de eq (plA ((mr p am nx (j2)).1) (plN p ((mr p am nx (j2)).1) ((mr p am nx (j2)).2) 5) 5) (plN p ((mr p am nx (j2)).1) ((mr p am nx (j2)).2) 5) oA oD oE oP cR aR hR cl ad gw pr n) hP hD hS hA (va_runV (As := []) (rest := []) ⟨hx, hb, hml, hown, hts⟩ (c_X2_playRound ll D a cI cJ _ p nu de eq ((mr p am nx (j2)).1) ((mr p am nx (j2)).2) oA oD oE oP cR aR hR cl ad gw pr n  ) (cwV 0 hts gX2_millionthsAfter_X2_playRound rfl rfl rfl (by decide +kernel) ⟨Nat.le_of_ble_eq_true rfl, Nat.le_of_ble_eq_true rfl⟩) ⟨PW.blind, va_recv hK hP (ci := 2) (q0 := 1) rfl rfl, PW.go hP hK hD hE⟩ rfl rfl hl.1 rfl (lv_room (Nat.le_of_ble_eq_true rfl)) dX2_millionthsAfter_38 ⟨Nat.le_of_ble_eq_true rfl, Nat.le_of_ble_eq_true rfl⟩) (fun u H locs h_6 hP hD hS => ?_)
              refine lv_iinc (v := nI (j2 + 1)) (lv' := [(3, .int (nI (j2 + 1))), (0, .ref (a 1)), (1, .int (nI (nr))), (2, .int (nI (c)))]) hx hb dX2_millionthsAfter_41 hl (k := 0) rfl (nI_1 (j2)) (by decide) rfl (fun ls hl => ?_)
              refine lv_goto (tgt := 32) hx hb dX2_millionthsAfter_44 (by decide) ?_
              have e_7 : (mr p am nx (j2 + 1)).1 = plA ((mr p am nx (j2)).1) (plN p ((mr p am nx (j2)).1) ((mr p am nx (j2)).2) 5) 5 := by first | rfl | exact if_pos (by assumption) | exact if_neg (by assumption) | (simp only [n_1, n_5, Bool.false_eq_true, ↓reduceIte])
              have e_8 : (mr p am nx (j2 + 1)).2 = plN p ((mr p am nx (j2)).1) ((mr p am nx (j2)).2) 5 := by first | rfl | exact if_pos (by assumption) | exact if_neg (by assumption) | (simp only [n_1, n_5, Bool.false_eq_true, ↓reduceIte])
              exact ih2 (j2 + 1) (by omega) _ _ ls (by rw [e_7, e_8]; exact hP) (by rw [e_7, e_8]; exact hD) hS (lv_sub hl [0, 1, 2, 3] rfl)
        exact L2 (nr) 0 (by omega) _ _ ls hP hD hS (lv_sub hl [0, 1, 2, 3] rfl)
      · have n_1 : ¬ ((6) ≤ (6)) := fun h => c_1 ((nI_leI (a := 6) (b := 6) (by omega) (by omega)).mpr h)
        exfalso; omega
    | succ n1 ih1 =>
      intro k1 hk1  H locs ls hP hD hS hl
      have hk1b : k1 < 6 := by omega
      refine lv_iload_n hx hb dX2_millionthsAfter_2 rfl (lv_at hl 0 rfl) ?_
      refine lv_bipush (v := 6) hx hb dX2_millionthsAfter_3 (by decide) ?_
      refine lv_icmp_ge (tgt := 30) hx hb dX2_millionthsAfter_5 (by decide) (fun c_9 => ?_) (fun c_9 => ?_)
      · have n_9 : (6) ≤ (k1) := (nI_leI (a := 6) (b := k1) (by omega) (by omega)).mp c_9
        exfalso; omega
      · have n_9 : ¬ ((6) ≤ (k1)) := fun h => c_9 ((nI_leI (a := 6) (b := k1) (by omega) (by omega)).mpr h)
        refine lv_aload_n hx hb dX2_millionthsAfter_8 rfl (lv_at hl 1 rfl) ?_
        refine va_get (D := D) (ci := 2) (v := .ref (a 10)) (C := RX2) (T := TX2) (N := 6) (Ts := wsX20) hx hb hin (fun _ h9 => h9) hown hK hP 1 rfl rfl 4 (by decide) (hts (.fieldLink RX2 25 "Groupbooks$Holdings" "amounts" "[I") (by decide +kernel)) (fun _ h9 => h9) rfl dX2_millionthsAfter_9 ?_
        refine lv_iload_n hx hb dX2_millionthsAfter_12 rfl (lv_at hl 0 rfl) ?_
        refine lv_iload_n hx hb dX2_millionthsAfter_13 rfl (lv_at hl 0 rfl) ?_
        refine lv_if_ne (tgt := 22) hx hb dX2_millionthsAfter_14 (by decide) (fun c_10 => ?_) (fun c_10 => ?_)
        · have n_10 : ¬ ((k1) = (0)) := fun h => c_10 ((nI_eq (a := k1) (b := 0) (by omega) (by omega)).mpr h)
          refine lv_iconst (v := 0) hx hb dX2_millionthsAfter_22 (by decide) ?_
          refine b_iast (w' := GW a cI cJ p nu de eq (upd (miA am (k1)) (k1) (0)) nx oA oD oE oP cR aR hR cl ad gw pr n) hx hb hK hP hD hS 10 0 (f := (miA am (k1))) rfl rfl (j := k1) (by omega) (by decide) rfl dX2_millionthsAfter_23 (fun H locs hP hD hS => ?_)
          refine lv_iinc (v := nI (k1 + 1)) (lv' := [(3, .int (nI (k1 + 1))), (0, .ref (a 1)), (1, .int (nI (nr))), (2, .int (nI (c)))]) hx hb dX2_millionthsAfter_24 hl (k := 0) rfl (nI_1 (k1)) (by decide) rfl (fun ls hl => ?_)
          refine lv_goto (tgt := 2) hx hb dX2_millionthsAfter_27 (by decide) ?_
          have e_11 : miA am (k1 + 1) = upd (miA am (k1)) (k1) (0) := by first | rfl | exact if_pos (by assumption) | exact if_neg (by assumption) | (simp only [miA, n_9, n_10, Bool.false_eq_true, ↓reduceIte])
          exact ih1 (k1 + 1) (by omega) _ _ ls (by rw [e_11]; exact hP) (by rw [e_11]; exact hD) hS (lv_sub hl [0, 1, 2, 3] rfl)
        · have n_10 : (k1) = (0) := (nI_eq (a := k1) (b := 0) (by omega) (by omega)).mp c_10
          refine lv_ldc (v := 1000000) hx hb hown (hts (.constant RX2 73 (1000000)) (by decide +kernel)) dX2_millionthsAfter_17 ?_
          refine lv_goto (tgt := 23) hx hb dX2_millionthsAfter_19 (by decide) ?_
          refine b_iast (w' := GW a cI cJ p nu de eq (upd (miA am (k1)) (k1) ((1000000))) nx oA oD oE oP cR aR hR cl ad gw pr n) hx hb hK hP hD hS 10 0 (f := (miA am (k1))) rfl rfl (j := k1) (by omega) (by decide) rfl dX2_millionthsAfter_23 (fun H locs hP hD hS => ?_)
          refine lv_iinc (v := nI (k1 + 1)) (lv' := [(3, .int (nI (k1 + 1))), (0, .ref (a 1)), (1, .int (nI (nr))), (2, .int (nI (c)))]) hx hb dX2_millionthsAfter_24 hl (k := 0) rfl (nI_1 (k1)) (by decide) rfl (fun ls hl => ?_)
          refine lv_goto (tgt := 2) hx hb dX2_millionthsAfter_27 (by decide) ?_
          have e_12 : miA am (k1 + 1) = upd (miA am (k1)) (k1) ((1000000)) := by first | rfl | exact if_pos (by assumption) | exact if_neg (by assumption) | (simp only [miA, n_9, n_10, Bool.false_eq_true, ↓reduceIte])
          exact ih1 (k1 + 1) (by omega) _ _ ls (by rw [e_12]; exact hP) (by rw [e_12]; exact hD) hS (lv_sub hl [0, 1, 2, 3] rfl)
  exact L1 (6) 0 (by omega) _ _ ls hP hD hS (lv_sub hl [0, 1, 2, 3] rfl)
