abbrev JW (a : Nat → Nat) (cI cJ : ClassId) (lb : Nat → Int32) : va_W := KG a cI cJ z32 z32 ++ [(a 21, eI cI 36 z32), (a 22, eI cI 36 z32), (a 23, eI cI 36 z32), (a 24, eI cI 42 lb), (a 25, eI cI 18 z32), (a 26, eI cI 1 z32), (a 27, eI cI 6 z32), (a 28, eI cI 6 z32)]
set_option maxHeartbeats 4000000 in
set_option maxRecDepth 100000 in
theorem k_init {pp : Program} {ll : Launch} {ee : Env} {ss : State} {mm : MethodId} {bel : List Frame} {mth : Method} {cde : Code} {b L : Nat} {xs : Nat → Int32} {D : va_G} {cI cJ : ClassId} {a : Nat → Nat} {A : Nat → Prop} {Z : State → Prop}
    (hst : ll.stackTraces = false) (hx : pp.tables.exec = Jvm.exec) (hb : cde.code = cL_law) (hml : cde.maxLocals = 23) (hown : ss.vm.findClass RL = some mm.cls) (hts : ∀ w ∈ wsL_law, w.before ([.ref b] : List Value).toArray ss = true)
    (hK : va_K D vwCl (tyG cI cJ) ss) (hE : EVt ss) (hV : EVh A ss ss.heap) (hDC : DCL ss) (hA : ∀ q : Nat, ss.heap.size ≤ q → A q) (hX : va_X b L xs ss ss.heap) (hbl : b < ss.heap.size) (hbA : ¬ A b) (hL : 90 ≤ L) (hL2 : L < 2 ^ 31) (hxs : ∀ j, j < 90 → xs j = 0)
    (kend : ∀ (c9 s9 : Nat) (H : Heap) (locs : List Loc) (ls : Array Slot), c9 ≤ 660 → s9 ≤ 4380 → ss.heap.size + 540 ≤ H.size → va_S A ss.heap H locs → W pp ll ee R2 ss mm (([.ref b] : List Value).toArray) bel mth cde H locs c9 s9 Z (F0 mm 1011 ls []))
    {H : Heap} {locs : List Loc} {ls : Array Slot} (hg : ss.heap.size + 0 ≤ H.size) (hP : va_P D vwCl (JW a cI cJ z32) H) (hD : va_D A (JW a cI cJ z32)) (hS : va_S A ss.heap H locs) (hl : lv_has ls 23 [(9, .ref (a 28)), (8, .ref (a 27)), (7, .ref (a 26)), (6, .ref (a 25)), (5, .ref (a 24)), (4, .ref (a 23)), (3, .ref (a 22)), (2, .ref (a 21)), (1, .ref (a 0)), (0, .ref (b))]) :
    W pp ll ee R2 ss mm (([.ref b] : List Value).toArray) bel mth cde H locs 29 430 Z (F0 mm 53 ls []) := by
  refine lv_iconst (v := 0) hx hb dL_law_53 (by decide) ?_
  refine lv_istore (lv' := [(10, .int (0)), (9, .ref (a 28)), (8, .ref (a 27)), (7, .ref (a 26)), (6, .ref (a 25)), (5, .ref (a 24)), (4, .ref (a 23)), (3, .ref (a 22)), (2, .ref (a 21)), (1, .ref (a 0)), (0, .ref (b))]) hx hb dL_law_54 hl (by decide) rfl (fun ls hl => ?_)
  have L1 : ∀ (n1 k1 : Nat), k1 + n1 = 6 → ∀ (cl1 sl1 : Nat) (H : Heap) (locs : List Loc) (ls : Array Slot), cl1 ≤ 29 → sl1 ≤ 430 → ss.heap.size + (0) ≤ H.size → va_P D vwCl (JW a cI cJ (bbI (k1))) H → va_D A (JW a cI cJ (bbI (k1))) → va_S A ss.heap H locs → lv_has ls 23 [(10, .int (nI (k1))), (9, .ref (a 28)), (8, .ref (a 27)), (7, .ref (a 26)), (6, .ref (a 25)), (5, .ref (a 24)), (4, .ref (a 23)), (3, .ref (a 22)), (2, .ref (a 21)), (1, .ref (a 0)), (0, .ref (b))] → W pp ll ee R2 ss mm (([.ref (b)] : List Value).toArray) bel mth cde H locs cl1 sl1 Z (F0 mm 56 ls []) := by
    intro n1
    induction n1 with
    | zero =>
      intro k1 hk1  cl1 sl1 H locs ls hcl1 hsl1 hg hP hD hS hl
      have hk1b : 6 = k1 := by omega
      subst hk1b
      refine lv_iload hx hb dL_law_56 (lv_at hl 0 rfl) ?_
      refine lv_bipush (v := 6) hx hb dL_law_58 (by decide) ?_
      refine lv_icmp_ge (tgt := 106) hx hb dL_law_60 (by decide) (fun c_1 => ?_) (fun c_1 => ?_)
      · have n_1 : (6) ≤ (6) := (nI_leI (a := 6) (b := 6) (by omega) (by omega)).mp c_1
        refine lv_iconst (v := 0) hx hb dL_law_106 (by decide) ?_
        refine lv_istore (lv' := [(10, .int (0)), (9, .ref (a 28)), (8, .ref (a 27)), (7, .ref (a 26)), (6, .ref (a 25)), (5, .ref (a 24)), (4, .ref (a 23)), (3, .ref (a 22)), (2, .ref (a 21)), (1, .ref (a 0)), (0, .ref (b))]) hx hb dL_law_107 hl (by decide) rfl (fun ls hl => ?_)
        exact k_loop hst hx hb hml hown hts hK hE hV hDC hA hX hbl hbA hL hL2 hxs kend (show cl1 ≤ 30 by omega) (show sl1 ≤ 600 by omega) (by omega) hP hD hS (lv_sub hl [0, 1, 2, 3, 4, 5, 6, 7, 8, 9, 10] rfl)
      · have n_1 : ¬ ((6) ≤ (6)) := fun h => c_1 ((nI_leI (a := 6) (b := 6) (by omega) (by omega)).mpr h)
        exfalso; omega
    | succ n1 ih1 =>
      intro k1 hk1  cl1 sl1 H locs ls hcl1 hsl1 hg hP hD hS hl
      have hk1b : k1 < 6 := by omega
      refine lv_iload hx hb dL_law_56 (lv_at hl 0 rfl) ?_
      refine lv_bipush (v := 6) hx hb dL_law_58 (by decide) ?_
      refine lv_icmp_ge (tgt := 106) hx hb dL_law_60 (by decide) (fun c_2 => ?_) (fun c_2 => ?_)
      · have n_2 : (6) ≤ (k1) := (nI_leI (a := 6) (b := k1) (by omega) (by omega)).mp c_2
        exfalso; omega
      · have n_2 : ¬ ((6) ≤ (k1)) := fun h => c_2 ((nI_leI (a := 6) (b := k1) (by omega) (by omega)).mpr h)
        refine lv_aload hx hb dL_law_63 (lv_at hl 5 rfl) ?_
        refine lv_bipush (v := 7) hx hb dL_law_65 (by decide) ?_
        refine lv_iload hx hb dL_law_67 (lv_at hl 0 rfl) ?_
        refine lv_imul hx hb dL_law_69 ?_
        refine b_ti (pk_mul (7) (k1)) ?_
        refine lv_iconst (v := 4) hx hb dL_law_70 (by decide) ?_
        refine lv_iadd hx hb dL_law_71 ?_
        refine b_ti (nI_add ((7) * (k1)) (4)) ?_
        refine lv_bipush (v := 100) hx hb dL_law_72 (by decide) ?_
        refine b_iast (w' := JW a cI cJ (upd (bbI (k1)) (((7) * (k1)) + (4)) (100))) hx hb hK hP hD hS 24 0 (f := (bbI (k1))) rfl rfl (j := ((7) * (k1)) + (4)) (by omega) (by decide) rfl dL_law_74 (fun H locs hP hD hS => ?_)
        refine lv_aload hx hb dL_law_75 (lv_at hl 5 rfl) ?_
        refine lv_bipush (v := 7) hx hb dL_law_77 (by decide) ?_
        refine lv_iload hx hb dL_law_79 (lv_at hl 0 rfl) ?_
        refine lv_imul hx hb dL_law_81 ?_
        refine b_ti (pk_mul (7) (k1)) ?_
        refine lv_iconst (v := 5) hx hb dL_law_82 (by decide) ?_
        refine lv_iadd hx hb dL_law_83 ?_
        refine b_ti (nI_add ((7) * (k1)) (5)) ?_
        refine lv_bipush (v := 100) hx hb dL_law_84 (by decide) ?_
        refine b_iast (w' := JW a cI cJ (upd (upd (bbI (k1)) (((7) * (k1)) + (4)) (100)) (((7) * (k1)) + (5)) (100))) hx hb hK hP hD hS 24 0 (f := (upd (bbI (k1)) (((7) * (k1)) + (4)) (100))) rfl rfl (j := ((7) * (k1)) + (5)) (by omega) (by decide) rfl dL_law_86 (fun H locs hP hD hS => ?_)
        refine lv_aload hx hb dL_law_87 (lv_at hl 5 rfl) ?_
        refine lv_bipush (v := 7) hx hb dL_law_89 (by decide) ?_
        refine lv_iload hx hb dL_law_91 (lv_at hl 0 rfl) ?_
        refine lv_imul hx hb dL_law_93 ?_
        refine b_ti (pk_mul (7) (k1)) ?_
        refine lv_bipush (v := 6) hx hb dL_law_94 (by decide) ?_
        refine lv_iadd hx hb dL_law_96 ?_
        refine b_ti (nI_add ((7) * (k1)) (6)) ?_
        refine lv_bipush (v := 100) hx hb dL_law_97 (by decide) ?_
        refine b_iast (w' := JW a cI cJ (upd (upd (upd (bbI (k1)) (((7) * (k1)) + (4)) (100)) (((7) * (k1)) + (5)) (100)) (((7) * (k1)) + (6)) (100))) hx hb hK hP hD hS 24 0 (f := (upd (upd (bbI (k1)) (((7) * (k1)) + (4)) (100)) (((7) * (k1)) + (5)) (100))) rfl rfl (j := ((7) * (k1)) + (6)) (by omega) (by decide) rfl dL_law_99 (fun H locs hP hD hS => ?_)
        refine lv_iinc (v := nI (k1 + 1)) (lv' := [(10, .int (nI (k1 + 1))), (9, .ref (a 28)), (8, .ref (a 27)), (7, .ref (a 26)), (6, .ref (a 25)), (5, .ref (a 24)), (4, .ref (a 23)), (3, .ref (a 22)), (2, .ref (a 21)), (1, .ref (a 0)), (0, .ref (b))]) hx hb dL_law_100 hl (k := 0) rfl (nI_1 (k1)) (by decide) rfl (fun ls hl => ?_)
        refine lv_goto (tgt := 56) hx hb dL_law_103 (by decide) ?_
        have e_3 : (bbI (k1 + 1)) = (upd (upd (upd (bbI (k1)) (((7) * (k1)) + (4)) (100)) (((7) * (k1)) + (5)) (100)) (((7) * (k1)) + (6)) (100)) := by first | rfl | exact if_pos (by assumption) | exact if_neg (by assumption) | (simp only [n_2, Bool.false_eq_true, ↓reduceIte])
        exact ih1 (k1 + 1) (by omega) _ _ _ _ ls (by omega) (by omega) (by first | omega | exact Nat.le_trans (Nat.le_refl _) hS.1) (by rw [e_3]; exact hP) (by rw [e_3]; exact hD) hS (lv_sub hl [0, 1, 2, 3, 4, 5, 6, 7, 8, 9, 10] rfl)
  exact L1 (6) 0 (by omega) _ _ _ _ ls (by omega) (by omega) (by first | omega | exact Nat.le_trans (Nat.le_refl _) hS.1) (by exact hP) (by exact hD) hS (lv_sub hl [0, 1, 2, 3, 4, 5, 6, 7, 8, 9, 10] rfl)
