set_option maxHeartbeats 4000000 in
set_option maxRecDepth 100000 in
theorem k_loop {pp : Program} {ll : Launch} {ee : Env} {ss : State} {mm : MethodId} {bel : List Frame} {mth : Method} {cde : Code} {b L : Nat} {xs : Nat → Int32} {D : va_G} {cI cJ : ClassId} {a : Nat → Nat} {A : Nat → Prop} {Z : State → Prop}
    (hst : ll.stackTraces = false) (hx : pp.tables.exec = Jvm.exec) (hb : cde.code = cL_law) (hml : cde.maxLocals = 23) (hown : ss.vm.findClass RL = some mm.cls) (hts : ∀ w ∈ wsL_law, w.before ([.ref b] : List Value).toArray ss = true)
    (hK : va_K D vwCl (tyG cI cJ) ss) (hE : EVt ss) (hV : EVh A ss ss.heap) (hDC : DCL ss) (hA : ∀ q : Nat, ss.heap.size ≤ q → A q) (hX : va_X b L xs ss ss.heap) (hbl : b < ss.heap.size) (hbA : ¬ A b) (hL : 90 ≤ L) (hL2 : L < 2 ^ 31) (hxs : ∀ j, j < 90 → xs j = 0)
    (kend : ∀ (c9 s9 : Nat) (H : Heap) (locs : List Loc) (ls : Array Slot), c9 ≤ 660 → s9 ≤ 4380 → ss.heap.size + 540 ≤ H.size → va_S A ss.heap H locs → W pp ll ee R2 ss mm (([.ref b] : List Value).toArray) bel mth cde H locs c9 s9 Z (F0 mm 1011 ls []))
    {c0 s0 : Nat} (hc0 : c0 ≤ 30) (hs0 : s0 ≤ 600) {H : Heap} {locs : List Loc} {ls : Array Slot} (hg : ss.heap.size + 0 ≤ H.size) (hP : va_P D vwCl (KW a cI cJ z32 z32 z32) H) (hD : va_D A (KW a cI cJ z32 z32 z32)) (hS : va_S A ss.heap H locs) (hl : lv_has ls 23 [(10, .int (0)), (9, .ref (a 28)), (8, .ref (a 27)), (7, .ref (a 26)), (6, .ref (a 25)), (5, .ref (a 24)), (4, .ref (a 23)), (3, .ref (a 22)), (2, .ref (a 21)), (1, .ref (a 0)), (0, .ref (b))]) :
    W pp ll ee R2 ss mm (([.ref b] : List Value).toArray) bel mth cde H locs c0 s0 Z (F0 mm 109 ls []) := by
  have L1 : ∀ (n1 t1 : Nat) (am : Nat → Int32) (nx : Nat → Int32) (nw : Nat → Int32), t1 + n1 = 90 → ∀ (cl1 sl1 : Nat) (H : Heap) (locs : List Loc) (ls : Array Slot), cl1 ≤ 30 + 7 * t1 → sl1 ≤ 600 + 42 * t1 → ss.heap.size + (6 * t1) ≤ H.size → va_P D vwCl (KW a cI cJ am nx nw) H → va_D A (KW a cI cJ am nx nw) → va_S A ss.heap H locs → lv_has ls 23 [(10, .int (nI (t1))), (9, .ref (a 28)), (8, .ref (a 27)), (7, .ref (a 26)), (6, .ref (a 25)), (5, .ref (a 24)), (4, .ref (a 23)), (3, .ref (a 22)), (2, .ref (a 21)), (1, .ref (a 0)), (0, .ref (b))] → W pp ll ee R2 ss mm (([.ref (b)] : List Value).toArray) bel mth cde H locs cl1 sl1 Z (F0 mm 109 ls []) := by
    intro n1
    induction n1 with
    | zero =>
      intro t1 am nx nw hk1  cl1 sl1 H locs ls hcl1 hsl1 hg hP hD hS hl
      have hk1b : 90 = t1 := by omega
      subst hk1b
      refine lv_iload hx hb dL_law_109 (lv_at hl 0 rfl) ?_
      refine lv_bipush (v := 90) hx hb dL_law_111 (by decide) ?_
      refine lv_icmp_ge (tgt := 1011) hx hb dL_law_113 (by decide) (fun c_1 => ?_) (fun c_1 => ?_)
      · have n_1 : (90) ≤ (90) := (nI_leI (a := 90) (b := 90) (by omega) (by omega)).mp c_1
        exact kend _ _ H locs ls (by omega) (by omega) (by omega) hS
      · have n_1 : ¬ ((90) ≤ (90)) := fun h => c_1 ((nI_leI (a := 90) (b := 90) (by omega) (by omega)).mpr h)
        exfalso; omega
    | succ n1 ih1 =>
      intro t1 am nx nw hk1  cl1 sl1 H locs ls hcl1 hsl1 hg hP hD hS hl
      have hk1b : t1 < 90 := by omega
      refine lv_iload hx hb dL_law_109 (lv_at hl 0 rfl) ?_
      refine lv_bipush (v := 90) hx hb dL_law_111 (by decide) ?_
      refine lv_icmp_ge (tgt := 1011) hx hb dL_law_113 (by decide) (fun c_2 => ?_) (fun c_2 => ?_)
      · have n_2 : (90) ≤ (t1) := (nI_leI (a := 90) (b := t1) (by omega) (by omega)).mp c_2
        exfalso; omega
      · have n_2 : ¬ ((90) ≤ (t1)) := fun h => c_2 ((nI_leI (a := 90) (b := t1) (by omega) (by omega)).mpr h)
        refine lv_aload_n hx hb dL_law_116 rfl (lv_at hl 10 rfl) ?_
        refine lv_iload hx hb dL_law_117 (lv_at hl 0 rfl) ?_
        refine b_csi (v := xs t1) (W.runS (As := [.ref (b), .int (nI (t1))]) (rest := []) ⟨hx, hb, hml, hown, hts⟩ (c_L_cell ll b L xs t1 (by omega) hL2) (va_cwS 2 hts gL_law_L_cell rfl rfl rfl (by decide +kernel) ⟨Nat.le_of_ble_eq_true rfl, Nat.le_of_ble_eq_true rfl⟩) ⟨PC.blind, PC.go (hX.kept (hS.2.1 b hbl hbA))⟩ rfl rfl hl.1 rfl (lv_room (Nat.le_of_ble_eq_true rfl)) dL_law_119 ⟨(by show cl1 + 0 ≤ 1000; omega), (by show sl1 + 0 ≤ 10000; omega)⟩) ?_
        refine b_ti (y := 0) (hxs t1 (by omega)) ?_
        refine lv_istore (lv' := [(11, .int (0)), (10, .int (nI (t1))), (9, .ref (a 28)), (8, .ref (a 27)), (7, .ref (a 26)), (6, .ref (a 25)), (5, .ref (a 24)), (4, .ref (a 23)), (3, .ref (a 22)), (2, .ref (a 21)), (1, .ref (a 0)), (0, .ref (b))]) hx hb dL_law_122 hl (by decide) rfl (fun ls hl => ?_)
        refine lv_iload hx hb dL_law_124 (lv_at hl 0 rfl) ?_
        refine lv_bipush (v := 20) hx hb dL_law_126 (by decide) ?_
        refine b_csi (v := 0) (W.runS (As := [.int (0), .int (20)]) (rest := []) ⟨hx, hb, hml, hown, hts⟩ (c_L_low_20 ll  ) (va_cwS 2 hts gL_law_L_low rfl rfl rfl (by decide +kernel) ⟨Nat.le_of_ble_eq_true rfl, Nat.le_of_ble_eq_true rfl⟩) ⟨PT.blind, PT.to⟩ rfl rfl hl.1 rfl (lv_room (Nat.le_of_ble_eq_true rfl)) dL_law_128 ⟨(by show cl1 + 0 ≤ 1000; omega), (by show sl1 + 0 ≤ 10000; omega)⟩) ?_
        refine lv_istore (lv' := [(12, .int (0)), (11, .int (0)), (10, .int (nI (t1))), (9, .ref (a 28)), (8, .ref (a 27)), (7, .ref (a 26)), (6, .ref (a 25)), (5, .ref (a 24)), (4, .ref (a 23)), (3, .ref (a 22)), (2, .ref (a 21)), (1, .ref (a 0)), (0, .ref (b))]) hx hb dL_law_131 hl (by decide) rfl (fun ls hl => ?_)
        refine lv_iload hx hb dL_law_133 (lv_at hl 1 rfl) ?_
        refine lv_iconst (v := 4) hx hb dL_law_135 (by decide) ?_
        refine lv_ishr hx hb dL_law_136 ?_
        refine b_ti (y := 0) (by decide) ?_
        refine lv_bipush (v := 6) hx hb dL_law_137 (by decide) ?_
        refine b_csi (v := 0) (W.runS (As := [.int (0), .int (6)]) (rest := []) ⟨hx, hb, hml, hown, hts⟩ (c_L_low_6 ll  ) (va_cwS 2 hts gL_law_L_low rfl rfl rfl (by decide +kernel) ⟨Nat.le_of_ble_eq_true rfl, Nat.le_of_ble_eq_true rfl⟩) ⟨PT.blind, PT.to⟩ rfl rfl hl.1 rfl (lv_room (Nat.le_of_ble_eq_true rfl)) dL_law_139 ⟨(by show cl1 + 0 ≤ 1000; omega), (by show sl1 + 0 ≤ 10000; omega)⟩) ?_
        refine lv_istore (lv' := [(13, .int (0)), (12, .int (0)), (11, .int (0)), (10, .int (nI (t1))), (9, .ref (a 28)), (8, .ref (a 27)), (7, .ref (a 26)), (6, .ref (a 25)), (5, .ref (a 24)), (4, .ref (a 23)), (3, .ref (a 22)), (2, .ref (a 21)), (1, .ref (a 0)), (0, .ref (b))]) hx hb dL_law_142 hl (by decide) rfl (fun ls hl => ?_)
        refine lv_iload hx hb dL_law_144 (lv_at hl 2 rfl) ?_
        refine lv_bipush (v := 7) hx hb dL_law_146 (by decide) ?_
        refine lv_ishr hx hb dL_law_148 ?_
        refine b_ti (y := 0) (by decide) ?_
        refine lv_bipush (v := 6) hx hb dL_law_149 (by decide) ?_
        refine b_csi (v := 0) (W.runS (As := [.int (0), .int (6)]) (rest := []) ⟨hx, hb, hml, hown, hts⟩ (c_L_low_6 ll  ) (va_cwS 2 hts gL_law_L_low rfl rfl rfl (by decide +kernel) ⟨Nat.le_of_ble_eq_true rfl, Nat.le_of_ble_eq_true rfl⟩) ⟨PT.blind, PT.to⟩ rfl rfl hl.1 rfl (lv_room (Nat.le_of_ble_eq_true rfl)) dL_law_151 ⟨(by show cl1 + 0 ≤ 1000; omega), (by show sl1 + 0 ≤ 10000; omega)⟩) ?_
        refine lv_istore (lv' := [(14, .int (0)), (13, .int (0)), (12, .int (0)), (11, .int (0)), (10, .int (nI (t1))), (9, .ref (a 28)), (8, .ref (a 27)), (7, .ref (a 26)), (6, .ref (a 25)), (5, .ref (a 24)), (4, .ref (a 23)), (3, .ref (a 22)), (2, .ref (a 21)), (1, .ref (a 0)), (0, .ref (b))]) hx hb dL_law_154 hl (by decide) rfl (fun ls hl => ?_)
        refine lv_iconst (v := 0) hx hb dL_law_156 (by decide) ?_
        refine lv_istore (lv' := [(15, .int (0)), (14, .int (0)), (13, .int (0)), (12, .int (0)), (11, .int (0)), (10, .int (nI (t1))), (9, .ref (a 28)), (8, .ref (a 27)), (7, .ref (a 26)), (6, .ref (a 25)), (5, .ref (a 24)), (4, .ref (a 23)), (3, .ref (a 22)), (2, .ref (a 21)), (1, .ref (a 0)), (0, .ref (b))]) hx hb dL_law_157 hl (by decide) rfl (fun ls hl => ?_)
        refine lv_iconst (v := 0) hx hb dL_law_159 (by decide) ?_
        refine lv_istore (lv' := [(16, .int (0)), (15, .int (0)), (14, .int (0)), (13, .int (0)), (12, .int (0)), (11, .int (0)), (10, .int (nI (t1))), (9, .ref (a 28)), (8, .ref (a 27)), (7, .ref (a 26)), (6, .ref (a 25)), (5, .ref (a 24)), (4, .ref (a 23)), (3, .ref (a 22)), (2, .ref (a 21)), (1, .ref (a 0)), (0, .ref (b))]) hx hb dL_law_160 hl (by decide) rfl (fun ls hl => ?_)
        refine lv_iload hx hb dL_law_162 (lv_at hl 4 rfl) ?_
        refine lv_bipush (v := 9) hx hb dL_law_164 (by decide) ?_
        refine lv_icmp_ge (tgt := 280) hx hb dL_law_166 (by decide) (fun c_3 => ?_) (fun c_3 => ?_)
        · have n_3 := c_3
          exact absurd c_3 (by decide)
        · have n_3 := c_3
          refine lv_iload hx hb dL_law_169 (lv_at hl 4 rfl) ?_
          refine lv_bipush (v := 6) hx hb dL_law_171 (by decide) ?_
          refine lv_icmp_ge (tgt := 180) hx hb dL_law_173 (by decide) (fun c_4 => ?_) (fun c_4 => ?_)
          · have n_4 := c_4
            exact absurd c_4 (by decide)
          · have n_4 := c_4
            refine lv_iconst (v := 0) hx hb dL_law_176 (by decide) ?_
            refine lv_goto (tgt := 181) hx hb dL_law_177 (by decide) ?_
            refine lv_istore (lv' := [(17, .int (0)), (16, .int (0)), (15, .int (0)), (14, .int (0)), (13, .int (0)), (12, .int (0)), (11, .int (0)), (10, .int (nI (t1))), (9, .ref (a 28)), (8, .ref (a 27)), (7, .ref (a 26)), (6, .ref (a 25)), (5, .ref (a 24)), (4, .ref (a 23)), (3, .ref (a 22)), (2, .ref (a 21)), (1, .ref (a 0)), (0, .ref (b))]) hx hb dL_law_181 hl (by decide) rfl (fun ls hl => ?_)
            refine lv_iload hx hb dL_law_183 (lv_at hl 6 rfl) ?_
            refine lv_bipush (v := 12) hx hb dL_law_185 (by decide) ?_
            refine lv_ishr hx hb dL_law_187 ?_
            refine b_ti (y := 0) (by decide) ?_
            refine lv_iconst (v := 5) hx hb dL_law_188 (by decide) ?_
            refine b_csi (v := 0) (W.runS (As := [.int (0), .int (5)]) (rest := []) ⟨hx, hb, hml, hown, hts⟩ (c_L_low_5 ll  ) (va_cwS 2 hts gL_law_L_low rfl rfl rfl (by decide +kernel) ⟨Nat.le_of_ble_eq_true rfl, Nat.le_of_ble_eq_true rfl⟩) ⟨PT.blind, PT.to⟩ rfl rfl hl.1 rfl (lv_room (Nat.le_of_ble_eq_true rfl)) dL_law_189 ⟨(by show cl1 + 0 ≤ 1000; omega), (by show sl1 + 0 ≤ 10000; omega)⟩) ?_
            refine lv_if_ne (tgt := 200) hx hb dL_law_192 (by decide) (fun c_5 => ?_) (fun c_5 => ?_)
            · have n_5 := c_5
              exact absurd c_5 (by decide)
            · have n_5 := c_5
              refine lv_bipush (v := 100) hx hb dL_law_195 (by decide) ?_
              refine lv_goto (tgt := 227) hx hb dL_law_197 (by decide) ?_
              refine lv_istore (lv' := [(18, .int (100)), (17, .int (0)), (16, .int (0)), (15, .int (0)), (14, .int (0)), (13, .int (0)), (12, .int (0)), (11, .int (0)), (10, .int (nI (t1))), (9, .ref (a 28)), (8, .ref (a 27)), (7, .ref (a 26)), (6, .ref (a 25)), (5, .ref (a 24)), (4, .ref (a 23)), (3, .ref (a 22)), (2, .ref (a 21)), (1, .ref (a 0)), (0, .ref (b))]) hx hb dL_law_227 hl (by decide) rfl (fun ls hl => ?_)
              refine lv_iload hx hb dL_law_229 (lv_at hl 7 rfl) ?_
              refine lv_iconst (v := 3) hx hb dL_law_231 (by decide) ?_
              refine lv_ishr hx hb dL_law_232 ?_
              refine b_ti (y := 0) (by decide) ?_
              refine lv_sipush (v := 2000) hx hb dL_law_233 (by decide) ?_
              refine b_csi (v := 0) (W.runS (As := [.int (0), .int (2000)]) (rest := []) ⟨hx, hb, hml, hown, hts⟩ (c_L_low_2000 ll  ) (va_cwS 2 hts gL_law_L_low rfl rfl rfl (by decide +kernel) ⟨Nat.le_of_ble_eq_true rfl, Nat.le_of_ble_eq_true rfl⟩) ⟨PT.blind, PT.to⟩ rfl rfl hl.1 rfl (lv_room (Nat.le_of_ble_eq_true rfl)) dL_law_236 ⟨(by show cl1 + 0 ≤ 1000; omega), (by show sl1 + 0 ≤ 10000; omega)⟩) ?_
              refine lv_istore (lv' := [(19, .int (0)), (18, .int (100)), (17, .int (0)), (16, .int (0)), (15, .int (0)), (14, .int (0)), (13, .int (0)), (12, .int (0)), (11, .int (0)), (10, .int (nI (t1))), (9, .ref (a 28)), (8, .ref (a 27)), (7, .ref (a 26)), (6, .ref (a 25)), (5, .ref (a 24)), (4, .ref (a 23)), (3, .ref (a 22)), (2, .ref (a 21)), (1, .ref (a 0)), (0, .ref (b))]) hx hb dL_law_239 hl (by decide) rfl (fun ls hl => ?_)
              refine lv_iload hx hb dL_law_241 (lv_at hl 2 rfl) ?_
              refine lv_iload hx hb dL_law_243 (lv_at hl 6 rfl) ?_
              refine lv_iload hx hb dL_law_245 (lv_at hl 5 rfl) ?_
              refine lv_iload hx hb dL_law_247 (lv_at hl 1 rfl) ?_
              refine lv_iload hx hb dL_law_249 (lv_at hl 0 rfl) ?_
              refine lv_aload_n hx hb dL_law_251 rfl (lv_at hl 17 rfl) ?_
              refine lv_aload hx hb dL_law_252 (lv_at hl 14 rfl) ?_
              refine lv_aload hx hb dL_law_254 (lv_at hl 13 rfl) ?_
              refine b_csi (v := (-2000002)) (W.runS (As := [.int (0), .int (0), .int (0), .int (100), .int (0), .ref (a 21), .ref (a 24), .ref (a 25)]) (rest := []) ⟨hx, hb, hml, hown, hts⟩ (c_L_due ll D a cI cJ am nx nw  ) (va_cwS 8 hts gL_law_L_due rfl rfl rfl (by decide +kernel) ⟨Nat.le_of_ble_eq_true rfl, Nat.le_of_ble_eq_true rfl⟩) ⟨PR.blind, PR.go hP hK hE⟩ rfl rfl hl.1 rfl (lv_room (Nat.le_of_ble_eq_true rfl)) dL_law_256 ⟨(by show cl1 + 0 ≤ 1000; omega), (by show sl1 + 0 ≤ 10000; omega)⟩) ?_
              refine lv_istore (lv' := [(15, .int ((-2000002))), (19, .int (0)), (18, .int (100)), (17, .int (0)), (16, .int (0)), (14, .int (0)), (13, .int (0)), (12, .int (0)), (11, .int (0)), (10, .int (nI (t1))), (9, .ref (a 28)), (8, .ref (a 27)), (7, .ref (a 26)), (6, .ref (a 25)), (5, .ref (a 24)), (4, .ref (a 23)), (3, .ref (a 22)), (2, .ref (a 21)), (1, .ref (a 0)), (0, .ref (b))]) hx hb dL_law_259 hl (by decide) rfl (fun ls hl => ?_)
              refine lv_aload_n hx hb dL_law_261 rfl (lv_at hl 18 rfl) ?_
              refine lv_iload hx hb dL_law_262 (lv_at hl 3 rfl) ?_
              refine lv_iload hx hb dL_law_264 (lv_at hl 6 rfl) ?_
              refine lv_iload hx hb dL_law_266 (lv_at hl 5 rfl) ?_
              refine lv_iload hx hb dL_law_268 (lv_at hl 2 rfl) ?_
              refine lv_iload hx hb dL_law_270 (lv_at hl 1 rfl) ?_
              refine b_calliG (S := Unit) (g := 0) (w' := fun _ => KW a cI cJ am nx nw) hP hD hS hA (vx_runSW (hh := [(0, 83, 84, 34), (0, 83, 89, 37)]) (As := [.ref (a 0), .int (0), .int (0), .int (0), .int (100), .int (0)]) (rest := []) ⟨hx, hb, hml, hown, hts⟩ (c_L_calls_hold ll hst D a cI cJ _ am nx nw  ) (vx_cwSW (hh := [(0, 83, 84, 34), (0, 83, 89, 37)]) 6 hts gL_law_L_calls rfl rfl rfl (by decide +kernel) ⟨Nat.le_of_ble_eq_true rfl, Nat.le_of_ble_eq_true rfl⟩) ⟨PY.blind, PY.goS hP hK hD hE hV hDC hS hA⟩ rfl rfl hl.1 rfl (lv_room (Nat.le_of_ble_eq_true rfl)) dL_law_272 ⟨(by show cl1 + 1 ≤ 1000; omega), (by show sl1 + 6 ≤ 10000; omega)⟩) (fun r9 u9 H locs hr9 hgN hP hD hS => ?_)
              obtain rfl : r9 = (-2000002) := hr9
              refine lv_istore (lv' := [(16, .int ((-2000002))), (15, .int ((-2000002))), (19, .int (0)), (18, .int (100)), (17, .int (0)), (14, .int (0)), (13, .int (0)), (12, .int (0)), (11, .int (0)), (10, .int (nI (t1))), (9, .ref (a 28)), (8, .ref (a 27)), (7, .ref (a 26)), (6, .ref (a 25)), (5, .ref (a 24)), (4, .ref (a 23)), (3, .ref (a 22)), (2, .ref (a 21)), (1, .ref (a 0)), (0, .ref (b))]) hx hb dL_law_275 hl (by decide) rfl (fun ls hl => ?_)
              refine lv_goto (tgt := 915) hx hb dL_law_277 (by decide) ?_
              refine lv_iload hx hb dL_law_915 (lv_at hl 8 rfl) ?_
              refine lv_bipush (v := 6) hx hb dL_law_917 (by decide) ?_
              refine lv_ishr hx hb dL_law_919 ?_
              refine b_ti (y := 0) (by decide) ?_
              refine lv_bipush (v := 30) hx hb dL_law_920 (by decide) ?_
              refine b_csi (v := 0) (W.runS (As := [.int (0), .int (30)]) (rest := []) ⟨hx, hb, hml, hown, hts⟩ (c_L_low_30 ll  ) (va_cwS 2 hts gL_law_L_low rfl rfl rfl (by decide +kernel) ⟨Nat.le_of_ble_eq_true rfl, Nat.le_of_ble_eq_true rfl⟩) ⟨PT.blind, PT.to⟩ rfl rfl hl.1 rfl (lv_room (Nat.le_of_ble_eq_true rfl)) dL_law_922 ⟨(by show cl1 + 1 + 0 ≤ 1000; omega), (by show sl1 + 6 + 0 ≤ 10000; omega)⟩) ?_
              refine lv_istore (lv' := [(17, .int (0)), (16, .int ((-2000002))), (15, .int ((-2000002))), (19, .int (0)), (18, .int (100)), (14, .int (0)), (13, .int (0)), (12, .int (0)), (11, .int (0)), (10, .int (nI (t1))), (9, .ref (a 28)), (8, .ref (a 27)), (7, .ref (a 26)), (6, .ref (a 25)), (5, .ref (a 24)), (4, .ref (a 23)), (3, .ref (a 22)), (2, .ref (a 21)), (1, .ref (a 0)), (0, .ref (b))]) hx hb dL_law_925 hl (by decide) rfl (fun ls hl => ?_)
              refine lv_iload hx hb dL_law_927 (lv_at hl 1 rfl) ?_
              refine lv_iload hx hb dL_law_929 (lv_at hl 2 rfl) ?_
              refine lv_icmp_ne (tgt := 1003) hx hb dL_law_931 (by decide) (fun c_6 => ?_) (fun c_6 => ?_)
              · have n_6 := c_6
                exact absurd c_6 (by decide)
              · have n_6 := c_6
                refine lv_aload_n hx hb dL_law_934 rfl (lv_at hl 18 rfl) ?_
                refine lv_aload_n hx hb dL_law_935 rfl (lv_at hl 17 rfl) ?_
                refine lv_aload_n hx hb dL_law_936 rfl (lv_at hl 16 rfl) ?_
                refine lv_aload hx hb dL_law_937 (lv_at hl 15 rfl) ?_
                refine lv_aload hx hb dL_law_939 (lv_at hl 14 rfl) ?_
                refine lv_aload hx hb dL_law_941 (lv_at hl 13 rfl) ?_
                refine lv_aload hx hb dL_law_943 (lv_at hl 12 rfl) ?_
                refine b_calliG (S := Unit) (g := 6) (w' := fun _ => KW a cI cJ am nx nw) hP hD hS hA (va_runS (As := [.ref (a 0), .ref (a 21), .ref (a 22), .ref (a 23), .ref (a 24), .ref (a 25), .ref (a 26)]) (rest := []) ⟨hx, hb, hml, hown, hts⟩ (c_L_isSo ll hst D a cI cJ _ am nx nw  ) (va_cwS 7 hts gL_law_L_isSo rfl rfl rfl (by decide +kernel) ⟨Nat.le_of_ble_eq_true rfl, Nat.le_of_ble_eq_true rfl⟩) ⟨PY.blind, PY.goS hP hK hD hE hV hDC hS hA⟩ rfl rfl hl.1 rfl (lv_room (Nat.le_of_ble_eq_true rfl)) dL_law_945 ⟨(by show cl1 + 1 + 6 ≤ 1000; omega), (by show sl1 + 6 + 36 ≤ 10000; omega)⟩) (fun r9 u9 H locs hr9 hgN hP hD hS => ?_)
                obtain rfl : r9 = 1 := hr9
                refine lv_if_eq (tgt := 1003) hx hb dL_law_948 (by decide) (fun c_7 => ?_) (fun c_7 => ?_)
                · have n_7 := c_7
                  exact absurd c_7 (by decide)
                · have n_7 := c_7
                  refine lv_aload_n hx hb dL_law_951 rfl (lv_at hl 18 rfl) ?_
                  refine lv_iload hx hb dL_law_952 (lv_at hl 5 rfl) ?_
                  refine lv_iload hx hb dL_law_954 (lv_at hl 0 rfl) ?_
                  refine b_calliPZ (S := Unit) (wc := KG a cI cJ am nx) (wr := (LR a cI nw)) (w' := fun _ => KG a cI cJ ((mr z32 am nx 0).1) ((mr z32 am nx 0).2)) hP hD hS hA (va_runV (As := [.int (0), .int (0)]) (rest := []) ⟨hx, hb, hml, hown, hts⟩ (c_X3_shareByRounds ll D a cI cJ _ z32 (nuI 6) (dnmI 6) z64 am nx z32 z32 z32 z32 (rtI 6) (rtI 6) (rtI 6) z32 z32 z32 z32 0 0 0 (by omega) (by omega) (by decide)) (cwV 2 hts gL_law_X3_shareByRounds rfl rfl rfl (by decide +kernel) ⟨Nat.le_of_ble_eq_true rfl, Nat.le_of_ble_eq_true rfl⟩) ⟨PW.blind, va_recv hK hP (ci := 3) (q0 := 0) rfl rfl, PW.goP (wr := (LR a cI nw)) hP hK hD hE⟩ rfl rfl hl.1 rfl (lv_room (Nat.le_of_ble_eq_true rfl)) dL_law_956 ⟨(by show cl1 + 1 + 6 + 0 ≤ 1000; omega), (by show sl1 + 6 + 36 + 0 ≤ 10000; omega)⟩) (fun r9 u9 H locs hr9 hgN hP hD hS => ?_)
                  have hP : va_P D vwCl (KW a cI cJ ((mr z32 am nx 0).1) ((mr z32 am nx 0).2) nw) H := hP
                  have hD : va_D A (KW a cI cJ ((mr z32 am nx 0).1) ((mr z32 am nx 0).2) nw) := hD
                  obtain rfl : r9 = (mr z32 am nx 0).1 0 := hr9
                  refine b_ti (y := 1000000) (kq_mr _ _) ?_
                  refine lv_iload hx hb dL_law_959 (lv_at hl 5 rfl) ?_
                  refine lv_iload hx hb dL_law_961 (lv_at hl 0 rfl) ?_
                  refine lv_aload_n hx hb dL_law_963 rfl (lv_at hl 17 rfl) ?_
                  refine lv_aload hx hb dL_law_964 (lv_at hl 11 rfl) ?_
                  refine lv_aload hx hb dL_law_966 (lv_at hl 10 rfl) ?_
                  refine b_calliZ (S := Unit) (w' := fun _ => KW a cI cJ ((mr z32 am nx 0).1) ((mr z32 am nx 0).2) (rnI nw 6)) hP hD hS hA (va_runS (As := [.int (0), .int (0), .ref (a 21), .ref (a 27), .ref (a 28)]) (rest := [.int (1000000)]) ⟨hx, hb, hml, hown, hts⟩ (c_L_rounds ll D a cI cJ _ ((mr z32 am nx 0).1) ((mr z32 am nx 0).2) nw  ) (va_cwS 5 hts gL_law_L_rounds rfl rfl rfl (by decide +kernel) ⟨Nat.le_of_ble_eq_true rfl, Nat.le_of_ble_eq_true rfl⟩) ⟨PW.blind, PW.go hP hK hD hE⟩ rfl rfl hl.1 rfl (lv_room (Nat.le_of_ble_eq_true rfl)) dL_law_968 ⟨(by show cl1 + 1 + 6 + 0 + 0 ≤ 1000; omega), (by show sl1 + 6 + 36 + 0 + 0 ≤ 10000; omega)⟩) (fun r9 u9 H locs hr9 hgN hP hD hS => ?_)
                  obtain rfl : r9 = 1000000 := hr9
                  refine lv_icmp_ne (tgt := 1003) hx hb dL_law_971 (by decide) (fun c_8 => ?_) (fun c_8 => ?_)
                  · have n_8 := c_8
                    exact absurd c_8 (by decide)
                  · have n_8 := c_8
                    refine lv_iload hx hb dL_law_974 (lv_at hl 9 rfl) ?_
                    refine lv_iconst (v := 3) hx hb dL_law_976 (by decide) ?_
                    refine lv_irem hx hb dL_law_977 (by decide) ?_
                    refine lv_if_ne (tgt := 1005) hx hb dL_law_978 (by decide) (fun c_9 => ?_) (fun c_9 => ?_)
                    · have n_9 := c_9
                      refine lv_iinc (v := nI (t1 + 1)) (lv' := [(10, .int (nI (t1 + 1))), (17, .int (0)), (16, .int ((-2000002))), (15, .int ((-2000002))), (19, .int (0)), (18, .int (100)), (14, .int (0)), (13, .int (0)), (12, .int (0)), (11, .int (0)), (9, .ref (a 28)), (8, .ref (a 27)), (7, .ref (a 26)), (6, .ref (a 25)), (5, .ref (a 24)), (4, .ref (a 23)), (3, .ref (a 22)), (2, .ref (a 21)), (1, .ref (a 0)), (0, .ref (b))]) hx hb dL_law_1005 hl (k := 9) rfl (nI_1 (t1)) (by decide) rfl (fun ls hl => ?_)
                      refine lv_goto (tgt := 109) hx hb dL_law_1008 (by decide) ?_
                      exact ih1 (t1 + 1) ((mr z32 am nx 0).1) ((mr z32 am nx 0).2) (rnI nw 6) (by omega) _ _ _ _ ls (by omega) (by omega) (by first | omega | exact Nat.le_trans (Nat.le_refl _) hS.1) (by exact hP) (by exact hD) hS (lv_sub hl [0, 10, 11, 12, 13, 14, 15, 16, 17, 18, 19] rfl)
                    · have n_9 := c_9
                      refine lv_aload_n hx hb dL_law_981 rfl (lv_at hl 18 rfl) ?_
                      refine lv_aload_n hx hb dL_law_982 rfl (lv_at hl 17 rfl) ?_
                      refine lv_ldc2 (v := 1000000007) hx hb hown (hts (.constantLong RL 171 (1000000007)) (by decide +kernel)) dL_law_983 ?_
                      refine b_csi (v := 1) (W.runS (As := [.ref (a 0), .ref (a 21), .long ((1000000007))]) (rest := []) ⟨hx, hb, hml, hown, hts⟩ (c_L_shares_p1 ll D a cI cJ ((mr z32 am nx 0).1) ((mr z32 am nx 0).2) (rnI nw 6)  ) (va_cwS 3 hts gL_law_L_shares rfl rfl rfl (by decide +kernel) ⟨Nat.le_of_ble_eq_true rfl, Nat.le_of_ble_eq_true rfl⟩) ⟨PR.blind, PR.go hP hK hE⟩ rfl rfl hl.1 rfl (lv_room (Nat.le_of_ble_eq_true rfl)) dL_law_986 ⟨(by show cl1 + 1 + 6 + 0 + 0 + 0 ≤ 1000; omega), (by show sl1 + 6 + 36 + 0 + 0 + 0 ≤ 10000; omega)⟩) ?_
                      refine lv_if_eq (tgt := 1003) hx hb dL_law_989 (by decide) (fun c_10 => ?_) (fun c_10 => ?_)
                      · have n_10 := c_10
                        exact absurd c_10 (by decide)
                      · have n_10 := c_10
                        refine lv_aload_n hx hb dL_law_992 rfl (lv_at hl 18 rfl) ?_
                        refine lv_aload_n hx hb dL_law_993 rfl (lv_at hl 17 rfl) ?_
                        refine lv_ldc2 (v := 998244353) hx hb hown (hts (.constantLong RL 177 (998244353)) (by decide +kernel)) dL_law_994 ?_
                        refine b_csi (v := 1) (W.runS (As := [.ref (a 0), .ref (a 21), .long ((998244353))]) (rest := []) ⟨hx, hb, hml, hown, hts⟩ (c_L_shares_p2 ll D a cI cJ ((mr z32 am nx 0).1) ((mr z32 am nx 0).2) (rnI nw 6)  ) (va_cwS 3 hts gL_law_L_shares rfl rfl rfl (by decide +kernel) ⟨Nat.le_of_ble_eq_true rfl, Nat.le_of_ble_eq_true rfl⟩) ⟨PR.blind, PR.go hP hK hE⟩ rfl rfl hl.1 rfl (lv_room (Nat.le_of_ble_eq_true rfl)) dL_law_997 ⟨(by show cl1 + 1 + 6 + 0 + 0 + 0 ≤ 1000; omega), (by show sl1 + 6 + 36 + 0 + 0 + 0 ≤ 10000; omega)⟩) ?_
                        refine lv_if_ne (tgt := 1005) hx hb dL_law_1000 (by decide) (fun c_11 => ?_) (fun c_11 => ?_)
                        · have n_11 := c_11
                          refine lv_iinc (v := nI (t1 + 1)) (lv' := [(10, .int (nI (t1 + 1))), (17, .int (0)), (16, .int ((-2000002))), (15, .int ((-2000002))), (19, .int (0)), (18, .int (100)), (14, .int (0)), (13, .int (0)), (12, .int (0)), (11, .int (0)), (9, .ref (a 28)), (8, .ref (a 27)), (7, .ref (a 26)), (6, .ref (a 25)), (5, .ref (a 24)), (4, .ref (a 23)), (3, .ref (a 22)), (2, .ref (a 21)), (1, .ref (a 0)), (0, .ref (b))]) hx hb dL_law_1005 hl (k := 9) rfl (nI_1 (t1)) (by decide) rfl (fun ls hl => ?_)
                          refine lv_goto (tgt := 109) hx hb dL_law_1008 (by decide) ?_
                          exact ih1 (t1 + 1) ((mr z32 am nx 0).1) ((mr z32 am nx 0).2) (rnI nw 6) (by omega) _ _ _ _ ls (by omega) (by omega) (by first | omega | exact Nat.le_trans (Nat.le_refl _) hS.1) (by exact hP) (by exact hD) hS (lv_sub hl [0, 10, 11, 12, 13, 14, 15, 16, 17, 18, 19] rfl)
                        · have n_11 := c_11
                          exact absurd c_11 (by decide)
  exact L1 (90) 0 z32 z32 z32 (by omega) _ _ _ _ ls (by omega) (by omega) (by first | omega | exact Nat.le_trans (Nat.le_refl _) hS.1) (by exact hP) (by exact hD) hS (lv_sub hl [0, 1, 2, 3, 4, 5, 6, 7, 8, 9, 10] rfl)
