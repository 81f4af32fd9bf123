abbrev R2 : Room := ({ frames := 20, cells := 1000, slots := 10000, locals := 2000 } : Room)
/-- the script, as it stands at a method's start -/
def PC (b L : Nat) (xs : Nat → Int32) (U : State) : Prop := va_X b L xs U U.heap
theorem PC.blind {av : List Value} {b L : Nat} {xs : Nat → Int32} : FrameBlind (va_Pc av (PC b L xs)) := fun a U g mk h =>
  ⟨h.1, va_X.moved (u := U) (U := U.calling g mk a) (Vm.Alike.refl U.vm) h.2⟩
theorem PC.go {av : List Value} {b L : Nat} {xs : Nat → Int32} {s : State} {H : Heap} (hX : va_X b L xs s H) : ∀ U : State, U.heap = H → s.WarmedH U.vm → va_Pc av (PC b L xs) av.toArray U := fun U hU hW =>
  ⟨rfl, by unfold PC; rw [hU]; exact hX.moved hW.alike⟩
abbrev rmL_cell : Room := ({ frames := 0, cells := 0, slots := 0, locals := 0 } : Room)
set_option maxHeartbeats 4000000 in
set_option maxRecDepth 100000 in
theorem c_L_cell (ll : Launch) (b L : Nat) (xs : Nat → Int32) (k : Nat) (hk : k < L) (hL : L < 2 ^ 31) : Met ll yL_cell wsL_cell rmL_cell (va_Pc [.ref b, .int (nI k)] (PC b L xs)) (vp_Si (fun rr => rr = xs k)) 0 0 (fun _ => False) := by
  refine Met.ofW (cc := cL_cell) (maxL := 2) (ret := (some .int)) (by decide) rfl ?_
  intro pp ee ss mm ar bel mth cde s₁ B hml hv
  obtain ⟨rfl, hX⟩ := hv
  have hX : va_X b L xs ss ss.heap := hX
  have hbl : b < ss.heap.size := by
    obtain ⟨scr, h1, -⟩ := hX
    exact (Array.getElem?_eq_some_iff.mp h1).1
  have hS : va_S (fun _ => False) ss.heap ss.heap [] := va_S.rf
  have hx := B.exec
  have hb := B.bytes
  have hr := B.returns
  have hts := atoms_spec (ws := wsL_cell) B.pre
  have hown : ss.vm.findClass RL = some mm.cls := findClass_of_methodNamed B.named
  have hlocks := B.notSynchronized
  have hl := lv_entry [.ref b, .int (nI k)] (n := 2) (Nat.le_of_ble_eq_true rfl)
  rw [lg_entry_eq]
  generalize (lg_sl [.ref b, .int (nI k)] ++ List.replicate (2 - (lg_sl [.ref b, .int (nI k)]).length) Slot.unset).toArray = ls at hl ⊢
  have hl : lv_has ls 2 [(0, .ref b), (1, .int (nI k))] := hl
  refine lv_iload_n hx hb dL_cell_0 rfl (lv_at hl 1 rfl) ?_
  refine lv_aload_n hx hb dL_cell_1 rfl (lv_at hl 0 rfl) ?_
  refine va_slen hx hb hX hbl (fun h => h) hS dL_cell_2 ?_
  refine lv_icmp_ge (tgt := 12) hx hb dL_cell_3 (by decide) (fun c_1 => ?_) (fun c_1 => ?_)
  · have n_1 : L ≤ k := (nI_leI (a := L) (b := k) (by omega) (by omega)).mp c_1
    exfalso; omega
  · refine lv_aload_n hx hb dL_cell_6 rfl (lv_at hl 0 rfl) ?_
    refine lv_iload_n hx hb dL_cell_7 rfl (lv_at hl 1 rfl) ?_
    refine va_sld hx hb hX hbl (fun h => h) hS (vp_in_nI hk hL) dL_cell_8 ?_
    rw [nI_clamp (by omega)]
    refine lv_goto (tgt := 22) hx hb dL_cell_9 (by decide) ?_
    exact W.iret hx hb hr (fun t ht _ => ⟨_, rfl, rfl, ht⟩) (fun _ h => nomatch h) dL_cell_22
