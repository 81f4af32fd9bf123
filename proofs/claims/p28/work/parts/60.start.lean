def R_law : String := "GroupbooksLaw"
def lw_P (b : Addr) (xs : List Int32) (args : Array Value) (s : State) : Prop := args = #[.ref b] ∧ s.IntsAt b xs ∧ xs.length ≤ 260 ∧ (Jvm.Cond.and given_1 narrow_1).before args s = true
def lw_Q2 (_ : Array Value) (s : State) (o : Outcome) (t : State) : Prop := o = .returned (some (.int 1)) ∧ s.heap.size + 540 ≤ t.heap.size
def lw_Z2 (below : List Frame) (a : Array Value) (s : State) : State → Prop := fun t => ∃ o, t.status = .running ∧ Ended t below o ∧ lw_Q2 a s o t
theorem lw_ret2 {p : Program} {l : Launch} {e : Env} {s : State} {m : MethodId} {below : List Frame} {meth : Method} {c : Code} {b : Nat} (hx : p.tables.exec = Jvm.exec) (hb : c.code = code) (hr : meth.sig.returnType = ret) (hlocks : meth.locks = false) {pc : Nat} {H : Heap} {ls : Array Slot} {cells slots : Nat} (hg : s.heap.size + 540 ≤ H.size) (hdg : decode code pc = .ok (.ireturn, 1)) : W p l e R2 s m #[Value.ref b] below meth c H [] cells slots (lw_Z2 below #[Value.ref b] s) (F0 m pc ls [.int 1]) := by
  intro T hT X
  obtain ⟨fs, hret, hrun, hended, hW, hframe⟩ := X.leave (v := some (.int 1)) (hlocks := hlocks) (fun h => by rw [hr] at h; cases h)
  have hmeth' : T.vm.method? m = some meth := X.method'
  refine ⟨T.setFrames fs, ?_, .returned (some (.int 1)), hrun, hended, rfl, (by show s.heap.size + 540 ≤ T.heap.size; rw [hT]; exact hg)⟩
  jvm_step X.here [X.here.top, hx, hb, hdg, hmeth', hr, ret, narrow_b1]
  (try refine ⟨rfl, ?_⟩); (try refine ⟨rfl, ?_⟩)
  first | (intro acts; rw [hret _ acts rfl rfl rfl]) | rw [hret _ _ rfl rfl rfl]
  exact Steps.refl _
def lw_At (p : Program) (s : State) (m : MethodId) (meth : Method) (c : Code) (b L : Nat) (xs : Nat → Int32) : Prop :=
  p.tables.exec = Jvm.exec ∧ c.code = code ∧ meth.sig.returnType = ret ∧ c.maxLocals = 23 ∧ s.vm.findClass R_law = some m.cls ∧ (∀ w ∈ lw_tbl, w.before #[Value.ref b] s = true) ∧ va_X b L xs s s.heap ∧ b < s.heap.size ∧ meth.locks = false ∧ (Jvm.Cond.and given_1 narrow_1).before #[Value.ref b] s = true
abbrev lwA (s : State) : Nat → Prop := fun q => s.heap.size ≤ q
def lwC (p : Program) (l : Launch) (s : State) (m : MethodId) (meth : Method) (c : Code) (b L : Nat) (xs : Nat → Int32) (D : va_G) (cI cJ : ClassId) : Prop :=
  lw_At p s m meth c b L xs ∧ L ≤ 260 ∧ l.stackTraces = false ∧ va_K D vwCl (tyG cI cJ) s ∧ EVt s ∧ EVh (lwA s) s s.heap ∧ DCL s ∧ va_Nc RIS RIA s
theorem nest_in : ∀ q ∈ nestL, Cond.methodLinkNest q.1 q.2.1 q.2.2 RX3 ∈ lw_tbl := by decide +kernel
set_option maxHeartbeats 4000000 in
set_option maxRecDepth 100000 in
theorem lw_ctx {p : Program} {s : State} {m : MethodId} {meth : Method} {c : Code} {b L : Nat} {xs : Nat → Int32} (l : Launch) (hflags : l.flags = flags0) (hL : L ≤ 260) (C0 : lw_At p s m meth c b L xs) : ∃ (D : va_G) (cI cJ : ClassId), lwC p l s m meth c b L xs D cI cJ := by
  have htb : ∀ w ∈ lw_tbl, w.before #[Value.ref b] s = true := C0.2.2.2.2.2.1
  have hs := flat_of_before _ C0.2.2.2.2.2.2.2.2.2
  obtain ⟨c0, i0, k0⟩ := u_known (C := RX0) (T := TX0) (N := 2) (n := 2) htb inX0 (htb (.instantiable RX0 2) (by decide +kernel))
  obtain ⟨c1, i1, k1⟩ := u_known (C := RX1) (T := TX1) (N := 7) (n := 7) htb inX1 (htb (.instantiable RX1 7) (by decide +kernel))
  obtain ⟨c2, i2, k2⟩ := u_known (C := RX2) (T := TX2) (N := 6) (n := 6) htb inX2 (htb (.instantiable RX2 6) (by decide +kernel))
  obtain ⟨c3, i3, k3⟩ := u_known (C := RX3) (T := TX3) (N := 6) (n := 6) htb inX3 (htb (.instantiable RX3 6) (by decide +kernel))
  obtain ⟨cI, kI, coI, a1, a2, a3⟩ := Cond.arrayClass_spec (htb (.arrayClass .int) (by decide +kernel))
  obtain ⟨cJ, kJ, coJ, b1, b2, b3⟩ := Cond.arrayClass_spec (htb (.arrayClass .long) (by decide +kernel))
  refine ⟨(fun k => if k = 0 then c0 else if k = 1 then c1 else if k = 2 then c2 else c3, fun k => if k = 0 then i0 else if k = 1 then i1 else if k = 2 then i2 else i3), cI, cJ, C0, hL, ?_, ⟨?_, ?_⟩, ?_, ?_, ?_, ?_⟩
  · unfold Launch.stackTraces
    rw [hflags]
    decide +kernel
  · intro k q hq
    match k, hq with
    | 0, hq => cases hq; exact k0
    | 1, hq => cases hq; exact k1
    | 2, hq => cases hq; exact k2
    | 3, hq => cases hq; exact k3
    | k + 4, hq => simp [vwCl] at hq
  · intro k q hq
    match k, hq with
    | 0, hq => cases hq; exact ⟨fun n z => ⟨fun k h => (by cases h), kI, a2, coI, a3⟩, a1⟩
    | 1, hq => cases hq; exact ⟨fun n z => ⟨fun k h => (by cases h), kJ, b2, coJ, b3⟩, b1⟩
    | k + 2, hq => simp at hq
  · have st : ∀ (k : Nat) (tx : String), Cond.stringRef RX3 k tx ∈ lw_tbl → (Cond.exactly (.string RX3 k) "java/lang/String").before #[Value.ref b] s = true → ∃ z, vk_R RX3 k tx z s := fun k tx h1 h2 => by
      obtain ⟨z, _, _, _, e, -⟩ := Cond.exactly_spec h2
      exact ⟨z, vk_R.of (htb _ h1) e⟩
    exact ⟨fun q hq => va_Nw.of rfl (htb _ (nest_in q hq)), va_Nw.of rfl (htb (.castable RIA RIA) (by decide +kernel)), va_Nw.of rfl (htb (.castable RIS RIS) (by decide +kernel)),
      st 165 "argument out of range" (by decide +kernel) (hs _ (by decide +kernel)), st 163 "a company and itself" (by decide +kernel) (hs _ (by decide +kernel)), st 169 "holdings not possible" (by decide +kernel) (hs _ (by decide +kernel)),
      st 167 "books do not balance" (by decide +kernel) (hs _ (by decide +kernel)), st 144 "all periods are closed" (by decide +kernel) (hs _ (by decide +kernel)), st 157 "period not closed" (by decide +kernel) (hs _ (by decide +kernel))⟩
  · exact ⟨vx_Zqof (htb (.laysStatic Bundle.tN "UNASSIGNED_STACK" Bundle.steD) (by decide +kernel)) (htb (.initialized Bundle.tN) (by decide +kernel)) (hs (.isRef (.static Bundle.tN "UNASSIGNED_STACK" Bundle.steD)) (by decide +kernel)) (fun a h => Nat.not_le.mpr h),
      vx_Zqof (htb (.laysStatic Bundle.tN "SUPPRESSED_SENTINEL" Bundle.listD) (by decide +kernel)) (htb (.initialized Bundle.tN) (by decide +kernel)) (hs (.isRef (.static Bundle.tN "SUPPRESSED_SENTINEL" Bundle.listD)) (by decide +kernel)) (fun a h => Nat.not_le.mpr h)⟩
  · exact ⟨va_Nw.of rfl (htb _ (by decide +kernel)), va_Nw.of rfl (htb _ (by decide +kernel)), va_Nw.of rfl (htb _ (by decide +kernel))⟩
  · exact va_Nc.of (hs (.not (.castable RIS RIA)) (by decide +kernel))


def ax (u q : Nat → Nat) (k : Nat) : Nat := if k < 21 then u k else q k
def q8 (x0 x1 x2 x3 x4 x5 x6 x7 : Nat) (k : Nat) : Nat := if k = 21 then x0 else if k = 22 then x1 else if k = 23 then x2 else if k = 24 then x3 else if k = 25 then x4 else if k = 26 then x5 else if k = 27 then x6 else x7
theorem jw_eq (u : Nat → Nat) (cI cJ : ClassId) (x0 x1 x2 x3 x4 x5 x6 x7 : Nat) : JW (ax u (q8 x0 x1 x2 x3 x4 x5 x6 x7)) cI cJ z32 = KG u cI cJ z32 z32 ++ [(x0, eI cI 36 z32), (x1, eI cI 36 z32), (x2, eI cI 36 z32), (x3, eI cI 42 z32), (x4, eI cI 18 z32), (x5, eI cI 1 z32), (x6, eI cI 6 z32), (x7, eI cI 6 z32)] := rfl
set_option maxHeartbeats 4000000 in
set_option maxRecDepth 100000 in
theorem start2 {p : Program} {e : Env} {s : State} {m : MethodId} {below : List Frame} {meth : Method} {c : Code} (l : Launch) (hflags : l.flags = flags0) {b L : Nat} {xs : Nat → Int32} (hL : L ≤ 260) (h90 : 90 ≤ L) (hxs : ∀ j, j < 90 → xs j = 0) (C0 : lw_At p s m meth c b L xs) : W p l e R2 s m #[Value.ref b] below meth c s.heap [] 0 0 (lw_Z2 below #[Value.ref b] s) (entryFrame m ([Value.ref b] : List Value).toArray 23) := by
  obtain ⟨D, cI, cJ, C⟩ := lw_ctx l hflags hL C0
  obtain ⟨⟨hx, hb, hr, hml, hown, htb, hX, hbl, hlocks, hgv⟩, -, hst, hK, hE, hV, hDC, -⟩ := C
  have hts : ∀ w ∈ wsL_law, w.before #[Value.ref b] s = true := fun w h => htb w (wsL_law_in w h)
  have hA : ∀ q : Nat, s.heap.size ≤ q → lwA s q := fun _ h => h
  have hS : va_S (lwA s) s.heap s.heap [] := va_S.rf
  have hP : va_P D vwCl ([] : va_W) s.heap := P_nil
  have hD : va_D (lwA s) ([] : va_W) := D_nil
  have hl := lv_entry ([.ref b]) (n := 23) (Nat.le_of_ble_eq_true rfl)
  rw [lg_entry_eq]
  generalize (lg_sl ([.ref b]) ++ List.replicate (23 - (lg_sl ([.ref b])).length) Slot.unset).toArray = ls at hl ⊢
  have hl : lv_has ls 23 [(0, .ref b)] := hl
  refine va_new (ci := 3) (fs := [.null, .null, .null, .null, .null, .int 0]) (C := RX3) (T := TX3) (N := 6) hx hb htb inX3 tyX3 tyX3_ok hown (hts (.classLink RL 11 RX3) (by decide +kernel)) (hts (.instantiable RX3 6) (by decide +kernel)) (hts (.initialized RX3) (by decide +kernel)) hK hP hD hS hA rfl (by decide) (Nat.le_of_ble_eq_true rfl) (Nat.le_of_ble_eq_true rfl) dL_law_0 (fun q0 H hP hD hS => ?_)
  have hP : va_P D vwCl ([(q0, .inr (3, [.null, .null, .null, .null, .null, .int 0]))] ++ []) H := hP
  have hD : va_D (lwA s) ([(q0, .inr (3, [.null, .null, .null, .null, .null, .int 0]))] ++ []) := hD
  refine W.widen (k := 1) (n := 6) (Nat.le_of_ble_eq_true rfl) (Nat.le_of_ble_eq_true rfl) ?_
  refine lv_dup hx hb dL_law_3 rfl ?_
  refine b_callvP (S := Nat → Nat) (wc := [(q0, .inr (3, [.null, .null, .null, .null, .null, .int 0]))]) (wr := []) (w' := fun u1 => KG u1 cI cJ z32 z32) hP hD hS hA (va_runI (As := []) (rest := [.ref q0]) ⟨hx, hb, hml, hown, hts⟩ (c_X3_init l D cI cJ _ q0) (cwI 0 hts gL_law_X3_init rfl rfl rfl (hts (.initialized RX3) (by decide +kernel)) (hts (.methodLink RL 136 yX3_init) (by decide +kernel)) (hts (.instanceMethod yX3_init) (by decide +kernel)) rfl (by decide +kernel) ⟨Nat.le_of_ble_eq_true rfl, Nat.le_of_ble_eq_true rfl⟩) ⟨PW.blind, PW.goP hP hK hD hE⟩ rfl rfl hl.1 rfl (lv_room (Nat.le_of_ble_eq_true rfl)) dL_law_4 ⟨Nat.le_of_ble_eq_true rfl, Nat.le_of_ble_eq_true rfl⟩) (fun u1 H locs hu hP2 hD2 hS2 => ?_)
  obtain rfl : u1 0 = q0 := hu
  have hP : va_P D vwCl (KG u1 cI cJ z32 z32) H := hP2
  have hD : va_D (lwA s) (KG u1 cI cJ z32 z32) := hD2
  have hS := hS2
  refine W.widen (k := 21) (n := 249) (Nat.le_of_ble_eq_true rfl) (Nat.le_of_ble_eq_true rfl) ?_
  refine lv_astore_n (lv' := [(1, .ref (u1 0)), (0, .ref b)]) hx hb dL_law_7 rfl hl (by decide) rfl (fun ls hl => ?_)
  refine lv_bipush (v := 36) hx hb dL_law_8 (by decide) ?_
  refine b_newI (N := 36) hx hb (hts (.arrayClass .int) (by decide +kernel)) hK hP hD hS hA (by decide) (by decide) (by decide) (Nat.le_of_ble_eq_true rfl) (Nat.le_of_ble_eq_true rfl) dL_law_10 (fun x0 H hP hD hS => ?_)
  have hP : va_P D vwCl (KG u1 cI cJ z32 z32 ++ [(x0, eI cI 36 z32)]) H := hP
  have hD : va_D (lwA s) (KG u1 cI cJ z32 z32 ++ [(x0, eI cI 36 z32)]) := hD
  refine W.widen (k := 22) (n := 285) (Nat.le_of_ble_eq_true rfl) (Nat.le_of_ble_eq_true rfl) ?_
  refine lv_astore_n (lv' := [(2, .ref x0), (1, .ref (u1 0)), (0, .ref b)]) hx hb dL_law_12 rfl hl (by decide) rfl (fun ls hl => ?_)
  refine lv_bipush (v := 36) hx hb dL_law_13 (by decide) ?_
  refine b_newI (N := 36) hx hb (hts (.arrayClass .int) (by decide +kernel)) hK hP hD hS hA (by decide) (by decide) (by decide) (Nat.le_of_ble_eq_true rfl) (Nat.le_of_ble_eq_true rfl) dL_law_15 (fun x1 H hP hD hS => ?_)
  have hP : va_P D vwCl (KG u1 cI cJ z32 z32 ++ [(x0, eI cI 36 z32), (x1, eI cI 36 z32)]) H := hP
  have hD : va_D (lwA s) (KG u1 cI cJ z32 z32 ++ [(x0, eI cI 36 z32), (x1, eI cI 36 z32)]) := hD
  refine W.widen (k := 23) (n := 321) (Nat.le_of_ble_eq_true rfl) (Nat.le_of_ble_eq_true rfl) ?_
  refine lv_astore_n (lv' := [(3, .ref x1), (2, .ref x0), (1, .ref (u1 0)), (0, .ref b)]) hx hb dL_law_17 rfl hl (by decide) rfl (fun ls hl => ?_)
  refine lv_bipush (v := 36) hx hb dL_law_18 (by decide) ?_
  refine b_newI (N := 36) hx hb (hts (.arrayClass .int) (by decide +kernel)) hK hP hD hS hA (by decide) (by decide) (by decide) (Nat.le_of_ble_eq_true rfl) (Nat.le_of_ble_eq_true rfl) dL_law_20 (fun x2 H hP hD hS => ?_)
  have hP : va_P D vwCl (KG u1 cI cJ z32 z32 ++ [(x0, eI cI 36 z32), (x1, eI cI 36 z32), (x2, eI cI 36 z32)]) H := hP
  have hD : va_D (lwA s) (KG u1 cI cJ z32 z32 ++ [(x0, eI cI 36 z32), (x1, eI cI 36 z32), (x2, eI cI 36 z32)]) := hD
  refine W.widen (k := 24) (n := 357) (Nat.le_of_ble_eq_true rfl) (Nat.le_of_ble_eq_true rfl) ?_
  refine lv_astore (lv' := [(4, .ref x2), (3, .ref x1), (2, .ref x0), (1, .ref (u1 0)), (0, .ref b)]) hx hb dL_law_22 hl (by decide) rfl (fun ls hl => ?_)
  refine lv_bipush (v := 42) hx hb dL_law_24 (by decide) ?_
  refine b_newI (N := 42) hx hb (hts (.arrayClass .int) (by decide +kernel)) hK hP hD hS hA (by decide) (by decide) (by decide) (Nat.le_of_ble_eq_true rfl) (Nat.le_of_ble_eq_true rfl) dL_law_26 (fun x3 H hP hD hS => ?_)
  have hP : va_P D vwCl (KG u1 cI cJ z32 z32 ++ [(x0, eI cI 36 z32), (x1, eI cI 36 z32), (x2, eI cI 36 z32), (x3, eI cI 42 z32)]) H := hP
  have hD : va_D (lwA s) (KG u1 cI cJ z32 z32 ++ [(x0, eI cI 36 z32), (x1, eI cI 36 z32), (x2, eI cI 36 z32), (x3, eI cI 42 z32)]) := hD
  refine W.widen (k := 25) (n := 399) (Nat.le_of_ble_eq_true rfl) (Nat.le_of_ble_eq_true rfl) ?_
  refine lv_astore (lv' := [(5, .ref x3), (4, .ref x2), (3, .ref x1), (2, .ref x0), (1, .ref (u1 0)), (0, .ref b)]) hx hb dL_law_28 hl (by decide) rfl (fun ls hl => ?_)
  refine lv_bipush (v := 18) hx hb dL_law_30 (by decide) ?_
  refine b_newI (N := 18) hx hb (hts (.arrayClass .int) (by decide +kernel)) hK hP hD hS hA (by decide) (by decide) (by decide) (Nat.le_of_ble_eq_true rfl) (Nat.le_of_ble_eq_true rfl) dL_law_32 (fun x4 H hP hD hS => ?_)
  have hP : va_P D vwCl (KG u1 cI cJ z32 z32 ++ [(x0, eI cI 36 z32), (x1, eI cI 36 z32), (x2, eI cI 36 z32), (x3, eI cI 42 z32), (x4, eI cI 18 z32)]) H := hP
  have hD : va_D (lwA s) (KG u1 cI cJ z32 z32 ++ [(x0, eI cI 36 z32), (x1, eI cI 36 z32), (x2, eI cI 36 z32), (x3, eI cI 42 z32), (x4, eI cI 18 z32)]) := hD
  refine W.widen (k := 26) (n := 417) (Nat.le_of_ble_eq_true rfl) (Nat.le_of_ble_eq_true rfl) ?_
  refine lv_astore (lv' := [(6, .ref x4), (5, .ref x3), (4, .ref x2), (3, .ref x1), (2, .ref x0), (1, .ref (u1 0)), (0, .ref b)]) hx hb dL_law_34 hl (by decide) rfl (fun ls hl => ?_)
  refine lv_iconst (v := 1) hx hb dL_law_36 (by decide) ?_
  refine b_newI (N := 1) hx hb (hts (.arrayClass .int) (by decide +kernel)) hK hP hD hS hA (by decide) (by decide) (by decide) (Nat.le_of_ble_eq_true rfl) (Nat.le_of_ble_eq_true rfl) dL_law_37 (fun x5 H hP hD hS => ?_)
  have hP : va_P D vwCl (KG u1 cI cJ z32 z32 ++ [(x0, eI cI 36 z32), (x1, eI cI 36 z32), (x2, eI cI 36 z32), (x3, eI cI 42 z32), (x4, eI cI 18 z32), (x5, eI cI 1 z32)]) H := hP
  have hD : va_D (lwA s) (KG u1 cI cJ z32 z32 ++ [(x0, eI cI 36 z32), (x1, eI cI 36 z32), (x2, eI cI 36 z32), (x3, eI cI 42 z32), (x4, eI cI 18 z32), (x5, eI cI 1 z32)]) := hD
  refine W.widen (k := 27) (n := 418) (Nat.le_of_ble_eq_true rfl) (Nat.le_of_ble_eq_true rfl) ?_
  refine lv_astore (lv' := [(7, .ref x5), (6, .ref x4), (5, .ref x3), (4, .ref x2), (3, .ref x1), (2, .ref x0), (1, .ref (u1 0)), (0, .ref b)]) hx hb dL_law_39 hl (by decide) rfl (fun ls hl => ?_)
  refine lv_bipush (v := 6) hx hb dL_law_41 (by decide) ?_
  refine b_newI (N := 6) hx hb (hts (.arrayClass .int) (by decide +kernel)) hK hP hD hS hA (by decide) (by decide) (by decide) (Nat.le_of_ble_eq_true rfl) (Nat.le_of_ble_eq_true rfl) dL_law_43 (fun x6 H hP hD hS => ?_)
  have hP : va_P D vwCl (KG u1 cI cJ z32 z32 ++ [(x0, eI cI 36 z32), (x1, eI cI 36 z32), (x2, eI cI 36 z32), (x3, eI cI 42 z32), (x4, eI cI 18 z32), (x5, eI cI 1 z32), (x6, eI cI 6 z32)]) H := hP
  have hD : va_D (lwA s) (KG u1 cI cJ z32 z32 ++ [(x0, eI cI 36 z32), (x1, eI cI 36 z32), (x2, eI cI 36 z32), (x3, eI cI 42 z32), (x4, eI cI 18 z32), (x5, eI cI 1 z32), (x6, eI cI 6 z32)]) := hD
  refine W.widen (k := 28) (n := 424) (Nat.le_of_ble_eq_true rfl) (Nat.le_of_ble_eq_true rfl) ?_
  refine lv_astore (lv' := [(8, .ref x6), (7, .ref x5), (6, .ref x4), (5, .ref x3), (4, .ref x2), (3, .ref x1), (2, .ref x0), (1, .ref (u1 0)), (0, .ref b)]) hx hb dL_law_45 hl (by decide) rfl (fun ls hl => ?_)
  refine lv_bipush (v := 6) hx hb dL_law_47 (by decide) ?_
  refine b_newI (N := 6) hx hb (hts (.arrayClass .int) (by decide +kernel)) hK hP hD hS hA (by decide) (by decide) (by decide) (Nat.le_of_ble_eq_true rfl) (Nat.le_of_ble_eq_true rfl) dL_law_49 (fun x7 H hP hD hS => ?_)
  have hP : va_P D vwCl (KG u1 cI cJ z32 z32 ++ [(x0, eI cI 36 z32), (x1, eI cI 36 z32), (x2, eI cI 36 z32), (x3, eI cI 42 z32), (x4, eI cI 18 z32), (x5, eI cI 1 z32), (x6, eI cI 6 z32), (x7, eI cI 6 z32)]) H := hP
  have hD : va_D (lwA s) (KG u1 cI cJ z32 z32 ++ [(x0, eI cI 36 z32), (x1, eI cI 36 z32), (x2, eI cI 36 z32), (x3, eI cI 42 z32), (x4, eI cI 18 z32), (x5, eI cI 1 z32), (x6, eI cI 6 z32), (x7, eI cI 6 z32)]) := hD
  refine W.widen (k := 29) (n := 430) (Nat.le_of_ble_eq_true rfl) (Nat.le_of_ble_eq_true rfl) ?_
  refine lv_astore (lv' := [(9, .ref x7), (8, .ref x6), (7, .ref x5), (6, .ref x4), (5, .ref x3), (4, .ref x2), (3, .ref x1), (2, .ref x0), (1, .ref (u1 0)), (0, .ref b)]) hx hb dL_law_51 hl (by decide) rfl (fun ls hl => ?_)
  rw [← jw_eq] at hP hD
  have hl : lv_has ls 23 [(9, .ref ((ax u1 (q8 x0 x1 x2 x3 x4 x5 x6 x7)) 28)), (8, .ref ((ax u1 (q8 x0 x1 x2 x3 x4 x5 x6 x7)) 27)), (7, .ref ((ax u1 (q8 x0 x1 x2 x3 x4 x5 x6 x7)) 26)), (6, .ref ((ax u1 (q8 x0 x1 x2 x3 x4 x5 x6 x7)) 25)), (5, .ref ((ax u1 (q8 x0 x1 x2 x3 x4 x5 x6 x7)) 24)), (4, .ref ((ax u1 (q8 x0 x1 x2 x3 x4 x5 x6 x7)) 23)), (3, .ref ((ax u1 (q8 x0 x1 x2 x3 x4 x5 x6 x7)) 22)), (2, .ref ((ax u1 (q8 x0 x1 x2 x3 x4 x5 x6 x7)) 21)), (1, .ref ((ax u1 (q8 x0 x1 x2 x3 x4 x5 x6 x7)) 0)), (0, .ref b)] := hl
  refine k_init (A := lwA s) hst hx hb hml hown hts hK hE hV hDC hA hX hbl (Nat.not_le.mpr hbl) h90 (Nat.lt_of_le_of_lt hL (by decide)) hxs (fun c9 s9 H locs ls h1 h2 hg hS => ?_) (Nat.le_trans (Nat.le_refl _) hS.1) hP hD hS hl
  refine lv_iconst (v := 1) hx hb dL_law_1011 (by decide) ?_
  refine va_forget (fun q hq => hS.2.2 q hq) ?_
  exact lw_ret2 hx hb hr hlocks hg dL_law_1012
set_option maxHeartbeats 4000000 in
theorem lw_walk2 (l : Launch) (hflags : l.flags = flags0) (b : Addr) (xs : List Int32) : MetFree l x (headSpec (Jvm.Cond.code x code maxLocals ret :: tables_1) R2) (fun a s => lw_P b xs a s ∧ 90 ≤ xs.length ∧ ∀ j, j < 90 → xs.getD j 0 = 0) (fun _ _ _ _ _ => True) lw_Q2 := by
  refine MetFree.of_bodyS (code := code) (maxLocals := maxLocals) (ret := ret) (by decide) ?_ ?_
  · intro args s m h hn
    obtain ⟨meth, c, h1, h2, h3, h4, h5, h6, -, -⟩ := Cond.code_spec hn (atoms_spec (ws := Jvm.Cond.code x code maxLocals ret :: tables_1) h _ List.mem_cons_self)
    exact ⟨meth, c, h1, h2, h3, h4, h5, h6⟩
  · intro p e s m args below meth c s₁ B hml0 hP _
    obtain ⟨⟨rfl, hx, hbd, hgv⟩, h90, hz⟩ := hP
    obtain ⟨scr, harrAt, hlist, hof, hsmall⟩ := hx
    obtain ⟨hcb, hkn, -, -⟩ := State.arrayAt?_spec harrAt
    have hown : s.vm.findClass R_law = some m.cls := findClass_of_methodNamed B.named
    have hts0 : ∀ c ∈ (Jvm.Cond.code x code maxLocals ret :: tables_1), c.before #[Value.ref b] s = true := atoms_spec (ws := Jvm.Cond.code x code maxLocals ret :: tables_1) B.pre
    have hts : ∀ w ∈ lw_tbl, w.before #[Value.ref b] s = true := k2_hts_sels lw_privs (fun w hw => hts0 w (List.mem_cons_of_mem _ hw)) lw_privs_ok
    have hml : c.maxLocals = 23 := B.maxLocals_eq (hts0 _ List.mem_cons_self)
    have X₀ : Stand p l e R2 s m #[Value.ref b] below meth c s₁ [] 0 0 := Stand.of_body B
    have hh0 : s₁.heap = s.heap := by rw [B.state]; rfl
    have hsz : scr.slots.size = xs.length := by rw [← Array.length_toList, hlist, List.length_map]
    have hval : ∀ j : Nat, j < xs.length → scr.slots[j]? = some (.int (xs.getD j 0)) := fun j hj => by
      rw [← Array.getElem?_toList, hlist]
      simp [hj]
    have hbl : b < s.heap.size := (Array.getElem?_eq_some_iff.mp hcb).1
    have hX : va_X b xs.length (fun j => xs.getD j 0) s s.heap := ⟨scr, hcb, hof, hkn, hsz, hval⟩
    have K : W p l e R2 s m #[Value.ref b] below meth c s₁.heap [] 0 0 (lw_Z2 below #[Value.ref b] s) (entryFrame m ([Value.ref b] : List Value).toArray 23) := by
      rw [hh0]
      exact start2 l hflags hbd h90 hz ⟨B.exec, B.bytes, B.returns, hml, hown, hts, hX, hbl, B.notSynchronized, hgv⟩
    obtain ⟨t, a1, o, b1, b2, b3⟩ := K s₁ rfl X₀
    exact ⟨t, o, a1, b1, b2, b3⟩
