/-- the law's cells: the class's, its own row, the reference's -/
abbrev LW (a b : Nat → Nat) (o0 : Nat) (cI cJ : ClassId) (p : Nat → Int32) (nu de eq : Nat → Int64) (am nx oA oD oE oP cR aR hR cl ad gw pr : Nat → Int32) (n : Int32) (ou : Nat → Int64) (he cm a2 g2 as db ey re co av hi ke : Nat → Int32) (sq ab be : Nat → Int64) (nw tn : Nat → Int32) (th cd : Int32) : va_W :=
  (GW a cI cJ p nu de eq am nx oA oD oE oP cR aR hR cl ad gw pr n ++ [(o0, eJ cJ 1 ou)]) ++ MW b cI cJ he cm a2 g2 as db ey re co av hi ke sq ab be nw tn th cd
abbrev lwA (s : State) : Nat → Prop := fun q => s.heap.size ≤ q
def lwC (p : Program) (l : Launch) (s : State) (m : MethodId) (meth : Method) (c : Code) (b L : Nat) (xs : Nat → Int32) (D : va_G) (cI cJ : ClassId) : Prop :=
  lw_At p s m meth c b L xs ∧ L ≤ 3072 ∧ l.stackTraces = false ∧ va_K D vwCl (tyG cI cJ) s ∧ EVt s ∧ EVh (lwA s) s s.heap ∧ DCL s ∧ va_Nc RIS RIA s
section LB
variable {p : Program} {l : Launch} {e : Env} {s : State} {m : MethodId} {args : Array Value} {below : List Frame} {meth : Method} {c : Code} {H : Heap} {locs : List Loc} {cells slots : Nat} {Q : State → Prop}
variable {pc : Nat} {ls : Array Slot} {st : List Value} {D : va_G} {b L : Nat} {xs : Nat → Int32} {cI cJ : ClassId} {R : Room}
theorem lwC.hx (C : lwC p l s m meth c b L xs D cI cJ) : p.tables.exec = Jvm.exec := C.1.1
theorem lwC.hb (C : lwC p l s m meth c b L xs D cI cJ) : c.code = cL_law := C.1.2.1
theorem lwC.hr (C : lwC p l s m meth c b L xs D cI cJ) : meth.sig.returnType = ret := C.1.2.2.1
theorem lwC.hml (C : lwC p l s m meth c b L xs D cI cJ) : c.maxLocals = 8 := C.1.2.2.2.1
theorem lwC.hown (C : lwC p l s m meth c b L xs D cI cJ) : s.vm.findClass RL = some m.cls := C.1.2.2.2.2.1
theorem lwC.htb (C : lwC p l s m meth c b L xs D cI cJ) : ∀ w ∈ lw_tbl, w.before #[Value.ref b] s = true := C.1.2.2.2.2.2.1
theorem lwC.hts (C : lwC p l s m meth c b L xs D cI cJ) : ∀ w ∈ wsL_law, w.before #[Value.ref b] s = true := fun w h => C.htb w (wsL_law_in w h)
theorem lwC.hX (C : lwC p l s m meth c b L xs D cI cJ) : va_X b L xs s s.heap := C.1.2.2.2.2.2.2.1
theorem lwC.hbl (C : lwC p l s m meth c b L xs D cI cJ) : b < s.heap.size := C.1.2.2.2.2.2.2.2.1
theorem lwC.hlocks (C : lwC p l s m meth c b L xs D cI cJ) : meth.locks = false := C.1.2.2.2.2.2.2.2.2.1
theorem lwC.hL (C : lwC p l s m meth c b L xs D cI cJ) : L ≤ 3072 := C.2.1
theorem lwC.hst (C : lwC p l s m meth c b L xs D cI cJ) : l.stackTraces = false := C.2.2.1
theorem lwC.hK (C : lwC p l s m meth c b L xs D cI cJ) : va_K D vwCl (tyG cI cJ) s := C.2.2.2.1
theorem lwC.hE (C : lwC p l s m meth c b L xs D cI cJ) : EVt s := C.2.2.2.2.1
theorem lwC.hV (C : lwC p l s m meth c b L xs D cI cJ) : EVh (lwA s) s s.heap := C.2.2.2.2.2.1
theorem lwC.hDC (C : lwC p l s m meth c b L xs D cI cJ) : DCL s := C.2.2.2.2.2.2.1
theorem lwC.hNc (C : lwC p l s m meth c b L xs D cI cJ) : va_Nc RIS RIA s := C.2.2.2.2.2.2.2
theorem lwC.fix (C : lwC p l s m meth c b L xs D cI cJ) : CallFix p m c cL_law 8 s #[Value.ref b] wsL_law RL := ⟨C.hx, C.hb, C.hml, C.hown, C.hts⟩
theorem hA_ (s : State) : ∀ q : Nat, s.heap.size ≤ q → lwA s q := fun _ h => h
/-- script[i + k] on the stack -/
theorem ld_arg (C : lwC p l s m meth c b L xs D cI cJ) (hS : va_S (lwA s) s.heap H locs) {i k : Nat} {v : Int32} {q0 : Fin 4} {z : Int} (h0 : ls[0]? = some (.val (.ref b))) (h4 : ls[4]? = some (.val (.int (nI i)))) (hk : i + k < L) (hz : Int32.ofInt z = nI k) (hv : xs (i + k) = v) (hq : (q0 : Nat) = 0)
    (d0 : decode cL_law pc = .ok (.aload_n q0, 1)) (d1 : decode cL_law (pc + 1) = .ok (.iload 4, 2)) (d2 : decode cL_law (pc + 3) = .ok (.iconst z, 1)) (d3 : decode cL_law (pc + 4) = .ok (.iadd, 1)) (d4 : decode cL_law (pc + 5) = .ok (.iaload, 1))
    (kk : W p l e R s m args below meth c H locs cells slots Q (F0 m (pc + 6) ls (.int v :: st))) : W p l e R s m args below meth c H locs cells slots Q (F0 m pc ls st) := by
  have hL := C.hL
  refine lv_aload_n C.hx C.hb d0 hq h0 ?_
  refine lv_iload C.hx C.hb d1 h4 ?_
  refine lv_iconst (v := nI k) C.hx C.hb d2 hz ?_
  refine lv_iadd C.hx C.hb d3 ?_
  rw [nI_add]
  refine va_sld C.hx C.hb C.hX C.hbl (Nat.not_le.mpr C.hbl) hS (vp_in_nI hk (by omega)) d4 ?_
  rw [nI_clamp (by omega), hv]
  exact kk
theorem PY.bl2 {av : List Value} {tys : List (ClassId × FieldType)} {ws : va_W} {sz : Nat} : FrameBlind (va_Pc av (fun U => PY D tys ws sz U ∧ va_Nc RIS RIA U)) := fun a U g mk h =>
  ⟨h.1, (PY.blind a U g mk ⟨h.1, h.2.1⟩).2, va_Nc.moved (u := U) (U := U.calling g mk a) (Vm.Alike.refl U.vm) h.2.2⟩
theorem PY.go2 {av : List Value} {tys : List (ClassId × FieldType)} {wc wr : va_W} {A : Nat → Prop} (hP : va_P D vwCl (wc ++ wr) H) (hK : va_K D vwCl tys s) (hD : va_D A (wc ++ wr)) (hE : EVt s) (hV : EVh A s s.heap) (hDC : DCL s) (hNc : va_Nc RIS RIA s) (hS : va_S A s.heap H locs) (hA : ∀ q, s.heap.size ≤ q → A q) :
    ∀ U : State, U.heap = H → s.WarmedH U.vm → va_Pc av (fun U => PY D tys wc H.size U ∧ va_Nc RIS RIA U) av.toArray U := fun U hU hW =>
  ⟨rfl, (PY.go (av := av) hP hK hD hE hV hDC hS hA U hU hW).2, va_Nc.moved hW.alike hNc⟩
theorem toMG {a b2 : va_W} (hP : va_P D vwCl (a ++ b2) H) : va_P D vwCl (b2 ++ a) H := va_P.swap (a := []) hP
theorem toMGd {A : Nat → Prop} {a b2 : va_W} (hD : va_D A (a ++ b2)) : va_D A (b2 ++ a) := va_D.swap (a := []) hD
theorem lg_eq (x : Int64) : lg_cmp x x = 0 := by simp [lg_cmp]
/-- behind the two calls: neither threw, and the answers are one -/
theorem tl_i (C : lwC p l s m meth c b L xs D cI cJ) {bb : Nat → Nat} {o0 : Nat} {ou : Nat → Int64} {x : Int32} {wg : va_W} {he cm a2 g2 as db ey re co av hi ke : Nat → Int32} {sq ab be : Nat → Int64} {nw tn : Nat → Int32} {cd : Int32} {q2 q3 : Fin 4}
    (hP : va_P D vwCl (MW bb cI cJ he cm a2 g2 as db ey re co av hi ke sq ab be nw tn 0 cd ++ wg) H) (hw : wg[21]? = some (o0, eJ cJ 1 ou)) (hS : va_S (lwA s) s.heap H locs) (hsz : ls.size = 8)
    (h2 : ls[2]? = some (.val (.ref (bb 0)))) (h3 : ls[3]? = some (.val (.ref o0))) (h5 : ls[5]? = some (.val (.int 0))) (h6 : ls[6]? = some (.val (.int x))) (hu : ou 0 = x.toInt64) (hq2 : (q2 : Nat) = 2) (hq3 : (q3 : Nat) = 3)
    {t1 t2 t3 : Int} (e1 : ((pc + 6 : Nat) : Int) + t1 = ((pc + 11 : Nat) : Int)) (e2 : ((pc + 13 : Nat) : Int) + t2 = ((pc + 28 : Nat) : Int)) (e3 : ((pc + 23 : Nat) : Int) + t3 = ((pc + 28 : Nat) : Int)) {t4 : Int} (e4 : ((pc + 28 : Nat) : Int) + t4 = ((1472 : Nat) : Int))
    (d0 : decode cL_law pc = .ok (.aload_n q2, 1)) (d1 : decode cL_law (pc + 1) = .ok (.invokevirtual 88, 3)) (d4 : decode cL_law (pc + 4) = .ok (.iload 5, 2)) (d6 : decode cL_law (pc + 6) = .ok (.if_icmp .eq t1, 3))
    (d11 : decode cL_law (pc + 11) = .ok (.iload 5, 2)) (d13 : decode cL_law (pc + 13) = .ok (.ifCond .ne t2, 3)) (d16 : decode cL_law (pc + 16) = .ok (.aload_n q3, 1)) (d17 : decode cL_law (pc + 17) = .ok (.iconst 0, 1)) (d18 : decode cL_law (pc + 18) = .ok (.laload, 1))
    (d19 : decode cL_law (pc + 19) = .ok (.iload 6, 2)) (d21 : decode cL_law (pc + 21) = .ok (.i2l, 1)) (d22 : decode cL_law (pc + 22) = .ok (.lcmp, 1)) (d23 : decode cL_law (pc + 23) = .ok (.ifCond .eq t3, 3)) (d28 : decode cL_law (pc + 28) = .ok (.goto t4, 3))
    (kk : W p l e room_1 s m #[Value.ref b] below meth c H locs cells slots Q (F0 m 1472 ls [])) (hcs : cells + 0 ≤ 1070 ∧ slots + 0 ≤ 8714) : W p l e room_1 s m #[Value.ref b] below meth c H locs cells slots Q (F0 m pc ls []) := by
  have hK := C.hK
  have hE := C.hE
  refine lv_aload_n C.hx C.hb d0 hq2 h2 ?_
  refine b_csi (v := 0) (W.runV (As := []) (rest := []) C.fix (c_X4_thrown l D bb cI cJ he cm a2 g2 as db ey re co av hi ke sq ab be nw tn 0 cd) (cwV 0 C.hts gL_law_X4_thrown rfl rfl rfl (by decide +kernel) ⟨Nat.le_of_ble_eq_true rfl, Nat.le_of_ble_eq_true rfl⟩) ⟨PR.blind, va_recv hK hP (ci := 4) (q0 := 0) rfl rfl, PR.goP hP hK hE⟩ rfl rfl hsz rfl (lv_room (Nat.le_of_ble_eq_true rfl)) d1 hcs) ?_
  refine lv_iload C.hx C.hb d4 h5 ?_
  refine lv_icmp_eq (tgt := pc + 11) C.hx C.hb d6 e1 (fun _ => ?_) (fun h => absurd rfl h)
  refine lv_iload C.hx C.hb d11 h5 ?_
  refine lv_if_ne (tgt := pc + 28) C.hx C.hb d13 e2 (fun h => absurd rfl h) (fun _ => ?_)
  refine lv_aload_n C.hx C.hb d16 hq3 h3 ?_
  refine lv_iconst (v := nI 0) C.hx C.hb d17 (by decide) ?_
  refine b_lald C.hx C.hb hK hP 39 1 (j := 0) (by show wg[21]? = _; exact hw) rfl (by decide) (by decide) d18 ?_
  refine lv_iload C.hx C.hb d19 h6 ?_
  refine lv_i2l (v := x.toInt64) C.hx C.hb d21 rfl ?_
  refine W.lcmp C.hx C.hb d22 ?_
  rw [hu, lg_eq]
  refine lv_if_eq (tgt := pc + 28) C.hx C.hb d23 e3 (fun _ => ?_) (fun h => absurd rfl h)
  exact lv_goto (tgt := 1472) C.hx C.hb d28 e4 kk
/-- the same of an answer of 64 bits -/
theorem tl_l (C : lwC p l s m meth c b L xs D cI cJ) {bb : Nat → Nat} {o0 : Nat} {ou : Nat → Int64} {x : Int64} {wg : va_W} {he cm a2 g2 as db ey re co av hi ke : Nat → Int32} {sq ab be : Nat → Int64} {nw tn : Nat → Int32} {cd : Int32} {q2 q3 : Fin 4}
    (hP : va_P D vwCl (MW bb cI cJ he cm a2 g2 as db ey re co av hi ke sq ab be nw tn 0 cd ++ wg) H) (hw : wg[21]? = some (o0, eJ cJ 1 ou)) (hS : va_S (lwA s) s.heap H locs) (hsz : ls.size = 8)
    (h2 : ls[2]? = some (.val (.ref (bb 0)))) (h3 : ls[3]? = some (.val (.ref o0))) (h5 : ls[5]? = some (.val (.int 0))) (h6 : ls[6]? = some (.val (.long x))) (hu : ou 0 = x) (hq2 : (q2 : Nat) = 2) (hq3 : (q3 : Nat) = 3)
    {t1 t2 t3 : Int} (e1 : ((pc + 6 : Nat) : Int) + t1 = ((pc + 11 : Nat) : Int)) (e2 : ((pc + 13 : Nat) : Int) + t2 = ((pc + 27 : Nat) : Int)) (e3 : ((pc + 22 : Nat) : Int) + t3 = ((pc + 27 : Nat) : Int)) {t4 : Int} (e4 : ((pc + 27 : Nat) : Int) + t4 = ((1472 : Nat) : Int))
    (d0 : decode cL_law pc = .ok (.aload_n q2, 1)) (d1 : decode cL_law (pc + 1) = .ok (.invokevirtual 88, 3)) (d4 : decode cL_law (pc + 4) = .ok (.iload 5, 2)) (d6 : decode cL_law (pc + 6) = .ok (.if_icmp .eq t1, 3))
    (d11 : decode cL_law (pc + 11) = .ok (.iload 5, 2)) (d13 : decode cL_law (pc + 13) = .ok (.ifCond .ne t2, 3)) (d16 : decode cL_law (pc + 16) = .ok (.aload_n q3, 1)) (d17 : decode cL_law (pc + 17) = .ok (.iconst 0, 1)) (d18 : decode cL_law (pc + 18) = .ok (.laload, 1))
    (d19 : decode cL_law (pc + 19) = .ok (.lload 6, 2)) (d21 : decode cL_law (pc + 21) = .ok (.lcmp, 1)) (d22 : decode cL_law (pc + 22) = .ok (.ifCond .eq t3, 3)) (d27 : decode cL_law (pc + 27) = .ok (.goto t4, 3))
    (kk : W p l e room_1 s m #[Value.ref b] below meth c H locs cells slots Q (F0 m 1472 ls [])) (hcs : cells + 0 ≤ 1070 ∧ slots + 0 ≤ 8714) : W p l e room_1 s m #[Value.ref b] below meth c H locs cells slots Q (F0 m pc ls []) := by
  have hK := C.hK
  have hE := C.hE
  refine lv_aload_n C.hx C.hb d0 hq2 h2 ?_
  refine b_csi (v := 0) (W.runV (As := []) (rest := []) C.fix (c_X4_thrown l D bb cI cJ he cm a2 g2 as db ey re co av hi ke sq ab be nw tn 0 cd) (cwV 0 C.hts gL_law_X4_thrown rfl rfl rfl (by decide +kernel) ⟨Nat.le_of_ble_eq_true rfl, Nat.le_of_ble_eq_true rfl⟩) ⟨PR.blind, va_recv hK hP (ci := 4) (q0 := 0) rfl rfl, PR.goP hP hK hE⟩ rfl rfl hsz rfl (lv_room (Nat.le_of_ble_eq_true rfl)) d1 hcs) ?_
  refine lv_iload C.hx C.hb d4 h5 ?_
  refine lv_icmp_eq (tgt := pc + 11) C.hx C.hb d6 e1 (fun _ => ?_) (fun h => absurd rfl h)
  refine lv_iload C.hx C.hb d11 h5 ?_
  refine lv_if_ne (tgt := pc + 27) C.hx C.hb d13 e2 (fun h => absurd rfl h) (fun _ => ?_)
  refine lv_aload_n C.hx C.hb d16 hq3 h3 ?_
  refine lv_iconst (v := nI 0) C.hx C.hb d17 (by decide) ?_
  refine b_lald C.hx C.hb hK hP 39 1 (j := 0) (by show wg[21]? = _; exact hw) rfl (by decide) (by decide) d18 ?_
  refine lv_lload C.hx C.hb d19 h6 ?_
  refine W.lcmp C.hx C.hb d21 ?_
  rw [hu, lg_eq]
  refine lv_if_eq (tgt := pc + 27) C.hx C.hb d22 e3 (fun _ => ?_) (fun h => absurd rfl h)
  exact lv_goto (tgt := 1472) C.hx C.hb d27 e4 kk
/-- both threw the same -/
theorem tl_x (C : lwC p l s m meth c b L xs D cI cJ) {bb : Nat → Nat} {wg : va_W} {he cm a2 g2 as db ey re co av hi ke : Nat → Int32} {sq ab be : Nat → Int64} {nw tn : Nat → Int32} {th cd : Int32} {q2 : Fin 4}
    (hP : va_P D vwCl (MW bb cI cJ he cm a2 g2 as db ey re co av hi ke sq ab be nw tn th cd ++ wg) H) (hsz : ls.size = 8) (hth : ¬ th = 0)
    (h2 : ls[2]? = some (.val (.ref (bb 0)))) (h5 : ls[5]? = some (.val (.int th))) (hq2 : (q2 : Nat) = 2) {tg : Nat}
    {t1 t2 : Int} (e1 : ((pc + 6 : Nat) : Int) + t1 = ((pc + 11 : Nat) : Int)) (e2 : ((pc + 13 : Nat) : Int) + t2 = (tg : Int)) {t4 : Int} (e4 : (tg : Int) + t4 = ((1472 : Nat) : Int))
    (d0 : decode cL_law pc = .ok (.aload_n q2, 1)) (d1 : decode cL_law (pc + 1) = .ok (.invokevirtual 88, 3)) (d4 : decode cL_law (pc + 4) = .ok (.iload 5, 2)) (d6 : decode cL_law (pc + 6) = .ok (.if_icmp .eq t1, 3))
    (d11 : decode cL_law (pc + 11) = .ok (.iload 5, 2)) (d13 : decode cL_law (pc + 13) = .ok (.ifCond .ne t2, 3)) (d28 : decode cL_law tg = .ok (.goto t4, 3))
    (kk : W p l e room_1 s m #[Value.ref b] below meth c H locs cells slots Q (F0 m 1472 ls [])) (hcs : cells + 0 ≤ 1070 ∧ slots + 0 ≤ 8714) : W p l e room_1 s m #[Value.ref b] below meth c H locs cells slots Q (F0 m pc ls []) := by
  have hK := C.hK
  have hE := C.hE
  refine lv_aload_n C.hx C.hb d0 hq2 h2 ?_
  refine b_csi (v := th) (W.runV (As := []) (rest := []) C.fix (c_X4_thrown l D bb cI cJ he cm a2 g2 as db ey re co av hi ke sq ab be nw tn th cd) (cwV 0 C.hts gL_law_X4_thrown rfl rfl rfl (by decide +kernel) ⟨Nat.le_of_ble_eq_true rfl, Nat.le_of_ble_eq_true rfl⟩) ⟨PR.blind, va_recv hK hP (ci := 4) (q0 := 0) rfl rfl, PR.goP hP hK hE⟩ rfl rfl hsz rfl (lv_room (Nat.le_of_ble_eq_true rfl)) d1 hcs) ?_
  refine lv_iload C.hx C.hb d4 h5 ?_
  refine lv_icmp_eq (tgt := pc + 11) C.hx C.hb d6 e1 (fun _ => ?_) (fun h => absurd rfl h)
  refine lv_iload C.hx C.hb d11 h5 ?_
  refine lv_if_ne (tgt := tg) C.hx C.hb d13 e2 (fun _ => ?_) (fun h => absurd h hth)
  exact lv_goto (tgt := 1472) C.hx C.hb d28 e4 kk
end LB
abbrev LOC (b : Nat) (a bb : Nat → Nat) (o0 i : Nat) : List (Nat × Value) := [(0, .ref b), (1, .ref (a 0)), (2, .ref (bb 0)), (3, .ref o0), (4, .int (nI i))]
section LB2
variable {p : Program} {l : Launch} {e : Env} {s : State} {m : MethodId} {below : List Frame} {meth : Method} {c : Code} {H : Heap} {locs : List Loc} {cells slots : Nat} {Q : State → Prop}
variable {pc : Nat} {ls : Array Slot} {D : va_G} {b L : Nat} {xs : Nat → Int32} {cI cJ : ClassId}
/-- behind two calls without an answer -/
theorem tl_v (C : lwC p l s m meth c b L xs D cI cJ) {bb : Nat → Nat} {wg : va_W} {he cm a2 g2 as db ey re co av hi ke : Nat → Int32} {sq ab be : Nat → Int64} {nw tn : Nat → Int32} {th cd : Int32} {q2 : Fin 4}
    (hP : va_P D vwCl (MW bb cI cJ he cm a2 g2 as db ey re co av hi ke sq ab be nw tn th cd ++ wg) H) (hsz : ls.size = 8)
    (h2 : ls[2]? = some (.val (.ref (bb 0)))) (h5 : ls[5]? = some (.val (.int th))) (hq2 : (q2 : Nat) = 2)
    {t1 : Int} (e1 : ((pc + 6 : Nat) : Int) + t1 = ((pc + 11 : Nat) : Int)) {t4 : Int} (e4 : ((pc + 11 : Nat) : Int) + t4 = ((1472 : Nat) : Int))
    (d0 : decode cL_law pc = .ok (.aload_n q2, 1)) (d1 : decode cL_law (pc + 1) = .ok (.invokevirtual 88, 3)) (d4 : decode cL_law (pc + 4) = .ok (.iload 5, 2)) (d6 : decode cL_law (pc + 6) = .ok (.if_icmp .eq t1, 3))
    (d11 : decode cL_law (pc + 11) = .ok (.goto t4, 3))
    (kk : W p l e room_1 s m #[Value.ref b] below meth c H locs cells slots Q (F0 m 1472 ls [])) (hcs : cells + 0 ≤ 1070 ∧ slots + 0 ≤ 8714) : W p l e room_1 s m #[Value.ref b] below meth c H locs cells slots Q (F0 m pc ls []) := by
  have hK := C.hK
  have hE := C.hE
  refine lv_aload_n C.hx C.hb d0 hq2 h2 ?_
  refine b_csi (v := th) (W.runV (As := []) (rest := []) C.fix (c_X4_thrown l D bb cI cJ he cm a2 g2 as db ey re co av hi ke sq ab be nw tn th cd) (cwV 0 C.hts gL_law_X4_thrown rfl rfl rfl (by decide +kernel) ⟨Nat.le_of_ble_eq_true rfl, Nat.le_of_ble_eq_true rfl⟩) ⟨PR.blind, va_recv hK hP (ci := 4) (q0 := 0) rfl rfl, PR.goP hP hK hE⟩ rfl rfl hsz rfl (lv_room (Nat.le_of_ble_eq_true rfl)) d1 hcs) ?_
  refine lv_iload C.hx C.hb d4 h5 ?_
  refine lv_icmp_eq (tgt := pc + 11) C.hx C.hb d6 e1 (fun _ => ?_) (fun h => absurd rfl h)
  exact lv_goto (tgt := 1472) C.hx C.hb d11 e4 kk
end LB2
