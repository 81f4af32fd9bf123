theorem D_nil {A : Nat → Prop} : va_D A ([] : va_W) := ⟨fun i j p q h => by simp at h, fun k q h => by simp at h⟩
theorem P_nil {D : va_G} {cl : List vw_C} {H : Heap} : va_P D cl ([] : va_W) H := fun k q h => by simp at h
def XEA {S : Type} (D : va_G) (tys : List (ClassId × FieldType)) (A : Nat → Prop) (w' : S → va_W) (E0 : String) : String → State → State → Prop := vx_X (fun _ : S => True) (fun E u t => E = E0 ∧ AW D tys A (w' u) t) A
def DCL (U : State) : Prop := va_Nw (.declares ⟨"java/lang/RuntimeException", "<init>", "(Ljava/lang/String;)V"⟩) U ∧ va_Nw (.declares ⟨"java/lang/Exception", "<init>", "(Ljava/lang/String;)V"⟩) U ∧ va_Nw (.declares ⟨"java/lang/Throwable", "<init>", "(Ljava/lang/String;)V"⟩) U
theorem DCL.warm {s U : State} (hW : s.WarmedH U.vm) (h : DCL s) : DCL U := ⟨va_Nw.warmD hW h.1, va_Nw.warmD hW h.2.1, va_Nw.warmD hW h.2.2⟩
theorem DCL.calling {U : State} {g : JFrame} {mk : MethodId} {a : Array Value} (h : DCL U) : DCL (U.calling g mk a) := ⟨va_Nw.same rfl rfl h.1, va_Nw.same rfl rfl h.2.1, va_Nw.same rfl rfl h.2.2⟩
def PY (D : va_G) (tys : List (ClassId × FieldType)) (ws : va_W) (sz : Nat) (U : State) : Prop := PX D tys ws sz U ∧ DCL U
theorem PY.blind {av : List Value} {D : va_G} {tys : List (ClassId × FieldType)} {ws : va_W} {sz : Nat} : FrameBlind (va_Pc av (PY D tys ws sz)) := fun a U g mk h =>
  ⟨h.1, (PX.blind a U g mk ⟨h.1, h.2.1⟩).2, h.2.2.calling⟩
theorem PY.go0 {av : List Value} {D : va_G} {tys : List (ClassId × FieldType)} {s : State} {H : Heap} {A : Nat → Prop} {locs : List Loc} (hK : va_K D vwCl tys s) (hE : EVt s) (hV : EVh A s s.heap) (hDC : DCL s) (hS : va_S A s.heap H locs) (hA : ∀ q, s.heap.size ≤ q → A q) :
    ∀ U : State, U.heap = H → s.WarmedH U.vm → va_Pc av (PY D [] [] H.size) av.toArray U := fun U hU hW =>
  ⟨rfl, ⟨by rw [hU], P_nil, va_K.moved hW.alike (hK.sub [] rfl), D_nil, hE.warm hW, by rw [hU]; exact hV.to hS (A_in (ws := []) D_nil hS hA) hW.alike⟩, hDC.warm hW⟩
section GX
variable {p : Program} {l : Launch} {e : Env} {R : Room} {s : State} {m : MethodId} {args : Array Value} {below : List Frame} {meth : Method} {c : Code} {H : Heap} {locs : List Loc} {Q : State → Prop}
variable {cc : ByteArray} {pc : Nat} {ls : Array Slot} {rest st0 : List Value} {D : va_G} {A : Nat → Prop} {tys : List (ClassId × FieldType)} {ws : va_W} {av : Array Value} {Qc : Array Value → State → Outcome → State → Prop}
theorem b_throw {S : Type} {w' : S → va_W} (u0 : S) (hw : w' u0 = ws) (hexec : p.tables.exec = Jvm.exec) (hb : c.code = cc) (hl : l.stackTraces = false) {own cls text : String} {ik is ic sa : Nat}
    (hown : s.vm.findClass own = some m.cls) (hcls : Bundle.fit cls = true)
    (hk : (Cond.classLink own ik cls).before args s = true) (hini : (Cond.initialized cls).before args s = true) (hstr : vk_R own is text sa s) (hat : ∀ w ∈ vx_atS own ic cls ["java/lang/RuntimeException", "java/lang/Exception"], w.before args s = true)
    (hgood : ∀ w ∈ Cond.classLink own ik cls :: Cond.initialized cls :: vx_atS own ic cls ["java/lang/RuntimeException", "java/lang/Exception"], vx_ot w = true)
    (hP : va_P D vwCl ws H) (hK : va_K D vwCl tys s) (hD : va_D A ws) (hV : EVh A s s.heap) (hS : va_S A s.heap H locs) (hsize : ls.size = c.maxLocals)
    (d0 : decode cc pc = .ok (.new ik, 3)) (d3 : decode cc (pc + 3) = .ok (.dup, 1)) (d4 : decode cc (pc + 4) = .ok (.ldc is, 2)) (d6 : decode cc (pc + 6) = .ok (.invokespecial ic, 3)) (d9 : decode cc (pc + 9) = .ok (.athrow, 1))
    (hno : ∀ x ∈ c.exceptionTable.toList, False)
    (hRf : 5 < R.frames) (hRl : 82 ≤ R.locals) (hRc : 0 + 1 ≤ R.cells) (hRs : 0 + 6 ≤ R.slots) (hlocks : meth.locks = false) :
    W p l e R s m args below meth c H locs 0 0 (vx_MQ below Qc (XEA D tys A w' cls) args s 1 6 A) (F0 m pc ls []) := by
  subst hw
  exact vx_throwS (names := ["java/lang/RuntimeException", "java/lang/Exception"]) hexec hb hl hown hcls (by decide +kernel) hk hini hstr hat hgood hV.1 hV.2 hS hsize d0 d3 d4 d6 d9 (fun x h => (hno x h).elim) hRf hRl hRc hRs hlocks
    (fun t hal hsz hsame => ⟨u0, trivial, ⟨rfl, hP.kept (fun k q hk => hsame q.1 (hP k q hk).lt), va_K.moved hal hK, hD⟩, Nat.le_trans hS.1 hsz, fun q h1 h2 => (hsame q (Nat.lt_of_lt_of_le h1 hS.1)).trans (hS.2.1 q h1 h2)⟩)
    hS.2.2 (Nat.le_refl _) (Nat.le_refl _)
theorem b_bad {S : Type} {w' : S → va_W} (u0 : S) (hw : w' u0 = ws) {E0 : String} (hno : ∀ x ∈ c.exceptionTable.toList, False) (hlocks : meth.locks = false) (hP : va_P D vwCl ws H) (hK : va_K D vwCl tys s) (hD : va_D A ws) (hS : va_S A s.heap H locs) (hA : ∀ q, s.heap.size ≤ q → A q)
    (hr : vx_Run p l e R s m args below meth c H locs 0 0 1 6 (F0 m pc ls st0) rest (va_Qv (fun _ : Unit => False) (fun _ _ => True) (va_A [] H.size) av) (XEA D [] (va_A [] H.size) (fun _ : Unit => []) E0) (va_A [] H.size)) :
    W p l e R s m args below meth c H locs 0 0 (vx_MQ below Qc (XEA D tys A w' E0) args s 1 6 A) (F0 m pc ls st0) := by
  subst hw
  have hA0 : ∀ q, q < H.size → va_A [] H.size q → A q := fun q h1 h2 => by
    rcases h2 with ⟨k, e, h⟩ | h
    · simp at h
    · omega
  have hf : ∀ q, va_A [] H.size q → A q := A_in (ws := []) D_nil hS hA
  have hn : ∀ q, q < H.size → ¬ va_A [] H.size q := fun q h1 h2 => by
    rcases h2 with ⟨k, e, h⟩ | h
    · simp at h
    · omega
  refine vx_callv (A0 := A) (A1 := va_A [] H.size) hr hS hA0 hf hA0 (fun E ce q9 u t H1 locs1 ht hvm hp hB hz1 hk1 hS1 hce hcv hcl => ?_) (fun u t H1 locs1 ht hvm hw => hw.elim)
  obtain ⟨rfl, -⟩ := hB
  refine vx_out (fun x h => (hno x h).elim) hlocks hce hcv hcl (fun t' ht' hal' => ⟨u0, trivial, ⟨rfl, ?_, va_K.moved hal' hK, hD⟩, ?_, ?_⟩) hS1.2.2 (Nat.le_refl _) (Nat.le_refl _)
  · rw [ht']
    exact hP.kept (fun k q hk => hk1 q.1 (hP k q hk).lt (hn q.1 (hP k q hk).lt))
  · rw [ht']; exact hS1.1
  · intro q h1 h2
    rw [ht']; exact hS1.2.1 q h1 h2
end GX
theorem inB_lo {v lo hi : Int32} (h : inB v lo hi = true) : ¬ v < lo := by
  intro hc; rw [inB, if_pos hc] at h; cases h
theorem inB_hi {v lo hi : Int32} (h : inB v lo hi = true) : v ≤ hi := by
  rw [inB, if_neg (inB_lo h)] at h
  by_cases hc : hi < v
  · rw [if_pos hc] at h; cases h
  · exact Int32.not_lt.mp hc
theorem inB_of {v lo hi : Int32} (h1 : ¬ v < lo) (h2 : v ≤ hi) : inB v lo hi = true := by
  rw [inB, if_neg h1, if_neg (Int32.not_lt.mpr h2)]
theorem prB_1 {x y : Int32} (h : prB x y = true) : inB x 0 5 = true := by
  unfold prB at h; split at h
  · assumption
  · cases h
theorem prB_2 {x y : Int32} (h : prB x y = true) : inB y 0 5 = true := by
  rw [prB, if_pos (prB_1 h)] at h; split at h
  · assumption
  · cases h
theorem prB_3 {x y : Int32} (h : prB x y = true) : ¬ x = y := by
  intro e; have h1 := prB_1 h; have h2 := prB_2 h; rw [prB, if_pos h1, if_pos h2, if_pos e] at h; cases h
theorem prB_of {x y : Int32} (h1 : inB x 0 5 = true) (h2 : inB y 0 5 = true) (h3 : ¬ x = y) : prB x y = true := by
  rw [prB, if_pos h1, if_pos h2, if_neg h3]
